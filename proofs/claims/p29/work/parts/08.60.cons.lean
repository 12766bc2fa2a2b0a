/-! what constructors make: rows with the addresses and the heap's size -/
def nA (h : Nat) : Nat → Prop := fun q => h ≤ q
/-- the private constructors that nest mates call -/
def NE (U : State) : Prop := va_Nw (.methodLinkNest RX7 11 yX4_init RX8) U ∧ va_Nw (.methodLinkNest RX7 20 yX3_init RX8) U ∧ va_Nw (.methodLinkNest RX7 27 yX1_init RX8) U ∧ va_Nw (.methodLinkNest RX2 17 yX7_init RX8) U ∧ va_Nw (.methodLinkNest RX8 9 yX7_init RX8) U ∧ va_Nw (.methodLinkNest RX8 28 yX0_init RX8) U
theorem NE.same {u U : State} (e : u.vm = U.vm) (h : NE u) : NE U := ⟨h.1.same rfl e, h.2.1.same rfl e, h.2.2.1.same rfl e, h.2.2.2.1.same rfl e, h.2.2.2.2.1.same rfl e, h.2.2.2.2.2.same rfl e⟩
theorem NE.warm {u U : State} (e : u.WarmedH U.vm) (h : NE u) : NE U := ⟨h.1.warmM e, h.2.1.warmM e, h.2.2.1.warmM e, h.2.2.2.1.warmM e, h.2.2.2.2.1.warmM e, h.2.2.2.2.2.warmM e⟩
def NK (X : bkX) (U : State) : Prop := XK X U ∧ va_AO "BakeTurns$State" U ∧ NE U
theorem NK.same {X : bkX} {u U : State} (e : u.vm = U.vm) (h : NK X u) : NK X U := ⟨va_K.moved (by rw [e]; exact Vm.Alike.refl _) h.1, va_AO.moved (by rw [e]; exact Vm.Alike.refl _) h.2.1, NE.same e h.2.2⟩
theorem NK.warm {X : bkX} {u U : State} (e : u.WarmedH U.vm) (h : NK X u) : NK X U := ⟨va_K.moved e.alike h.1, va_AO.moved e.alike h.2.1, NE.warm e h.2.2⟩
/-- a constructor's contract: the object at h is the heap's last cell; k cells come behind it -/
def cN (l : Launch) (y : MethodName) (ws : List Cond) (rm : Room) (X : bkX) (as : List Value) (h : Nat) (e0 : va_E) (k : Nat) (w1 : va_W) (mc ms : Nat) : Prop := Met l y ws rm (va_Pc as (fun U => U.heap.size = h + 1 ∧ va_P (xD X) vwCl [(h, e0)] U.heap ∧ NK X U)) (va_Qv (fun _ : Unit => True) (fun _ t => t.heap.size = h + 1 + k ∧ va_P (xD X) vwCl w1 t.heap ∧ va_D (nA h) w1) (nA h)) mc ms (nA h)
theorem nD1 {A : Nat → Prop} {h : Nat} {e0 : va_E} (hA : A h) : va_D A [(h, e0)] := by
  have key : ∀ (k : Nat) (q : Nat × va_E), ([(h, e0)] : va_W)[k]? = some q → k = 0 ∧ q = (h, e0) := by
    intro k q hk
    have hz : k < 1 := (List.getElem?_eq_some_iff.mp hk).1
    have e : k = 0 := by omega
    subst e
    cases hk
    exact ⟨rfl, rfl⟩
  refine ⟨fun i j p q hi hj _ => ?_, fun k q hk => ?_⟩
  · rw [(key i p hi).1, (key j q hj).1]
  · rw [(key k q hk).2]
    exact hA
section CONS
variable {p : Program} {l : Launch} {e : Env} {R : Room} {s : State} {m : MethodId} {args : Array Value} {below : List Frame} {meth : Method} {c : Code} {H : Heap} {locs : List Loc} {cells slots : Nat} {Q : State → Prop}
variable {pc : Nat} {ls : Array Slot} {rest st0 : List Value} {cc : ByteArray} {X : bkX} {A : Nat → Prop} {H0 : Heap} {ws w1 : va_W} {z : Nat} {Ts : List Cond} {own C : String} {T : u_T} {N ci index : Nat}
theorem n_app {H1 : Heap} (hP : va_P (xD X) vwCl ws H) (hD : va_D A ws) (hS : va_S A H0 H locs) (hA : ∀ q, H0.size ≤ q → A q) {en : va_E} (hz : H.size = z) (o1 : ∀ q : Nat, q < z → H1[q]? = H[q]?) (z1 : H1.size = z + 1) (he : va_at (xD X) vwCl (z, en) H1) : va_P (xD X) vwCl (ws ++ [(z, en)]) H1 ∧ va_D A (ws ++ [(z, en)]) ∧ va_S A H0 H1 locs := by
  subst hz
  refine ⟨(hP.kept fun k x hx => o1 x.1 ((hP k x hx).lt)).app (fun k x hx => ?_), hD.push hP rfl (hA _ hS.1), Nat.le_trans hS.1 (by omega), fun x h1 h2 => (o1 x (Nat.lt_of_lt_of_le h1 hS.1)).trans (hS.2.1 x h1 h2), hS.2.2⟩
  have hk : k < 1 := (List.getElem?_eq_some_iff.mp hx).1
  have e : k = 0 := by omega
  subst e
  cases hx
  exact he
theorem n_new (hexec : p.tables.exec = Jvm.exec) (hb : c.code = cc) (hts : ∀ w ∈ Ts, w.before args s = true) (hin : ∀ w ∈ u_ws C T N, w ∈ Ts) (ty : Nat → FieldType) (hty : ∀ k, k < N → parseFieldDescriptor (T k).2.2.1 = some (ty k)) (hown : s.vm.findClass own = some m.cls) (hcl : (Cond.classLink own index C).before args s = true) (hinst : (Cond.instantiable C N).before args s = true) (hini : (Cond.initialized C).before args s = true)
    (hK : NK X s) (hP : va_P (xD X) vwCl ws H) (hD : va_D A ws) (hS : va_S A H0 H locs) (hA : ∀ q, H0.size ≤ q → A q) (hz : H.size = z) (hc : vwCl[ci]? = some (C, T, N)) {fs : List Value} (hfs : ∀ j, j < N → defaultValue (ty j) = vp_V fs j) (hcells : cells + 1 ≤ R.cells) (hslots : slots + N ≤ R.slots) (hdg : decode cc pc = .ok (.new index, 3))
    (kk : ∀ H1 : Heap, va_P (xD X) vwCl (ws ++ [(z, .inr (ci, fs))]) H1 → va_D A (ws ++ [(z, .inr (ci, fs))]) → va_S A H0 H1 locs → H1.size = z + 1 → W p l e R s m args below meth c H1 locs (cells + 1) (slots + N) Q (F0 m (pc + 3) ls (.ref z :: rest))) : W p l e R s m args below meth c H locs cells slots Q (F0 m pc ls rest) := by
  have hKn := hK.1.1 ci _ hc
  refine W.newcK hexec hb hown hcl hinst hini rfl hdg hcells hslots hKn.2.1 hz fun H1 kC hkC e1 z1 o1 => ?_
  obtain ⟨a1, a2, a3⟩ := n_app hP hD hS hA hz o1 z1 (en := .inr (ci, fs)) ⟨_, hc, (u_born ty hts hin hKn hkC e1 hty).to hfs⟩
  exact kk H1 a1 a2 a3 z1
theorem n_newa (hexec : p.tables.exec = Jvm.exec) (hb : c.code = cc) {atype : ArrayType} (harr : (Cond.arrayClass (newarray.typeOf atype)).before args s = true) {ty : FieldType} (hty : newarray.typeOf atype = ty) {cA : ClassId} (hcA : s.vm.findClass ("[" ++ ty.toString) = some cA) (hP : va_P (xD X) vwCl ws H) (hD : va_D A ws) (hS : va_S A H0 H locs) (hA : ∀ q, H0.size ≤ q → A q) (hz : H.size = z)
    {n : Int32} {N' : Nat} {a0 : vp_A} (ha : vp_cell cA a0 = arrV cA N' (fun _ => defaultValue ty)) (hn : ¬ n < 0) (hN : n.toNatClampNeg = N') (hbytes : N' * componentBytes ty ≤ 536870912) (hcells : cells + 1 ≤ R.cells) (hslots : slots + N' ≤ R.slots) (hdg : decode cc pc = .ok (.newarray atype, 2))
    (kk : ∀ H1 : Heap, va_P (xD X) vwCl (ws ++ [(z, .inl (cA, a0))]) H1 → va_D A (ws ++ [(z, .inl (cA, a0))]) → va_S A H0 H1 locs → H1.size = z + 1 → W p l e R s m args below meth c H1 locs (cells + 1) (slots + N') Q (F0 m (pc + 2) ls (.ref z :: rest))) : W p l e R s m args below meth c H locs cells slots Q (F0 m pc ls (.int n :: rest)) := by
  subst hty
  refine va_newaK hexec hb harr rfl hdg rfl hn hN hbytes hcells hslots hz fun H1 cB e1 z1 o1 _ hNm => ?_
  have eC : cB = cA := Option.some.inj (hNm.symm.trans hcA)
  subst eC
  obtain ⟨a1, a2, a3⟩ := n_app hP hD hS hA hz o1 z1 (en := .inl (cB, a0)) (by show H1[z]? = some (vp_cell _ _); rw [ha]; exact e1)
  exact kk H1 a1 a2 a3 z1
theorem n_newq (hexec : p.tables.exec = Jvm.exec) (hb : c.code = cc) (hown : s.vm.findClass own = some m.cls) (hclink : (Cond.classLink own index C).before args s = true) (hover : va_AO C s) {cA : ClassId} (hcA : s.vm.findClass ("[" ++ (FieldType.object C).toString) = some cA) (hP : va_P (xD X) vwCl ws H) (hD : va_D A ws) (hS : va_S A H0 H locs) (hA : ∀ q, H0.size ≤ q → A q) (hz : H.size = z)
    {n : Int32} {N' : Nat} (hn : ¬ n < 0) (hN : n.toNatClampNeg = N') (hbytes : N' * 4 ≤ 536870912) (hcells : cells + 1 ≤ R.cells) (hslots : slots + N' ≤ R.slots) (hdg : decode cc pc = .ok (.anewarray index, 3))
    (kk : ∀ H1 : Heap, va_P (xD X) vwCl (ws ++ [(z, .inl (cA, N', .inr (.inr (.inr (.inr (fun _ => none))))))]) H1 → va_D A (ws ++ [(z, .inl (cA, N', .inr (.inr (.inr (.inr (fun _ => none))))))]) → va_S A H0 H1 locs → H1.size = z + 1 → W p l e R s m args below meth c H1 locs (cells + 1) (slots + N') Q (F0 m (pc + 3) ls (.ref z :: rest))) : W p l e R s m args below meth c H locs cells slots Q (F0 m pc ls (.int n :: rest)) := by
  subst hN
  subst hz
  refine W.anew hexec hb hown hclink (va_AO.use hover) rfl hdg rfl hn hbytes hcells hslots fun cB kA comp f1 f2 f3 f4 => ?_
  have eC : cB = cA := Option.some.inj (f1.symm.trans hcA)
  subst eC
  generalize hH1 : H.push ({ cls := cB, slots := Array.replicate n.toNatClampNeg .null, vm := .none } : Cell) = H1
  have z1 : H1.size = H.size + 1 := by rw [← hH1, Array.size_push]
  have e1 : H1[H.size]? = some (arrV cB n.toNatClampNeg (fun _ => .null)) := by rw [← hH1, Array.getElem?_push_size, ← arrV_new]
  have o1 : ∀ q : Nat, q < H.size → H1[q]? = H[q]? := fun q hq => by rw [← hH1, Array.getElem?_push, if_neg (Nat.ne_of_lt hq)]
  obtain ⟨a1, a2, a3⟩ := n_app hP hD hS hA rfl o1 z1 (en := .inl (cB, n.toNatClampNeg, .inr (.inr (.inr (.inr (fun _ => none)))))) (by show H1[H.size]? = some (vp_cell _ _); rw [vp_cell_q]; exact e1)
  exact kk H1 a1 a2 a3 z1
/-- a field of an object is set: what of its class the machine asks -/
theorem n_set {H1 : Heap} {locs1 : List Loc} {q0 a k : Nat} {fs : List Value} {v : Value} {cell : Cell} (hts : ∀ w ∈ Ts, w.before args s = true) (hin : ∀ w ∈ u_ws C T N, w ∈ Ts) (ty0 : Nat → FieldType) (hty : ∀ k, k < N → parseFieldDescriptor (T k).2.2.1 = some (ty0 k)) (hnm : ∀ a, a < N → ∀ b, b < N → a ≠ b → (T a).2.1 ≠ (T b).2.1) (hK : NK X s) (hP : va_P (xD X) vwCl ws H) (hD : va_D A ws) (he : ws[q0]? = some (a, .inr (ci, fs))) (hc : vwCl[ci]? = some (C, T, N)) (hk : k < N) (hl : k < fs.length) (q1 : H[a]? = some cell) (q2 : cell.cls = (xD X).1 ci) (q3 : cell.vm = .none) (q4 : ∀ j, j < N → cell.slots[(xD X).2 ci j]? = some (vp_V fs j)) (e1 : H1[a]? = some (cell.setSlot ((xD X).2 ci k) v)) (e3 : ∀ q, q ≠ a → H1[q]? = H[q]?) : va_P (xD X) vwCl (ws.set q0 (a, .inr (ci, fs.set k v))) H1 := by
  have hap := va_apart (own := C) hts hin ty0 hty hnm hK.1 hc
  exact hP.set hD he ⟨_, hc, t_OB.to (V := updV (vp_V fs) k v) ⟨_, e1, q2, q3, t_set q4 hap hk v⟩ (fun j _ => vp_updV_set hl v j)⟩ e3
theorem n_putF (hexec : p.tables.exec = Jvm.exec) (hb : c.code = cc) (hts : ∀ w ∈ Ts, w.before args s = true) (hin : ∀ w ∈ u_ws C T N, w ∈ Ts) (ty0 : Nat → FieldType) (hty : ∀ k, k < N → parseFieldDescriptor (T k).2.2.1 = some (ty0 k)) (hnm : ∀ a, a < N → ∀ b, b < N → a ≠ b → (T a).2.1 ≠ (T b).2.1) (hown : s.vm.findClass own = some m.cls) (hK : NK X s) (hP : va_P (xD X) vwCl ws H) (hD : va_D A ws) (hS : va_S A H0 H locs) (q0 : Nat) {a : Nat} {fs : List Value} (he : ws[q0]? = some (a, .inr (ci, fs))) (hc : vwCl[ci]? = some (C, T, N)) (k : Nat) (hk : k < N) (hlink : (Cond.fieldLink own index (T k).1 (T k).2.1 (T k).2.2.1).before args s = true) (hfin : (T k).2.2.2 = true) (hin2 : meth.name = "<init>") (hdecl : (T k).1 = own) {ty : FieldType} {v : Value} (hd : parseFieldDescriptor (T k).2.2.1 = some ty) (hn : narrow ty v = v) (hfit : fits ty v = true) (hl : k < fs.length)
    (hdg : decode cc pc = .ok (.putfield index, 3)) (kk : ∀ (H1 : Heap) (locs1 : List Loc), va_P (xD X) vwCl (ws.set q0 (a, .inr (ci, fs.set k v))) H1 → va_D A (ws.set q0 (a, .inr (ci, fs.set k v))) → va_S A H0 H1 locs1 → H1.size = H.size → W p l e R s m args below meth c H1 locs1 cells slots Q (F0 m (pc + 3) ls rest)) : W p l e R s m args below meth c H locs cells slots Q (F0 m pc ls (v :: .ref a :: rest)) := by
  obtain ⟨r, h1, cell, q1, q2, q3, q4⟩ := hP q0 _ he
  have hr : r = (C, T, N) := Option.some.inj (h1.symm.trans hc)
  subst hr
  obtain ⟨hSl, hfc, kC, hkC, hkind⟩ := hK.1.1 ci _ hc
  obtain ⟨cf, kf, fi, f, hi, hsl⟩ := hSl k hk
  have hlay := hts _ (hin _ (u_in_lay hk))
  unfold u_lay at hlay
  rw [if_pos hfin] at hlay
  have hst := (u_facts hfc hkC (u_lays hts hin hk) hi).1
  have hcf : m.cls = cf := by
    obtain ⟨_, _, c', _, _, _, -, -, hf', -, -, -, hown2, -⟩ := Cond.laysFinal_spec hlay
    have e1 : c' = cf := by have := hi.symm.trans hf'; simp at this; exact this.1.symm
    rw [hdecl] at hown2
    rw [← e1]; exact Option.some.inj (hown.symm.trans hown2)
  have h6 := u_fits hfc hkC hkind (Or.inr hlay) hi hd hn hfit
  refine W.putFinK hexec hb hown hlink hi hst hcf hin2 (by rw [q2]; exact h6) q1 q3 (by rw [hsl]; exact k2_hasslot (q4 k hk)) rfl rfl hdg fun H' e1 e2 e3 => ?_
  rw [hsl] at e1 ⊢
  exact kk H' _ (n_set (locs1 := locs) hts hin ty0 hty hnm hK hP hD he hc hk hl q1 q2 q3 q4 e1 e3) (hD.set he) (hS.put e2 e3 (hD.2 q0 _ he)) e2
theorem n_put (hexec : p.tables.exec = Jvm.exec) (hb : c.code = cc) (hts : ∀ w ∈ Ts, w.before args s = true) (hin : ∀ w ∈ u_ws C T N, w ∈ Ts) (ty0 : Nat → FieldType) (hty : ∀ k, k < N → parseFieldDescriptor (T k).2.2.1 = some (ty0 k)) (hnm : ∀ a, a < N → ∀ b, b < N → a ≠ b → (T a).2.1 ≠ (T b).2.1) (hown : s.vm.findClass own = some m.cls) (hK : NK X s) (hP : va_P (xD X) vwCl ws H) (hD : va_D A ws) (hS : va_S A H0 H locs) (q0 : Nat) {a : Nat} {fs : List Value} (he : ws[q0]? = some (a, .inr (ci, fs))) (hc : vwCl[ci]? = some (C, T, N)) (k : Nat) (hk : k < N) (hlink : (Cond.fieldLink own index (T k).1 (T k).2.1 (T k).2.2.1).before args s = true) (hfin : (T k).2.2.2 = false) {ty : FieldType} {v : Value} (hd : parseFieldDescriptor (T k).2.2.1 = some ty) (hn : narrow ty v = v) (hfit : fits ty v = true) (hl : k < fs.length)
    (hdg : decode cc pc = .ok (.putfield index, 3)) (kk : ∀ (H1 : Heap) (locs1 : List Loc), va_P (xD X) vwCl (ws.set q0 (a, .inr (ci, fs.set k v))) H1 → va_D A (ws.set q0 (a, .inr (ci, fs.set k v))) → va_S A H0 H1 locs1 → H1.size = H.size → W p l e R s m args below meth c H1 locs1 cells slots Q (F0 m (pc + 3) ls rest)) : W p l e R s m args below meth c H locs cells slots Q (F0 m pc ls (v :: .ref a :: rest)) := by
  obtain ⟨r, h1, cell, q1, q2, q3, q4⟩ := hP q0 _ he
  have hr : r = (C, T, N) := Option.some.inj (h1.symm.trans hc)
  subst hr
  obtain ⟨hSl, hfc, kC, hkC, hkind⟩ := hK.1.1 ci _ hc
  obtain ⟨cf, kf, fi, f, hi, hsl⟩ := hSl k hk
  have hlay := hts _ (hin _ (u_in_lay hk))
  unfold u_lay at hlay
  rw [if_neg (by rw [hfin]; decide)] at hlay
  have hst := (u_facts hfc hkC (u_lays hts hin hk) hi).1
  have h6 := u_store hfc hkC hkind hlay hi hd hn hfit
  refine W.putK hexec hb (f := f) ⟨hown, hlink, ⟨_, _, _, hi⟩, hst⟩ (by rw [q2]; exact h6) q1 q3 (by rw [hsl]; exact k2_hasslot (q4 k hk)) rfl rfl hdg fun H' e1 e2 e3 => ?_
  rw [hsl] at e1 ⊢
  exact kk H' _ (n_set (locs1 := locs) hts hin ty0 hty hnm hK hP hD he hc hk hl q1 q2 q3 q4 e1 e3) (hD.set he) (hS.put e2 e3 (hD.2 q0 _ he)) e2
theorem n_fast {A' : Nat → Prop} (hexec : p.tables.exec = Jvm.exec) (hb : c.code = cc) (hK : NK X s) (hP : va_P (xD X) vwCl ws H) (hD : va_D A' ws) (hS : va_S A H0 H locs) {a n : Nat} (haA : A a) (q0 : Nat) {f : Nat → Int32} (ha : ws[q0]? = some (a, .inl (xI X, n, .inl f))) {i : Int32} {x : Int32} (hin : vp_in i n) (hdg : decode cc pc = .ok (.iastore, 1))
    (kk : ∀ (H1 : Heap) (locs1 : List Loc), va_P (xD X) vwCl (ws.set q0 (a, .inl (xI X, n, .inl (upd f i.toNatClampNeg x)))) H1 → va_S A H0 H1 locs1 → H1.size = H.size → W p l e R s m args below meth c H1 locs1 cells slots Q (F0 m (pc + 1) ls rest)) : W p l e R s m args below meth c H locs cells slots Q (F0 m pc ls (.int x :: .int i :: .ref a :: rest)) := by
  refine W.iast hexec hb (hP q0 _ ha) ((hK.1.2 0 _ rfl).1 n (fun j => .int (f j))) (fun q => by cases q) (by show ¬ (i < 0 ∨ (arrV _ _ _).slots.size ≤ _); rw [arrV_size]; exact hin) rfl rfl hdg fun H1 e z oq => ?_
  refine kk H1 _ (hP.set hD ha ?_ oq) (hS.put z oq haA) z
  show H1[a]? = some (vp_cell _ _)
  rw [e]
  rw [vp_cell_i, vp_cell_i, arrV_store]
  congr 2
  funext q
  by_cases hq : q = i.toNatClampNeg
  · subst hq
    simp [updV, upd]
  · simp [updV, upd, hq]
theorem n_astq (hexec : p.tables.exec = Jvm.exec) (hb : c.code = cc) (hK : NK X s) (hP : va_P (xD X) vwCl ws H) (hD : va_D A ws) (hS : va_S A H0 H locs) (q0 qk : Nat) {a n v : Nat} {vs : List Value} {f : Nat → Option Nat} (ha : ws[q0]? = some (a, .inl (xQ X, n, .inr (.inr (.inr (.inr f)))))) (hv : ws[qk]? = some (v, .inr (7, vs))) {i : Int32} (hin : vp_in i n) (hdg : decode cc pc = .ok (.aastore, 1))
    (kk : ∀ (H1 : Heap) (locs1 : List Loc), va_P (xD X) vwCl (ws.set q0 (a, .inl (xQ X, n, .inr (.inr (.inr (.inr (va_up f i.toNatClampNeg (some v)))))))) H1 → va_D A (ws.set q0 (a, .inl (xQ X, n, .inr (.inr (.inr (.inr (va_up f i.toNatClampNeg (some v)))))))) → va_S A H0 H1 locs1 → H1.size = H.size → W p l e R s m args below meth c H1 locs1 cells slots Q (F0 m (pc + 1) ls rest)) : W p l e R s m args below meth c H locs cells slots Q (F0 m pc ls (.ref v :: .int i :: .ref a :: rest)) := by
  have hlt : i.toNatClampNeg < n := Nat.not_le.mp fun q => hin (Or.inr q)
  have h0 : ¬ i < 0 := fun q => hin (Or.inl q)
  obtain ⟨r', hr', cellV, g1, g2, g3, -⟩ := hP qk _ hv
  have hcls := (hK.1.1 7 (RX7, TX7, 14) rfl).2
  obtain ⟨kA, comp, k1, k2, k3, -⟩ := (hK.1.2 1 _ rfl).2
  have hcomp : comp = (xD X).1 7 := Option.some.inj (k3.symm.trans hcls.1)
  subst hcomp
  obtain ⟨kC, hkC, -⟩ := hcls.2
  refine W.aast hexec hb (hP q0 _ ha) (fun q h => by cases h) (fun h => by cases h) k1 k2 rfl hkC ⟨h0, by show _ < (arrV _ _ _).slots.size; rw [arrV_size]; exact hlt⟩ g1 (fun q h => by rw [g3] at h; cases h) (by rw [g2]; exact hkC) (by rw [g2]; exact va_assign hcls) rfl rfl hdg fun H1 e z oq => ?_
  refine kk H1 _ (hP.set hD ha ?_ oq) (hD.set ha) (hS.put z oq (hD.2 q0 _ ha)) z
  show H1[a]? = some (vp_cell _ _)
  rw [e]
  rw [vp_cell_q, vp_cell_q, arrV_store]
  congr 2
  funext q
  by_cases hq : q = i.toNatClampNeg
  · subst hq
    simp [updV, va_up, va_rf]
  · simp [updV, va_up, hq]
variable {y : MethodName} {bytes : ByteArray} {maxL nL n mc ms k h : Nat} {wsy : List Cond} {rm : Room} {As : List Value} {e0 : va_E}
theorem n_call (S : CallFix p m c cc nL s args Ts own) (hM : cN l y wsy rm X (.ref h :: As) h e0 k w1 mc ms) (cw : CallB R s args own index y bytes maxL none wsy rm mc ms n ∧ y.name = "<init>" ∧ (Cond.instanceMethod y).before args s = true) (hK : NK X s) (hP : va_P (xD X) vwCl (ws ++ [(h, e0)]) H) (hD : va_D A (ws ++ [(h, e0)])) (hS : va_S A H0 H locs) (hA : ∀ q, H0.size ≤ q → A q) (hz : H.size = h + 1)
    (hn : As.length = n) (hsize : ls.size = nL) (hstack : st0 = As.reverse ++ .ref h :: rest) (hrm : (rest.map fun v => v.category).sum ≤ 8) (hdg : decode cc pc = .ok (.invokespecial index, 3)) (hf : cells + mc ≤ R.cells ∧ slots + ms ≤ R.slots)
    (kk : ∀ (H1 : Heap) (locs1 : List Loc), va_P (xD X) vwCl (ws ++ w1) H1 → va_D A (ws ++ w1) → va_S A H0 H1 locs1 → H1.size = h + 1 + k → W p l e R s m args below meth c H1 locs1 (cells + mc) (slots + ms) Q (F0 m (pc + 3) ls rest)) : W p l e R s m args below meth c H locs cells slots Q (F0 m pc ls st0) := by
  have hlast : (ws ++ [(h, e0)])[ws.length]? = some (h, e0) := by simp
  have hAh : A h := hD.2 _ _ hlast
  have hall : ∀ q, nA h q → A q := by
    intro q hq
    by_cases e : q = h
    · rw [e]; exact hAh
    · have h1 : h ≤ q := hq
      have h2 := hS.1
      exact hA q (by omega)
  have hws : ∀ (k : Nat) (q : Nat × va_E), ws[k]? = some q → q.1 < h := by
    intro k q hk
    have hkl : k < ws.length := (List.getElem?_eq_some_iff.mp hk).1
    have hk2 : (ws ++ [(h, e0)])[k]? = some q := by rw [List.getElem?_append_left hkl]; exact hk
    have h1 := (hP k q hk2).lt
    have h2 : q.1 ≠ h := by
      intro e
      have := hD.1 k ws.length q (h, e0) hk2 hlast e
      omega
    omega
  have hPc : va_P (xD X) vwCl [(h, e0)] H := fun k q hk => by
    have hz : k < 1 := (List.getElem?_eq_some_iff.mp hk).1
    have e : k = 0 := by omega
    subst e
    cases hk
    exact hP _ _ hlast
  refine va_callv (va_runI (b := h) (As := As) (rest := rest) S hM cw ⟨fun _ _ _ _ q => ⟨q.1, q.2.1, q.2.2.1, q.2.2.2.same rfl⟩, fun U hU hW => ⟨rfl, by show U.heap.size = h + 1; rw [hU]; exact hz, by show va_P _ _ _ U.heap; rw [hU]; exact hPc, NK.warm hW hK⟩⟩ rfl hn hsize hstack (by simpa using hrm) hdg hf) hS (fun q _ h1 => hall q h1) (fun q h1 => hall q h1) (fun u t H1 locs1 ht hvm hw hB hz1 hk1 hS1 => ?_)
  obtain ⟨b1, b2, b3⟩ := hB
  rw [ht] at b1 b2
  refine kk H1 locs1 (va_P.app (fun k q hk => ?_) b2) (va_D.app ⟨fun i j x y hi hj => ?_, fun k q hk => ?_⟩ (b3.weaken (fun k q _ h1 => hall q.1 h1)) (fun i j x y hx hy e => ?_)) hS1 b1
  · have hkl : k < ws.length := (List.getElem?_eq_some_iff.mp hk).1
    have hk2 : (ws ++ [(h, e0)])[k]? = some q := by rw [List.getElem?_append_left hkl]; exact hk
    have hlt := hws k q hk
    exact (hP k q hk2).kept (hk1 q.1 (by omega) (fun h1 => by have h2 : h ≤ q.1 := h1; omega))
  · have h1 : i < ws.length := (List.getElem?_eq_some_iff.mp hi).1
    have h2 : j < ws.length := (List.getElem?_eq_some_iff.mp hj).1
    exact hD.1 i j x y (by rw [List.getElem?_append_left h1]; exact hi) (by rw [List.getElem?_append_left h2]; exact hj)
  · have h1 : k < ws.length := (List.getElem?_eq_some_iff.mp hk).1
    exact hD.2 k q (by rw [List.getElem?_append_left h1]; exact hk)
  · have h1 := hws i x hx
    have h2 : h ≤ y.1 := b3.2 j y hy
    omega
theorem cwN {ws' : List Cond} {host : String} (n : Nat) (ht : ∀ w ∈ Ts, w.before args s = true) (hG : GoodIn Ts wsy) (hw : wsy = Cond.code y bytes maxL none :: ws') (hrc : rm.cells = mc) (hrs : rm.slots = ms) (hini : (Cond.initialized y.cls).before args s = true) (hl : va_Nw (.methodLinkNest own index y host) s) (hin : (Cond.instanceMethod y).before args s = true) (hy1 : y.name = "<init>")
    (hd : y.cls ≠ "java/lang/invoke/MethodHandle" ∧ y.cls ≠ "java/lang/invoke/VarHandle" ∧ (parseMethodDescriptor y.desc).map (fun d => d.parameters.length) = some n) (hR : rm.frames + 1 ≤ R.frames ∧ 8 + (maxL + 11) + rm.locals ≤ R.locals) : va_CN R s args own index y host bytes maxL none wsy rm mc ms n ∧ y.name = "<init>" ∧ (Cond.instanceMethod y).before args s = true :=
  ⟨va_cnB n ht hG hw hrc hrs hl hini hd hR, hy1, hin⟩
theorem n_callN {host : String} (S : CallFix p m c cc nL s args Ts own) (hM : cN l y wsy rm X (.ref h :: As) h e0 k w1 mc ms) (cw : va_CN R s args own index y host bytes maxL none wsy rm mc ms n ∧ y.name = "<init>" ∧ (Cond.instanceMethod y).before args s = true) (hK : NK X s) (hP : va_P (xD X) vwCl (ws ++ [(h, e0)]) H) (hD : va_D A (ws ++ [(h, e0)])) (hS : va_S A H0 H locs) (hA : ∀ q, H0.size ≤ q → A q) (hz : H.size = h + 1)
    (hn : As.length = n) (hsize : ls.size = nL) (hstack : st0 = As.reverse ++ .ref h :: rest) (hrm : (rest.map fun v => v.category).sum ≤ 8) (hdg : decode cc pc = .ok (.invokespecial index, 3)) (hf : cells + mc ≤ R.cells ∧ slots + ms ≤ R.slots)
    (kk : ∀ (H1 : Heap) (locs1 : List Loc), va_P (xD X) vwCl (ws ++ w1) H1 → va_D A (ws ++ w1) → va_S A H0 H1 locs1 → H1.size = h + 1 + k → W p l e R s m args below meth c H1 locs1 (cells + mc) (slots + ms) Q (F0 m (pc + 3) ls rest)) : W p l e R s m args below meth c H locs cells slots Q (F0 m pc ls st0) := by
  have hlast : (ws ++ [(h, e0)])[ws.length]? = some (h, e0) := by simp
  have hAh : A h := hD.2 _ _ hlast
  have hall : ∀ q, nA h q → A q := by
    intro q hq
    by_cases e : q = h
    · rw [e]; exact hAh
    · have h1 : h ≤ q := hq
      have h2 := hS.1
      exact hA q (by omega)
  have hws : ∀ (k : Nat) (q : Nat × va_E), ws[k]? = some q → q.1 < h := by
    intro k q hk
    have hkl : k < ws.length := (List.getElem?_eq_some_iff.mp hk).1
    have hk2 : (ws ++ [(h, e0)])[k]? = some q := by rw [List.getElem?_append_left hkl]; exact hk
    have h1 := (hP k q hk2).lt
    have h2 : q.1 ≠ h := by
      intro e
      have := hD.1 k ws.length q (h, e0) hk2 hlast e
      omega
    omega
  have hPc : va_P (xD X) vwCl [(h, e0)] H := fun k q hk => by
    have hz : k < 1 := (List.getElem?_eq_some_iff.mp hk).1
    have e : k = 0 := by omega
    subst e
    cases hk
    exact hP _ _ hlast
  refine va_callv (va_runIN (b := h) (As := As) (rest := rest) S hM cw ⟨fun _ _ _ _ q => ⟨q.1, q.2.1, q.2.2.1, q.2.2.2.same rfl⟩, fun U hU hW => ⟨rfl, by show U.heap.size = h + 1; rw [hU]; exact hz, by show va_P _ _ _ U.heap; rw [hU]; exact hPc, NK.warm hW hK⟩⟩ rfl hn hsize hstack (by simpa using hrm) hdg hf) hS (fun q _ h1 => hall q h1) (fun q h1 => hall q h1) (fun u t H1 locs1 ht hvm hw hB hz1 hk1 hS1 => ?_)
  obtain ⟨b1, b2, b3⟩ := hB
  rw [ht] at b1 b2
  refine kk H1 locs1 (va_P.app (fun k q hk => ?_) b2) (va_D.app ⟨fun i j x y hi hj => ?_, fun k q hk => ?_⟩ (b3.weaken (fun k q _ h1 => hall q.1 h1)) (fun i j x y hx hy e => ?_)) hS1 b1
  · have hkl : k < ws.length := (List.getElem?_eq_some_iff.mp hk).1
    have hk2 : (ws ++ [(h, e0)])[k]? = some q := by rw [List.getElem?_append_left hkl]; exact hk
    have hlt := hws k q hk
    exact (hP k q hk2).kept (hk1 q.1 (by omega) (fun h1 => by have h2 : h ≤ q.1 := h1; omega))
  · have h1 : i < ws.length := (List.getElem?_eq_some_iff.mp hi).1
    have h2 : j < ws.length := (List.getElem?_eq_some_iff.mp hj).1
    exact hD.1 i j x y (by rw [List.getElem?_append_left h1]; exact hi) (by rw [List.getElem?_append_left h2]; exact hj)
  · have h1 : k < ws.length := (List.getElem?_eq_some_iff.mp hk).1
    exact hD.2 k q (by rw [List.getElem?_append_left h1]; exact hk)
  · have h1 := hws i x hx
    have h2 : h ≤ y.1 := b3.2 j y hy
    omega
theorem n_vret (hexec : p.tables.exec = Jvm.exec) (hb : c.code = cc) (hr : meth.sig.returnType = none) (hlocks : meth.locks = false) (hP : va_P (xD X) vwCl ws H) (hD : va_D (nA h) ws) (hS : va_S (nA h) s.heap H locs) (hz : H.size = h + 1 + k) (hdg : decode cc pc = .ok (.return_, 1)) : W p l e R s m args below meth c H locs mc ms (MQ below (va_Qv (fun _ : Unit => True) (fun _ t => t.heap.size = h + 1 + k ∧ va_P (xD X) vwCl ws t.heap ∧ va_D (nA h) ws) (nA h)) args s mc ms (nA h)) (F0 m pc ls []) :=
  W.vret hexec hb hr (fun t ht hW => ⟨⟨(), rfl, trivial, by rw [ht]; exact hz, by rw [ht]; exact hP, hD⟩, hS.F ht⟩) hS.2.2 hdg hlocks
end CONS
