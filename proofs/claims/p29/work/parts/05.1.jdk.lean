/-! the class's String constants, and what of the JDK's statics the code reads -/
abbrev bkY : Type := (Nat → Nat) × (Nat → Nat)
def exA : String := "java/lang/IndexOutOfBoundsException"
def exB : String := "java/lang/IllegalArgumentException"
def exC : String := "java/lang/IllegalStateException"
def XG (U : State) : Prop := (va_Nw (.castable exA exA) U ∧ va_Nw (.castable exB exB) U ∧ va_Nw (.castable exC exC) U) ∧ (va_Nw (.declares (Bundle.initS "java/lang/RuntimeException")) U ∧ va_Nw (.declares (Bundle.initS "java/lang/Exception")) U ∧ va_Nw (.declares (Bundle.initS Bundle.tN)) U) ∧ va_Nc exB exA U ∧ va_Nc exC exA U ∧ va_Nc exC exB U ∧ va_Nc exA exB U ∧ va_Nc exA exC U ∧ va_Nc exB exC U
theorem XG.warm {s U : State} (hW : s.WarmedH U.vm) (h : XG s) : XG U := by
  obtain ⟨⟨a, b, c⟩, ⟨x, y, z⟩, d, e, f, g, i, j⟩ := h
  exact ⟨⟨a.warmC hW, b.warmC hW, c.warmC hW⟩, ⟨x.warmD hW, y.warmD hW, z.warmD hW⟩, d.moved hW.alike, e.moved hW.alike, f.moved hW.alike, g.moved hW.alike, i.moved hW.alike, j.moved hW.alike⟩
def SG (Y : bkY) (b0 : Nat) (U : State) : Prop :=
  True ∧ True ∧
  (vk_R RX8 199 "there is no such number" (Y.1 8) U ∧ vk_R RX8 206 "an argument is out of range" (Y.1 9) U ∧ vk_R RX8 211 "this cannot be done now" (Y.1 10) U) ∧
  True ∧ True ∧
  vx_Zq Bundle.tN "UNASSIGNED_STACK" Bundle.steD (xF b0) U U.heap ∧ vx_Zq Bundle.tN "SUPPRESSED_SENTINEL" Bundle.listD (xF b0) U U.heap ∧ XG U
theorem SG.to {Y : bkY} {b0 : Nat} {s U : State} {H : Heap} {locs : List Loc} (hG : SG Y b0 s) (hS : va_S (xF b0) s.heap H locs) (h1 : U.heap = H) (hW : s.WarmedH U.vm) : SG Y b0 U := by
  obtain ⟨-, -, ⟨k8, k9, k10⟩, -, -, g6, g7, g8⟩ := hG
  unfold SG
  rw [h1]
  exact ⟨trivial, trivial, ⟨k8.warm hW, k9.warm hW, k10.warm hW⟩, trivial, trivial, vx_Zq.moved hW.alike (g6.kept hS.2.1), vx_Zq.moved hW.alike (g7.kept hS.2.1), g8.warm hW⟩
theorem SG.calling {Y : bkY} {b0 : Nat} {U : State} {g : JFrame} {mk : MethodId} {a : Array Value} (hG : SG Y b0 U) : SG Y b0 (U.calling g mk a) :=
  SG.to (locs := []) hG va_S.rf rfl (State.WarmedH.refl _)
def WS (X : bkX) (Y : bkY) (b0 : Nat) (w : bkW) (U : State) : Prop := WU X w U ∧ SG Y b0 U
theorem w_blindS {X : bkX} {Y : bkY} {b0 : Nat} {w : bkW} {as : List Value} : FrameBlind (va_Pc as (WS X Y b0 w)) := fun _ _ _ _ h => ⟨h.1, ⟨h.2.1.1, va_K.moved (Vm.Alike.refl _) h.2.1.2⟩, h.2.2.calling⟩
def cIS (l : Launch) (y : MethodName) (ws : List Cond) (rm : Room) (X : bkX) (Y : bkY) (b0 : Nat) (as : List Value) (w : bkW) (r : Int32) (w' : bkW) : Prop := Met l y ws rm (va_Pc as (WS X Y b0 w)) (va_Qi (fun r' (_ : Unit) => r' = r) (fun _ t => WU X w' t) (xF b0)) 0 0 (xF b0)
def cVS (l : Launch) (y : MethodName) (ws : List Cond) (rm : Room) (X : bkX) (Y : bkY) (b0 : Nat) (as : List Value) (w : bkW) (w' : bkW) : Prop := Met l y ws rm (va_Pc as (WS X Y b0 w)) (va_Qv (fun (_ : Unit) => True) (fun _ t => WU X w' t) (xF b0)) 0 0 (xF b0)
def cRS (l : Launch) (y : MethodName) (ws : List Cond) (rm : Room) (X : bkX) (Y : bkY) (b0 : Nat) (as : List Value) (w : bkW) (r : Nat) (w' : bkW) : Prop := Met l y ws rm (va_Pc as (WS X Y b0 w)) (va_Qr (fun (_ : Unit) => True) (fun _ a t => a = r ∧ WU X w' t) (xF b0)) 0 0 (xF b0)
section WRAPS
variable {p : Program} {l : Launch} {e : Env} {R : Room} {s : State} {m : MethodId} {args : Array Value} {below : List Frame} {meth : Method} {c : Code} {H : Heap} {locs : List Loc} {cells slots : Nat} {Q : State → Prop}
variable {pc : Nat} {ls : Array Slot} {rest st0 : List Value} {cc : ByteArray} {X : bkX} {Y : bkY} {w w' : bkW} {b0 : Nat} {Ts : List Cond} {own C : String} {T : u_T} {N ci index i : Nat}
variable {y : MethodName} {bytes : ByteArray} {maxL nL n b : Nat} {ret : Option FieldType} {ws : List Cond} {rm : Room} {As : List Value}
theorem w_preS {as : List Value} (hP : HW X w H) (hK : XK X s) (hG : SG Y b0 s) (hS : va_S (xF b0) s.heap H locs) : ∀ U : State, U.heap = H → s.WarmedH U.vm → va_Pc as (WS X Y b0 w) as.toArray U := fun U h1 h2 => ⟨rfl, ⟨by show HW X w U.heap; rw [h1]; exact hP, va_K.moved h2.alike hK⟩, hG.to hS h1 h2⟩
theorem w_ciS {r : Int32} (S : CallFix p m c cc nL s args Ts own) (hP : HW X w H) (hK : XK X s) (hG : SG Y b0 s) (hS : va_S (xF b0) s.heap H locs) (hM : cIS l y ws rm X Y b0 (.ref b :: As) w r w') (cw : CallW R s args own C index y bytes maxL ret ws rm 0 0 n) (hrec : ∃ cellB : Cell, H[b]? = some cellB ∧ cellB.vm.isStatics = false ∧ s.vm.findClass C = some cellB.cls) (hn : As.length = n) (hsz : ls.size = nL) (hst : st0 = As.reverse ++ .ref b :: rest) (hrm : (rest.map fun v => v.category).sum ≤ 8) (hdg : decode cc pc = .ok (.invokevirtual index, 3)) (hroom : cells ≤ R.cells ∧ slots ≤ R.slots)
    (kk : ∀ (H1 : Heap) (locs1 : List Loc), HW X w' H1 → va_S (xF b0) s.heap H1 locs1 → W p l e R s m args below meth c H1 locs1 cells slots Q (F0 m (pc + 3) ls (.int r :: rest))) : W p l e R s m args below meth c H locs cells slots Q (F0 m pc ls st0) :=
  va_calli (va_runV S hM cw ⟨w_blindS, hrec, w_preS hP hK hG hS⟩ rfl hn hsz hst (by simpa using hrm) hdg hroom) hS (fun _ _ h => h) (fun _ h => h) (fun r' _ t H1 locs1 ht hvm hr hB _ _ hS1 => by subst hr; exact kk H1 locs1 (by rw [← ht]; exact hB.1) hS1)
theorem w_csiS {r : Int32} (S : CallFix p m c cc nL s args Ts own) (hP : HW X w H) (hK : XK X s) (hG : SG Y b0 s) (hS : va_S (xF b0) s.heap H locs) (hM : cIS l y ws rm X Y b0 As w r w') (cw : CallB R s args own index y bytes maxL ret ws rm 0 0 n ∧ (Cond.static y).before args s = true) (hn : As.length = n) (hsz : ls.size = nL) (hst : st0 = As.reverse ++ rest) (hrm : (rest.map fun v => v.category).sum ≤ 8) (hdg : decode cc pc = .ok (.invokestatic index, 3)) (hroom : cells ≤ R.cells ∧ slots ≤ R.slots)
    (kk : ∀ (H1 : Heap) (locs1 : List Loc), HW X w' H1 → va_S (xF b0) s.heap H1 locs1 → W p l e R s m args below meth c H1 locs1 cells slots Q (F0 m (pc + 3) ls (.int r :: rest))) : W p l e R s m args below meth c H locs cells slots Q (F0 m pc ls st0) :=
  va_calli (va_runS S hM cw ⟨w_blindS, w_preS hP hK hG hS⟩ rfl hn hsz hst (by simpa using hrm) hdg hroom) hS (fun _ _ h => h) (fun _ h => h) (fun r' _ t H1 locs1 ht hvm hr hB _ _ hS1 => by subst hr; exact kk H1 locs1 (by rw [← ht]; exact hB.1) hS1)
theorem w_csvS (S : CallFix p m c cc nL s args Ts own) (hP : HW X w H) (hK : XK X s) (hG : SG Y b0 s) (hS : va_S (xF b0) s.heap H locs) (hM : cVS l y ws rm X Y b0 As w w') (cw : CallB R s args own index y bytes maxL ret ws rm 0 0 n ∧ (Cond.static y).before args s = true) (hn : As.length = n) (hsz : ls.size = nL) (hst : st0 = As.reverse ++ rest) (hrm : (rest.map fun v => v.category).sum ≤ 8) (hdg : decode cc pc = .ok (.invokestatic index, 3)) (hroom : cells ≤ R.cells ∧ slots ≤ R.slots)
    (kk : ∀ (H1 : Heap) (locs1 : List Loc), HW X w' H1 → va_S (xF b0) s.heap H1 locs1 → W p l e R s m args below meth c H1 locs1 cells slots Q (F0 m (pc + 3) ls rest)) : W p l e R s m args below meth c H locs cells slots Q (F0 m pc ls st0) :=
  va_callv (va_runS S hM cw ⟨w_blindS, w_preS hP hK hG hS⟩ rfl hn hsz hst (by simpa using hrm) hdg hroom) hS (fun _ _ h => h) (fun _ h => h) (fun _ t H1 locs1 ht hvm _ hB _ _ hS1 => kk H1 locs1 (by rw [← ht]; exact hB.1) hS1)
theorem w_csrS {r : Nat} (S : CallFix p m c cc nL s args Ts own) (hP : HW X w H) (hK : XK X s) (hG : SG Y b0 s) (hS : va_S (xF b0) s.heap H locs) (hM : cRS l y ws rm X Y b0 As w r w') (cw : CallB R s args own index y bytes maxL ret ws rm 0 0 n ∧ (Cond.static y).before args s = true) (hn : As.length = n) (hsz : ls.size = nL) (hst : st0 = As.reverse ++ rest) (hrm : (rest.map fun v => v.category).sum ≤ 8) (hdg : decode cc pc = .ok (.invokestatic index, 3)) (hroom : cells ≤ R.cells ∧ slots ≤ R.slots)
    (kk : ∀ (H1 : Heap) (locs1 : List Loc), HW X w' H1 → va_S (xF b0) s.heap H1 locs1 → W p l e R s m args below meth c H1 locs1 cells slots Q (F0 m (pc + 3) ls (.ref r :: rest))) : W p l e R s m args below meth c H locs cells slots Q (F0 m pc ls st0) :=
  va_callr (va_runS S hM cw ⟨w_blindS, w_preS hP hK hG hS⟩ rfl hn hsz hst (by simpa using hrm) hdg hroom) hS (fun _ _ h => h) (fun _ h => h) (fun _ a t H1 locs1 ht hvm _ hB _ _ hS1 => by obtain ⟨rfl, hB⟩ := hB; exact kk H1 locs1 (by rw [← ht]; exact hB.1) hS1)
theorem w_nret {v r : Int32} {ty : FieldType} (hexec : p.tables.exec = Jvm.exec) (hb : c.code = cc) (hr : meth.sig.returnType = some ty) (hn : narrow ty (.int v) = .int v) (hlocks : meth.locks = false) (hP : HW X w H) (hK : XK X s) (hS : va_S (xF b0) s.heap H locs) (hdg : decode cc pc = .ok (.ireturn, 1)) (hv : v = r) (hw : w = w') : W p l e R s m args below meth c H locs cells slots (MQ below (va_Qi (fun r' (_ : Unit) => r' = r) (fun _ t => WU X w' t) (xF b0)) args s cells slots (xF b0)) (F0 m pc ls [.int v]) := by
  subst hv; subst hw
  exact W.zret hexec hb hr hn (fun t ht hW => ⟨⟨v, (), rfl, rfl, by show HW X w t.heap; rw [ht]; exact hP, va_K.moved hW.alike hK⟩, hS.F ht⟩) hS.2.2 hdg hlocks
end WRAPS
