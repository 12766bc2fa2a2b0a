/-! a State: writes of its own ints; its rows; what its code calls of them -/
theorem es_0 {X : bkX} {k : Nat} {f : bkA} {v : Int32} : ∀ i', i' < 51 → embS X k (ur f 23 (upd (f 23) 0 v)) i' = if i' = 1 then .inr (4, (kiF X k f).set 0 (.int v)) else embS X k f i' := by
  intro i hi
  by_cases h : i = 1
  · subst h
    simp [embS, kiF, ur, upd]
  · rw [if_neg h]
    have h23 : ¬ i - 28 = 23 := by omega
    unfold embS stF kiF hoF doF
    simp [h, h23, ur, upd]
theorem es_1 {X : bkX} {k : Nat} {f : bkA} {v : Int32} : ∀ i', i' < 51 → embS X k (ur f 23 (upd (f 23) 1 v)) i' = if i' = 2 then .inr (3, (hoF X k f).set 0 (.int v)) else embS X k f i' := by
  intro i hi
  by_cases h : i = 2
  · subst h
    simp [embS, hoF, ur, upd]
  · rw [if_neg h]
    have h23 : ¬ i - 28 = 23 := by omega
    unfold embS stF kiF hoF doF
    simp [h, h23, ur, upd]
theorem es_2 {X : bkX} {k : Nat} {f : bkA} {v : Int32} : ∀ i', i' < 51 → embS X k (ur f 23 (upd (f 23) 2 v)) i' = if i' = 3 then .inr (1, (doF X k f).set 0 (.int v)) else embS X k f i' := by
  intro i hi
  by_cases h : i = 3
  · subst h
    simp [embS, doF, ur, upd]
  · rw [if_neg h]
    have h23 : ¬ i - 28 = 23 := by omega
    unfold embS stF kiF hoF doF
    simp [h, h23, ur, upd]
theorem es_3 {X : bkX} {k : Nat} {f : bkA} {v : Int32} : ∀ i', i' < 51 → embS X k (ur f 23 (upd (f 23) 3 v)) i' = if i' = 0 then .inr (7, (stF X k f).set 5 (.int v)) else embS X k f i' := by
  intro i hi
  by_cases h : i = 0
  · subst h
    simp [embS, stF, ur, upd]
  · rw [if_neg h]
    have h23 : ¬ i - 28 = 23 := by omega
    unfold embS stF kiF hoF doF
    simp [h, h23, ur, upd]
theorem es_4 {X : bkX} {k : Nat} {f : bkA} {v : Int32} : ∀ i', i' < 51 → embS X k (ur f 23 (upd (f 23) 4 v)) i' = if i' = 0 then .inr (7, (stF X k f).set 6 (.int v)) else embS X k f i' := by
  intro i hi
  by_cases h : i = 0
  · subst h
    simp [embS, stF, ur, upd]
  · rw [if_neg h]
    have h23 : ¬ i - 28 = 23 := by omega
    unfold embS stF kiF hoF doF
    simp [h, h23, ur, upd]
theorem es_5 {X : bkX} {k : Nat} {f : bkA} {v : Int32} : ∀ i', i' < 51 → embS X k (ur f 23 (upd (f 23) 5 v)) i' = if i' = 0 then .inr (7, (stF X k f).set 7 (.int v)) else embS X k f i' := by
  intro i hi
  by_cases h : i = 0
  · subst h
    simp [embS, stF, ur, upd]
  · rw [if_neg h]
    have h23 : ¬ i - 28 = 23 := by omega
    unfold embS stF kiF hoF doF
    simp [h, h23, ur, upd]
theorem es_6 {X : bkX} {k : Nat} {f : bkA} {v : Int32} : ∀ i', i' < 51 → embS X k (ur f 23 (upd (f 23) 6 v)) i' = if i' = 0 then .inr (7, (stF X k f).set 8 (.int v)) else embS X k f i' := by
  intro i hi
  by_cases h : i = 0
  · subst h
    simp [embS, stF, ur, upd]
  · rw [if_neg h]
    have h23 : ¬ i - 28 = 23 := by omega
    unfold embS stF kiF hoF doF
    simp [h, h23, ur, upd]
theorem es_7 {X : bkX} {k : Nat} {f : bkA} {v : Int32} : ∀ i', i' < 51 → embS X k (ur f 23 (upd (f 23) 7 v)) i' = if i' = 0 then .inr (7, (stF X k f).set 9 (.int v)) else embS X k f i' := by
  intro i hi
  by_cases h : i = 0
  · subst h
    simp [embS, stF, ur, upd]
  · rw [if_neg h]
    have h23 : ¬ i - 28 = 23 := by omega
    unfold embS stF kiF hoF doF
    simp [h, h23, ur, upd]
theorem es_8 {X : bkX} {k : Nat} {f : bkA} {v : Int32} : ∀ i', i' < 51 → embS X k (ur f 23 (upd (f 23) 8 v)) i' = if i' = 0 then .inr (7, (stF X k f).set 10 (.int v)) else embS X k f i' := by
  intro i hi
  by_cases h : i = 0
  · subst h
    simp [embS, stF, ur, upd]
  · rw [if_neg h]
    have h23 : ¬ i - 28 = 23 := by omega
    unfold embS stF kiF hoF doF
    simp [h, h23, ur, upd]
theorem es_9 {X : bkX} {k : Nat} {f : bkA} {v : Int32} : ∀ i', i' < 51 → embS X k (ur f 23 (upd (f 23) 9 v)) i' = if i' = 0 then .inr (7, (stF X k f).set 11 (.int v)) else embS X k f i' := by
  intro i hi
  by_cases h : i = 0
  · subst h
    simp [embS, stF, ur, upd]
  · rw [if_neg h]
    have h23 : ¬ i - 28 = 23 := by omega
    unfold embS stF kiF hoF doF
    simp [h, h23, ur, upd]
theorem es_10 {X : bkX} {k : Nat} {f : bkA} {v : Int32} : ∀ i', i' < 51 → embS X k (ur f 23 (upd (f 23) 10 v)) i' = if i' = 0 then .inr (7, (stF X k f).set 12 (.int v)) else embS X k f i' := by
  intro i hi
  by_cases h : i = 0
  · subst h
    simp [embS, stF, ur, upd]
  · rw [if_neg h]
    have h23 : ¬ i - 28 = 23 := by omega
    unfold embS stF kiF hoF doF
    simp [h, h23, ur, upd]
theorem es_11 {X : bkX} {k : Nat} {f : bkA} {v : Int32} : ∀ i', i' < 51 → embS X k (ur f 23 (upd (f 23) 11 v)) i' = if i' = 0 then .inr (7, (stF X k f).set 13 (.int v)) else embS X k f i' := by
  intro i hi
  by_cases h : i = 0
  · subst h
    simp [embS, stF, ur, upd]
  · rw [if_neg h]
    have h23 : ¬ i - 28 = 23 := by omega
    unfold embS stF kiF hoF doF
    simp [h, h23, ur, upd]
section STW
variable {p : Program} {l : Launch} {e : Env} {R : Room} {s : State} {m : MethodId} {args : Array Value} {below : List Frame} {meth : Method} {c : Code} {H : Heap} {locs : List Loc} {Q : State → Prop}
variable {pc : Nat} {ls : Array Slot} {rest : List Value} {cc : ByteArray} {X : bkX} {w : bkW} {b0 : Nat} {H0 : Heap} {Ts : List Cond} {own C : String} {T : u_T} {N ci index i0 nL k j n : Nat} {f f' : bkA} {i v : Int32}
theorem st_get (hexec : p.tables.exec = Jvm.exec) (hb : c.code = cc) (hts : ∀ w ∈ Ts, w.before args s = true) (hin : ∀ w ∈ u_ws C T N, w ∈ Ts) (hown : s.vm.findClass own = some m.cls) (hP : HW X (pk w k f) H) (hK : XK X s) (hk : k < 6) (hi : i0 < 51) {fs : List Value} (he : embS X k f i0 = .inr (ci, fs)) (hc : vwCl[ci]? = some (C, T, N)) (fld : Nat) (hfld : fld < N) (hlink : (Cond.fieldLink own index (T fld).1 (T fld).2.1 (T fld).2.2.1).before args s = true) {v : Value} (hv : fs[fld]? = some v) (hdg : decode cc pc = .ok (.getfield index, 3))
    (kk : W p l e R s m args below meth c H locs 0 0 Q (F0 m (pc + 3) ls (v :: rest))) : W p l e R s m args below meth c H locs 0 0 Q (F0 m pc ls (.ref (xa X (51*k+i0)) :: rest)) :=
  w_get hexec hb hts hin hown hP hK (by omega) ((emb_pk hk hi).trans he) hc fld hfld hlink hv hdg kk
theorem st_put (hexec : p.tables.exec = Jvm.exec) (hb : c.code = cc) (hts : ∀ w ∈ Ts, w.before args s = true) (hin : ∀ w ∈ u_ws C T N, w ∈ Ts) (ty0 : Nat → FieldType) (hty : ∀ k, k < N → parseFieldDescriptor (T k).2.2.1 = some (ty0 k)) (hnm : ∀ a, a < N → ∀ b, b < N → a ≠ b → (T a).2.1 ≠ (T b).2.1) (hown : s.vm.findClass own = some m.cls) (hX : XO X b0) (hP : HW X (pk w k f) H) (hK : XK X s) (hS : va_S (xF b0) H0 H locs) (hk : k < 6) (hi : i0 < 51) {fs : List Value} (he : embS X k f i0 = .inr (ci, fs)) (hc : vwCl[ci]? = some (C, T, N)) (fld : Nat) (hfld : fld < N) (hlink : (Cond.fieldLink own index (T fld).1 (T fld).2.1 (T fld).2.2.1).before args s = true) (hfin : (T fld).2.2.2 = false) (hd : parseFieldDescriptor (T fld).2.2.1 = some .int) (hl : fld < fs.length) (hes : ∀ i', i' < 51 → embS X k f' i' = if i' = i0 then .inr (ci, fs.set fld (.int v)) else embS X k f i') (hdg : decode cc pc = .ok (.putfield index, 3))
    (kk : ∀ (f1 : bkA), f1 = f' → ∀ (H1 : Heap) (locs1 : List Loc), HW X (pk w k f1) H1 → va_S (xF b0) H0 H1 locs1 → W p l e R s m args below meth c H1 locs1 0 0 Q (F0 m (pc + 3) ls rest)) : W p l e R s m args below meth c H locs 0 0 Q (F0 m pc ls (.int v :: .ref (xa X (51*k+i0)) :: rest)) :=
  w_put hexec hb hts hin ty0 hty hnm hown hX hP hK hS (by omega) ((emb_pk hk hi).trans he) hc fld hfld hlink hfin hd hl (emb_pk_upd hk hi hes) hdg (fun H1 locs1 h1 h2 => kk f' rfl H1 locs1 h1 h2)
theorem st_recv (hP : HW X (pk w k f) H) (hK : XK X s) (hk : k < 6) (hi : i0 < 51) {fs : List Value} (he : embS X k f i0 = .inr (ci, fs)) {q : vw_C} (hc : vwCl[ci]? = some q) : ∃ cell : Cell, H[xa X (51*k+i0)]? = some cell ∧ cell.vm.isStatics = false ∧ s.vm.findClass q.1 = some cell.cls :=
  w_recv hP hK (by omega) ((emb_pk hk hi).trans he) hc
theorem row_recv {cr ca a : Nat} (hR0 : RW X cr ca a n) (hP : HW X w H) (hK : XK X s) : ∃ cell : Cell, H[xa X cr]? = some cell ∧ cell.vm.isStatics = false ∧ s.vm.findClass RX6 = some cell.cls :=
  w_recv hP hK hR0.1.1 (hR0.2.2.1 w) rfl
theorem st_at (S : CallFix p m c cc nL s args Ts own) (hP : HW X (pk w k f) H) (hK : XK X s) (hS : va_S (xF b0) H0 H locs) (hk : k < 6) (hj : j < 23) (hn : bkLen j = n) (cw : CallW R s args own RX6 index yX6_at cX6_at 2 (some .int) wsX6_at rmX6_at 0 0 1) (hsz : ls.size = nL) (hrm : (rest.map fun v => v.category).sum ≤ 8) (hdg : decode cc pc = .ok (.invokevirtual index, 3))
    (kk : ∀ (H1 : Heap) (locs1 : List Loc), HW X (pk w k f) H1 → va_S (xF b0) H0 H1 locs1 → W p l e R s m args below meth c H1 locs1 0 0 Q (F0 m (pc + 3) ls (.int (rat n (f j) i) :: rest))) : W p l e R s m args below meth c H locs 0 0 Q (F0 m pc ls (.int i :: .ref (xa X (51*k+(5+j))) :: rest)) := by
  subst hn
  have hM := kR_at l (b0 := b0) (RW_st (X := X) hk hj) (pk w k f) i
  rw [pk_at (by omega)] at hM
  exact w_ci S hP hK hS hM cw (row_recv (RW_st hk hj) hP hK) rfl hsz rfl hrm hdg ⟨Nat.zero_le _, Nat.zero_le _⟩ kk
theorem st_putr (hX : XO X b0) (S : CallFix p m c cc nL s args Ts own) (hP : HW X (pk w k f) H) (hK : XK X s) (hS : va_S (xF b0) H0 H locs) (hk : k < 6) (hj : j < 23) (hn : bkLen j = n) (cw : CallW R s args own RX6 index yX6_put cX6_put 3 none wsX6_put rmX6_put 0 0 2) (hsz : ls.size = nL) (hrm : (rest.map fun v => v.category).sum ≤ 8) (hdg : decode cc pc = .ok (.invokevirtual index, 3))
    (kk : ∀ f1 : bkA, f1 = ur f j (rput n (f j) i v) → ∀ (H1 : Heap) (locs1 : List Loc), HW X (pk w k f1) H1 → va_S (xF b0) H0 H1 locs1 → W p l e R s m args below meth c H1 locs1 0 0 Q (F0 m (pc + 3) ls rest)) : W p l e R s m args below meth c H locs 0 0 Q (F0 m pc ls (.int v :: .int i :: .ref (xa X (51*k+(5+j))) :: rest)) := by
  subst hn
  have hM := kR_put l hX (RW_st (X := X) hk hj) (pk w k f) i v
  rw [pk_at (by omega), pk_ua (by omega)] at hM
  exact w_cv S hP hK hS hM cw (row_recv (RW_st hk hj) hP hK) rfl hsz rfl hrm hdg ⟨Nat.zero_le _, Nat.zero_le _⟩ (kk _ rfl)
theorem st_incr (hX : XO X b0) (S : CallFix p m c cc nL s args Ts own) (hP : HW X (pk w k f) H) (hK : XK X s) (hS : va_S (xF b0) H0 H locs) (hk : k < 6) (hj : j < 23) (hn : bkLen j = n) (cw : CallW R s args own RX6 index yX6_increase cX6_increase 3 none wsX6_increase rmX6_increase 0 0 2) (hsz : ls.size = nL) (hrm : (rest.map fun v => v.category).sum ≤ 8) (hdg : decode cc pc = .ok (.invokevirtual index, 3))
    (kk : ∀ f1 : bkA, f1 = ur f j (rinc n (f j) i v) → ∀ (H1 : Heap) (locs1 : List Loc), HW X (pk w k f1) H1 → va_S (xF b0) H0 H1 locs1 → W p l e R s m args below meth c H1 locs1 0 0 Q (F0 m (pc + 3) ls rest)) : W p l e R s m args below meth c H locs 0 0 Q (F0 m pc ls (.int v :: .int i :: .ref (xa X (51*k+(5+j))) :: rest)) := by
  subst hn
  have hM := kR_increase l hX (RW_st (X := X) hk hj) (pk w k f) i v
  rw [pk_at (by omega), pk_ua (by omega)] at hM
  exact w_cv S hP hK hS hM cw (row_recv (RW_st hk hj) hP hK) rfl hsz rfl hrm hdg ⟨Nat.zero_le _, Nat.zero_le _⟩ (kk _ rfl)
theorem st_fill (hX : XO X b0) (S : CallFix p m c cc nL s args Ts own) (hP : HW X (pk w k f) H) (hK : XK X s) (hS : va_S (xF b0) H0 H locs) (hk : k < 6) (hj : j < 23) (hn : bkLen j = n) (cw : CallW R s args own RX6 index yX6_fill cX6_fill 3 none wsX6_fill rmX6_fill 0 0 1) (hsz : ls.size = nL) (hrm : (rest.map fun v => v.category).sum ≤ 8) (hdg : decode cc pc = .ok (.invokevirtual index, 3))
    (kk : ∀ f1 : bkA, f1 = ur f j (rfill n (f j) v) → ∀ (H1 : Heap) (locs1 : List Loc), HW X (pk w k f1) H1 → va_S (xF b0) H0 H1 locs1 → W p l e R s m args below meth c H1 locs1 0 0 Q (F0 m (pc + 3) ls rest)) : W p l e R s m args below meth c H locs 0 0 Q (F0 m pc ls (.int v :: .ref (xa X (51*k+(5+j))) :: rest)) := by
  subst hn
  have hM := kR_fill l hX (RW_st (X := X) hk hj) (pk w k f) v
  rw [pk_at (by omega), pk_ua (by omega)] at hM
  exact w_cv S hP hK hS hM cw (row_recv (RW_st hk hj) hP hK) rfl hsz rfl hrm hdg ⟨Nat.zero_le _, Nat.zero_le _⟩ (kk _ rfl)
end STW
