/-! the model: its arrays (rows 148 .. 154, the longs' row 0), its own ints (row 155) -/
def AR (X : bkX) (ca a n : Nat) : Prop := ca < 324 ∧ (∀ w, emb X w ca = .inl (xI X, n, .inl (w.1 a))) ∧ ∀ w g i, vf_upd (emb X w) ca (.inl (xI X, n, .inl g)) i = emb X (ua w a g) i
def ul (w : bkW) (a : Nat) (g : Nat → Int64) : bkW := (w.1, ur w.2 a g)
def AL (X : bkX) (ca a n : Nat) : Prop := ca < 324 ∧ (∀ w, emb X w ca = .inl (xJ X, n, .inr (.inl (w.2 a)))) ∧ ∀ w g i, vf_upd (emb X w) ca (.inl (xJ X, n, .inr (.inl g))) i = emb X (ul w a g) i
theorem ua_ua {w : bkW} {a : Nat} {r z : Nat → Int32} : ua (ua w a r) a z = ua w a z := by
  unfold ua
  refine Prod.ext (funext fun q => ?_) rfl
  dsimp only
  by_cases h : q = a
  · subst h; rw [ur_s, ur_s]
  · rw [ur_n h, ur_n h, ur_n h]
def pmm (w : bkW) (s u sv tx ow : Nat → Int32) (rs : Nat → Int64) (rn nu q : Nat → Int32) : bkW := (fun a => if a = 148 then s else if a = 149 then u else if a = 150 then sv else if a = 151 then tx else if a = 152 then ow else if a = 153 then rn else if a = 154 then nu else if a = 155 then q else w.1 a, ur w.2 0 rs)
theorem AR_s {X : bkX} : AR X 315 148 265 := by
  refine ⟨by decide, fun w => rfl, fun w g i => ?_⟩
  unfold vf_upd
  by_cases h : i = 315
  · subst h
    rfl
  · rw [if_neg h]
    unfold emb
    by_cases hi : i < 306
    · rw [if_pos hi, if_pos hi]
      refine embS_congr (by omega) fun j hj => ?_
      exact (ur_n (by omega)).symm
    · rw [if_neg hi, if_neg hi]
      have h2 : ¬ i - 306 = 9 := by omega
      unfold embX
      simp only [h2, if_false, ua, ur, Nat.reduceEqDiff]
theorem AR_u {X : bkX} : AR X 316 149 265 := by
  refine ⟨by decide, fun w => rfl, fun w g i => ?_⟩
  unfold vf_upd
  by_cases h : i = 316
  · subst h
    rfl
  · rw [if_neg h]
    unfold emb
    by_cases hi : i < 306
    · rw [if_pos hi, if_pos hi]
      refine embS_congr (by omega) fun j hj => ?_
      exact (ur_n (by omega)).symm
    · rw [if_neg hi, if_neg hi]
      have h2 : ¬ i - 306 = 10 := by omega
      unfold embX
      simp only [h2, if_false, ua, ur, Nat.reduceEqDiff]
theorem AR_sv {X : bkX} : AR X 317 150 1060 := by
  refine ⟨by decide, fun w => rfl, fun w g i => ?_⟩
  unfold vf_upd
  by_cases h : i = 317
  · subst h
    rfl
  · rw [if_neg h]
    unfold emb
    by_cases hi : i < 306
    · rw [if_pos hi, if_pos hi]
      refine embS_congr (by omega) fun j hj => ?_
      exact (ur_n (by omega)).symm
    · rw [if_neg hi, if_neg hi]
      have h2 : ¬ i - 306 = 11 := by omega
      unfold embX
      simp only [h2, if_false, ua, ur, Nat.reduceEqDiff]
theorem AR_tx {X : bkX} : AR X 318 151 150 := by
  refine ⟨by decide, fun w => rfl, fun w g i => ?_⟩
  unfold vf_upd
  by_cases h : i = 318
  · subst h
    rfl
  · rw [if_neg h]
    unfold emb
    by_cases hi : i < 306
    · rw [if_pos hi, if_pos hi]
      refine embS_congr (by omega) fun j hj => ?_
      exact (ur_n (by omega)).symm
    · rw [if_neg hi, if_neg hi]
      have h2 : ¬ i - 306 = 12 := by omega
      unfold embX
      simp only [h2, if_false, ua, ur, Nat.reduceEqDiff]
theorem AR_ow {X : bkX} : AR X 319 152 8 := by
  refine ⟨by decide, fun w => rfl, fun w g i => ?_⟩
  unfold vf_upd
  by_cases h : i = 319
  · subst h
    rfl
  · rw [if_neg h]
    unfold emb
    by_cases hi : i < 306
    · rw [if_pos hi, if_pos hi]
      refine embS_congr (by omega) fun j hj => ?_
      exact (ur_n (by omega)).symm
    · rw [if_neg hi, if_neg hi]
      have h2 : ¬ i - 306 = 13 := by omega
      unfold embX
      simp only [h2, if_false, ua, ur, Nat.reduceEqDiff]
theorem AR_rn {X : bkX} : AR X 321 153 16 := by
  refine ⟨by decide, fun w => rfl, fun w g i => ?_⟩
  unfold vf_upd
  by_cases h : i = 321
  · subst h
    rfl
  · rw [if_neg h]
    unfold emb
    by_cases hi : i < 306
    · rw [if_pos hi, if_pos hi]
      refine embS_congr (by omega) fun j hj => ?_
      exact (ur_n (by omega)).symm
    · rw [if_neg hi, if_neg hi]
      have h2 : ¬ i - 306 = 15 := by omega
      unfold embX
      simp only [h2, if_false, ua, ur, Nat.reduceEqDiff]
theorem AR_nu {X : bkX} : AR X 322 154 5 := by
  refine ⟨by decide, fun w => rfl, fun w g i => ?_⟩
  unfold vf_upd
  by_cases h : i = 322
  · subst h
    rfl
  · rw [if_neg h]
    unfold emb
    by_cases hi : i < 306
    · rw [if_pos hi, if_pos hi]
      refine embS_congr (by omega) fun j hj => ?_
      exact (ur_n (by omega)).symm
    · rw [if_neg hi, if_neg hi]
      have h2 : ¬ i - 306 = 16 := by omega
      unfold embX
      simp only [h2, if_false, ua, ur, Nat.reduceEqDiff]
theorem AR_rs {X : bkX} : AL X 320 0 8 := by
  refine ⟨by decide, fun w => rfl, fun w g i => ?_⟩
  unfold vf_upd
  by_cases h : i = 320
  · subst h
    rfl
  · rw [if_neg h]
    unfold emb
    by_cases hi : i < 306
    · rw [if_pos hi, if_pos hi]
      rfl
    · rw [if_neg hi, if_neg hi]
      have h2 : ¬ i - 306 = 14 := by omega
      unfold embX
      simp only [h2, if_false, ul, ur, Nat.reduceEqDiff]
theorem AR_out {X : bkX} : AL X 323 1 1 := by
  refine ⟨by decide, fun w => rfl, fun w g i => ?_⟩
  unfold vf_upd
  by_cases h : i = 323
  · subst h
    rfl
  · rw [if_neg h]
    unfold emb
    by_cases hi : i < 306
    · rw [if_pos hi, if_pos hi]
      rfl
    · rw [if_neg hi, if_neg hi]
      have h2 : ¬ i - 306 = 17 := by omega
      unfold embX
      simp only [h2, if_false, ul, ur, Nat.reduceEqDiff]
theorem pmm_s {w : bkW} {s u sv tx ow : Nat → Int32} {rs : Nat → Int64} {rn nu q : Nat → Int32} {z : Nat → Int32} : ua (pmm w s u sv tx ow rs rn nu q) 148 z = pmm w z u sv tx ow rs rn nu q := by
  unfold ua pmm ur
  refine Prod.ext (funext fun a => ?_) rfl
  dsimp only
  by_cases h : a = 148 <;> simp [h]
theorem pmm_u {w : bkW} {s u sv tx ow : Nat → Int32} {rs : Nat → Int64} {rn nu q : Nat → Int32} {z : Nat → Int32} : ua (pmm w s u sv tx ow rs rn nu q) 149 z = pmm w s z sv tx ow rs rn nu q := by
  unfold ua pmm ur
  refine Prod.ext (funext fun a => ?_) rfl
  dsimp only
  by_cases h : a = 149 <;> simp [h]
theorem pmm_sv {w : bkW} {s u sv tx ow : Nat → Int32} {rs : Nat → Int64} {rn nu q : Nat → Int32} {z : Nat → Int32} : ua (pmm w s u sv tx ow rs rn nu q) 150 z = pmm w s u z tx ow rs rn nu q := by
  unfold ua pmm ur
  refine Prod.ext (funext fun a => ?_) rfl
  dsimp only
  by_cases h : a = 150 <;> simp [h]
theorem pmm_tx {w : bkW} {s u sv tx ow : Nat → Int32} {rs : Nat → Int64} {rn nu q : Nat → Int32} {z : Nat → Int32} : ua (pmm w s u sv tx ow rs rn nu q) 151 z = pmm w s u sv z ow rs rn nu q := by
  unfold ua pmm ur
  refine Prod.ext (funext fun a => ?_) rfl
  dsimp only
  by_cases h : a = 151 <;> simp [h]
theorem pmm_ow {w : bkW} {s u sv tx ow : Nat → Int32} {rs : Nat → Int64} {rn nu q : Nat → Int32} {z : Nat → Int32} : ua (pmm w s u sv tx ow rs rn nu q) 152 z = pmm w s u sv tx z rs rn nu q := by
  unfold ua pmm ur
  refine Prod.ext (funext fun a => ?_) rfl
  dsimp only
  by_cases h : a = 152 <;> simp [h]
theorem pmm_rs {w : bkW} {s u sv tx ow : Nat → Int32} {rs : Nat → Int64} {rn nu q : Nat → Int32} {z : Nat → Int64} : ul (pmm w s u sv tx ow rs rn nu q) 0 z = pmm w s u sv tx ow z rn nu q := by
  unfold ul pmm
  refine Prod.ext rfl (funext fun a => ?_)
  dsimp only
  by_cases h : a = 0
  · subst h; rw [ur_s, ur_s]
  · rw [ur_n h, ur_n h, ur_n h]
theorem pmm_rn {w : bkW} {s u sv tx ow : Nat → Int32} {rs : Nat → Int64} {rn nu q : Nat → Int32} {z : Nat → Int32} : ua (pmm w s u sv tx ow rs rn nu q) 153 z = pmm w s u sv tx ow rs z nu q := by
  unfold ua pmm ur
  refine Prod.ext (funext fun a => ?_) rfl
  dsimp only
  by_cases h : a = 153 <;> simp [h]
theorem pmm_nu {w : bkW} {s u sv tx ow : Nat → Int32} {rs : Nat → Int64} {rn nu q : Nat → Int32} {z : Nat → Int32} : ua (pmm w s u sv tx ow rs rn nu q) 154 z = pmm w s u sv tx ow rs rn z q := by
  unfold ua pmm ur
  refine Prod.ext (funext fun a => ?_) rfl
  dsimp only
  by_cases h : a = 154 <;> simp [h]
theorem pmm_q {w : bkW} {s u sv tx ow : Nat → Int32} {rs : Nat → Int64} {rn nu q : Nat → Int32} {z : Nat → Int32} : ua (pmm w s u sv tx ow rs rn nu q) 155 z = pmm w s u sv tx ow rs rn nu z := by
  unfold ua pmm ur
  refine Prod.ext (funext fun a => ?_) rfl
  dsimp only
  by_cases h : a = 155 <;> simp [h]
def mmF (X : bkX) (q : Nat → Int32) : List Value := [.int (q 0), .ref (xa X 315), .ref (xa X 316), .ref (xa X 317), .int (q 1), .ref (xa X 318), .int (q 2), .ref (xa X 319), .ref (xa X 320), .ref (xa X 321), .int (q 3), .int (q 4), .ref (xa X 322)]
theorem emb_mm {X : bkX} {w : bkW} {s u sv tx ow : Nat → Int32} {rs : Nat → Int64} {rn nu q : Nat → Int32} : emb X (pmm w s u sv tx ow rs rn nu q) 314 = .inr (9, mmF X q) := rfl
theorem emb_mm_upd {X : bkX} {w : bkW} {s u sv tx ow : Nat → Int32} {rs : Nat → Int64} {rn nu q q' : Nat → Int32} (j : Nat) : vf_upd (emb X (pmm w s u sv tx ow rs rn nu q)) 314 (.inr (9, mmF X q')) j = emb X (pmm w s u sv tx ow rs rn nu q') j := by
  unfold vf_upd
  by_cases h : j = 314
  · subst h
    rfl
  · have e9 : pmm w s u sv tx ow rs rn nu q' = ua (pmm w s u sv tx ow rs rn nu q) 155 q' := pmm_q.symm
    rw [if_neg h, e9]
    unfold emb
    by_cases hi : j < 306
    · rw [if_pos hi, if_pos hi]
      refine embS_congr (by omega) fun a ha => ?_
      exact (ur_n (by omega)).symm
    · rw [if_neg hi, if_neg hi]
      have h2 : ¬ j - 306 = 8 := by omega
      unfold embX
      simp only [h2, if_false, ua, ur, Nat.reduceEqDiff]
theorem mm_es0 {X : bkX} {q : Nat → Int32} (v : Int32) : (mmF X q).set 0 (.int v) = mmF X (upd q 0 v) := by simp [mmF, upd]
theorem mm_es1 {X : bkX} {q : Nat → Int32} (v : Int32) : (mmF X q).set 4 (.int v) = mmF X (upd q 1 v) := by simp [mmF, upd]
theorem mm_es2 {X : bkX} {q : Nat → Int32} (v : Int32) : (mmF X q).set 6 (.int v) = mmF X (upd q 2 v) := by simp [mmF, upd]
theorem mm_es3 {X : bkX} {q : Nat → Int32} (v : Int32) : (mmF X q).set 10 (.int v) = mmF X (upd q 3 v) := by simp [mmF, upd]
theorem mm_es4 {X : bkX} {q : Nat → Int32} (v : Int32) : (mmF X q).set 11 (.int v) = mmF X (upd q 4 v) := by simp [mmF, upd]
section MSW
variable {p : Program} {l : Launch} {e : Env} {R : Room} {s : State} {m : MethodId} {args : Array Value} {below : List Frame} {meth : Method} {c : Code} {H : Heap} {locs : List Loc} {cells slots : Nat} {Q : State → Prop}
variable {pc : Nat} {ls : Array Slot} {rest : List Value} {cc : ByteArray} {X : bkX} {w w1 : bkW} {b0 : Nat} {H0 : Heap} {Ts : List Cond} {own C : String} {index nL n ca a : Nat} {g : Nat → Int32} {gl : Nat → Int64} {i v : Int32} {vl : Int64}
theorem ar_ald (hexec : p.tables.exec = Jvm.exec) (hb : c.code = cc) (hA : AR X ca a n) (hg : w1.1 a = g) (hP : HW X w1 H) (hK : XK X s) (hin : vp_in i n) (hdg : decode cc pc = .ok (.iaload, 1))
    (kk : W p l e R s m args below meth c H locs cells slots Q (F0 m (pc + 1) ls (.int (g i.toNatClampNeg) :: rest))) : W p l e R s m args below meth c H locs cells slots Q (F0 m pc ls (.int i :: .ref (xa X ca) :: rest)) := by
  subst hg
  exact w_iald hexec hb hP hK hA.1 (hA.2.1 w1) hin hdg kk
theorem ar_lald (hexec : p.tables.exec = Jvm.exec) (hb : c.code = cc) (hA : AL X ca a n) (hg : w1.2 a = gl) (hP : HW X w1 H) (hK : XK X s) (hin : vp_in i n) (hdg : decode cc pc = .ok (.laload, 1))
    (kk : W p l e R s m args below meth c H locs cells slots Q (F0 m (pc + 1) ls (.long (gl i.toNatClampNeg) :: rest))) : W p l e R s m args below meth c H locs cells slots Q (F0 m pc ls (.int i :: .ref (xa X ca) :: rest)) := by
  subst hg
  exact w_lald hexec hb hP hK hA.1 (hA.2.1 w1) hin hdg kk
theorem ar_ast (hexec : p.tables.exec = Jvm.exec) (hb : c.code = cc) (hX : XO X b0) (hA : AR X ca a n) (hg : w1.1 a = g) (w2 : (Nat → Int32) → bkW) (hw : ∀ z, ua w1 a z = w2 z) (hP : HW X w1 H) (hK : XK X s) (hS : va_S (xF b0) H0 H locs) (hin : vp_in i n) (hdg : decode cc pc = .ok (.iastore, 1))
    (kk : ∀ g1, g1 = upd g i.toNatClampNeg v → ∀ (H1 : Heap) (locs1 : List Loc), HW X (w2 g1) H1 → va_S (xF b0) H0 H1 locs1 → W p l e R s m args below meth c H1 locs1 cells slots Q (F0 m (pc + 1) ls rest)) : W p l e R s m args below meth c H locs cells slots Q (F0 m pc ls (.int v :: .int i :: .ref (xa X ca) :: rest)) := by
  subst hg
  exact w_iast hexec hb hX hP hK hS hA.1 (hA.2.1 w1) hin (fun j => by rw [hA.2.2, hw]) hdg (kk _ rfl)
theorem ar_last (hexec : p.tables.exec = Jvm.exec) (hb : c.code = cc) (hX : XO X b0) (hA : AL X ca a n) (hg : w1.2 a = gl) (w2 : (Nat → Int64) → bkW) (hw : ∀ z, ul w1 a z = w2 z) (hP : HW X w1 H) (hK : XK X s) (hS : va_S (xF b0) H0 H locs) (hin : vp_in i n) (hdg : decode cc pc = .ok (.lastore, 1))
    (kk : ∀ g1, g1 = vp_updL gl i.toNatClampNeg vl → ∀ (H1 : Heap) (locs1 : List Loc), HW X (w2 g1) H1 → va_S (xF b0) H0 H1 locs1 → W p l e R s m args below meth c H1 locs1 cells slots Q (F0 m (pc + 1) ls rest)) : W p l e R s m args below meth c H locs cells slots Q (F0 m pc ls (.long vl :: .int i :: .ref (xa X ca) :: rest)) := by
  subst hg
  exact w_last hexec hb hX hP hK hS hA.1 (hA.2.1 w1) hin (fun j => by rw [hA.2.2, hw]) hdg (kk _ rfl)
theorem mm_put {s0 u0 sv tx ow : Nat → Int32} {rs : Nat → Int64} {rn nu q q' : Nat → Int32} (hexec : p.tables.exec = Jvm.exec) (hb : c.code = cc) (hts : ∀ w ∈ Ts, w.before args s = true) (hin : ∀ w ∈ u_ws RX9 TX9 13, w ∈ Ts) (hown : s.vm.findClass own = some m.cls) (hX : XO X b0) (hP : HW X (pmm w s0 u0 sv tx ow rs rn nu q) H) (hK : XK X s) (hS : va_S (xF b0) H0 H locs) (fld : Nat) (hfld : fld < 13) (hlink : (Cond.fieldLink own index (TX9 fld).1 (TX9 fld).2.1 (TX9 fld).2.2.1).before args s = true) (hfin : (TX9 fld).2.2.2 = false) (hd : parseFieldDescriptor (TX9 fld).2.2.1 = some .int) (hl : fld < (mmF X q).length) (hes : (mmF X q).set fld (.int v) = mmF X q') (hdg : decode cc pc = .ok (.putfield index, 3))
    (kk : ∀ q1, q1 = q' → ∀ (H1 : Heap) (locs1 : List Loc), HW X (pmm w s0 u0 sv tx ow rs rn nu q1) H1 → va_S (xF b0) H0 H1 locs1 → W p l e R s m args below meth c H1 locs1 0 0 Q (F0 m (pc + 3) ls rest)) : W p l e R s m args below meth c H locs 0 0 Q (F0 m pc ls (.int v :: .ref (xa X 314) :: rest)) :=
  w_put hexec hb hts hin tyX9 tyX9_ok nmX9 hown hX hP hK hS (by decide) emb_mm rfl fld hfld hlink hfin hd hl (fun j => by rw [hes]; exact emb_mm_upd j) hdg (fun H1 locs1 h1 h2 => kk _ rfl H1 locs1 h1 h2)
end MSW
