/-! the Commands object: its text, its numbers, its own ints (rows 144, 145, 146) -/
def pcm (w : bkW) (c : bkA) : bkW := (fun a => if 144 ≤ a ∧ a < 147 then c (a - 144) else w.1 a, w.2)
def cmF (X : bkX) (c : bkA) : List Value := [.ref (xa X 310), .ref (xa X 311), .int (c 2 0), .int (c 2 1), .int (c 2 2), .int (c 2 3)]
theorem emb_cm {X : bkX} {w : bkW} {c : bkA} : emb X (pcm w c) 309 = .inr (0, cmF X c) := rfl
theorem pcm_at {w : bkW} {c : bkA} {j : Nat} (hj : j < 3) : (pcm w c).1 (144 + j) = c j := by
  show (if 144 ≤ 144 + j ∧ 144 + j < 147 then c (144 + j - 144) else _) = c j
  have e : 144 + j - 144 = j := by omega
  rw [if_pos (by omega), e]
theorem pcm_ua {w : bkW} {c : bkA} {j : Nat} {g : Nat → Int32} (hj : j < 3) : ua (pcm w c) (144 + j) g = pcm w (ur c j g) := by
  unfold ua pcm ur
  refine Prod.ext (funext fun a => ?_) rfl
  dsimp only
  by_cases h : 144 ≤ a ∧ a < 147
  · rw [if_pos h, if_pos h]
    by_cases h2 : a = 144 + j
    · rw [if_pos h2, if_pos (by omega)]
    · rw [if_neg h2, if_neg (by omega)]
  · rw [if_neg h, if_neg h, if_neg (by omega)]
theorem emb_cm_upd {X : bkX} {w : bkW} {c : bkA} {g : Nat → Int32} (j : Nat) : vf_upd (emb X (pcm w c)) 309 (.inr (0, cmF X (ur c 2 g))) j = emb X (pcm w (ur c 2 g)) j := by
  unfold vf_upd
  by_cases h : j = 309
  · subst h
    rfl
  · rw [if_neg h, ← pcm_ua (by decide)]
    unfold emb
    by_cases hi : j < 306
    · rw [if_pos hi, if_pos hi]
      refine embS_congr (by omega) fun a ha => ?_
      exact (ur_n (by omega)).symm
    · rw [if_neg hi, if_neg hi]
      have h2 : ¬ j - 306 = 3 := by omega
      unfold embX
      simp only [h2, if_false, ua, ur, Nat.reduceEqDiff]
theorem cm_es0 {X : bkX} {c : bkA} (v : Int32) : (cmF X c).set 2 (.int v) = cmF X (ur c 2 (upd (c 2) 0 v)) := by simp [cmF, ur, upd]
theorem cm_es1 {X : bkX} {c : bkA} (v : Int32) : (cmF X c).set 3 (.int v) = cmF X (ur c 2 (upd (c 2) 1 v)) := by simp [cmF, ur, upd]
theorem cm_es2 {X : bkX} {c : bkA} (v : Int32) : (cmF X c).set 4 (.int v) = cmF X (ur c 2 (upd (c 2) 2 v)) := by simp [cmF, ur, upd]
theorem cm_es3 {X : bkX} {c : bkA} (v : Int32) : (cmF X c).set 5 (.int v) = cmF X (ur c 2 (upd (c 2) 3 v)) := by simp [cmF, ur, upd]
section CMW
variable {p : Program} {l : Launch} {e : Env} {R : Room} {s : State} {m : MethodId} {args : Array Value} {below : List Frame} {meth : Method} {c : Code} {H : Heap} {locs : List Loc} {Q : State → Prop}
variable {pc : Nat} {ls : Array Slot} {rest : List Value} {cc : ByteArray} {X : bkX} {w : bkW} {b0 : Nat} {H0 : Heap} {Ts : List Cond} {own C : String} {index nL j n cr ca : Nat} {f : bkA} {g : Nat → Int32} {i v : Int32}
theorem cm_put (hexec : p.tables.exec = Jvm.exec) (hb : c.code = cc) (hts : ∀ w ∈ Ts, w.before args s = true) (hin : ∀ w ∈ u_ws RX0 TX0 6, w ∈ Ts) (hown : s.vm.findClass own = some m.cls) (hX : XO X b0) (hP : HW X (pcm w f) H) (hK : XK X s) (hS : va_S (xF b0) H0 H locs) (fld : Nat) (hfld : fld < 6) (hlink : (Cond.fieldLink own index (TX0 fld).1 (TX0 fld).2.1 (TX0 fld).2.2.1).before args s = true) (hfin : (TX0 fld).2.2.2 = false) (hd : parseFieldDescriptor (TX0 fld).2.2.1 = some .int) (hl : fld < (cmF X f).length) (hes : (cmF X f).set fld (.int v) = cmF X (ur f 2 g)) (hdg : decode cc pc = .ok (.putfield index, 3))
    (kk : ∀ (f1 : bkA), f1 = ur f 2 g → ∀ (H1 : Heap) (locs1 : List Loc), HW X (pcm w f1) H1 → va_S (xF b0) H0 H1 locs1 → W p l e R s m args below meth c H1 locs1 0 0 Q (F0 m (pc + 3) ls rest)) : W p l e R s m args below meth c H locs 0 0 Q (F0 m pc ls (.int v :: .ref (xa X 309) :: rest)) :=
  w_put hexec hb hts hin tyX0 tyX0_ok nmX0 hown hX hP hK hS (by decide) emb_cm rfl fld hfld hlink hfin hd hl (fun j => by rw [hes]; exact emb_cm_upd j) hdg (fun H1 locs1 h1 h2 => kk _ rfl H1 locs1 h1 h2)
theorem cm_at (hR0 : RW X cr ca (144+j) n) (S : CallFix p m c cc nL s args Ts own) (hP : HW X (pcm w f) H) (hK : XK X s) (hS : va_S (xF b0) H0 H locs) (hj : j < 3) (cw : CallW R s args own RX6 index yX6_at cX6_at 2 (some .int) wsX6_at rmX6_at 0 0 1) (hsz : ls.size = nL) (hrm : (rest.map fun v => v.category).sum ≤ 8) (hdg : decode cc pc = .ok (.invokevirtual index, 3))
    (kk : ∀ (H1 : Heap) (locs1 : List Loc), HW X (pcm w f) H1 → va_S (xF b0) H0 H1 locs1 → W p l e R s m args below meth c H1 locs1 0 0 Q (F0 m (pc + 3) ls (.int (rat n (f j) i) :: rest))) : W p l e R s m args below meth c H locs 0 0 Q (F0 m pc ls (.int i :: .ref (xa X cr) :: rest)) := by
  have hM := kR_at l (b0 := b0) hR0 (pcm w f) i
  rw [pcm_at hj] at hM
  exact w_ci S hP hK hS hM cw (row_recv hR0 hP hK) rfl hsz rfl hrm hdg ⟨Nat.zero_le _, Nat.zero_le _⟩ kk
theorem cm_putr (hX : XO X b0) (hR0 : RW X cr ca (144+j) n) (S : CallFix p m c cc nL s args Ts own) (hP : HW X (pcm w f) H) (hK : XK X s) (hS : va_S (xF b0) H0 H locs) (hj : j < 3) (cw : CallW R s args own RX6 index yX6_put cX6_put 3 none wsX6_put rmX6_put 0 0 2) (hsz : ls.size = nL) (hrm : (rest.map fun v => v.category).sum ≤ 8) (hdg : decode cc pc = .ok (.invokevirtual index, 3))
    (kk : ∀ f1 : bkA, f1 = ur f j (rput n (f j) i v) → ∀ (H1 : Heap) (locs1 : List Loc), HW X (pcm w f1) H1 → va_S (xF b0) H0 H1 locs1 → W p l e R s m args below meth c H1 locs1 0 0 Q (F0 m (pc + 3) ls rest)) : W p l e R s m args below meth c H locs 0 0 Q (F0 m pc ls (.int v :: .int i :: .ref (xa X cr) :: rest)) := by
  have hM := kR_put l hX hR0 (pcm w f) i v
  rw [pcm_at hj, pcm_ua hj] at hM
  exact w_cv S hP hK hS hM cw (row_recv hR0 hP hK) rfl hsz rfl hrm hdg ⟨Nat.zero_le _, Nat.zero_le _⟩ (kk _ rfl)
end CMW
