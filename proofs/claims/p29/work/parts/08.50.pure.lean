/-! p29: clearing away; numbers out of the script; the stack -/
theorem X_clear {f : bkA} {r : Nat → Int32} {K H D t T N : Nat} {σ : Int32} {ls : List Nat} (h : SIM f r K H D ls t T) (hx : IX9 f K D T σ) (hN : 100 < N) : ∃ x f' r' D' ls' t', m7_clearAway N f = some (x, f') ∧ SIM f' r' K H D' ls' t' T ∧ IX9 f' K D' T σ := by
  obtain ⟨x, f', r', s1, s2, rn, K', H', D', ls', t', a1, _, _, _, S⟩ := S_clear (rn0 := fun _ => 0) (N := N) h hN
  obtain ⟨g, s, rn2, b1, _, x1, x2, x3, x4, x5, x6, x7, x8⟩ := clear_loop (rn0 := fun _ => 0) (N := N) h hN
  have hD : D ≤ 16 := h.1.1.2.2.2.2.2.2.2.2.1
  have e2 : f 23 2 = nI D := h.1.1.2.2.1
  have hK : K ≤ 5 := h.1.1.2.2.2.2.2.2.1
  have hH : H ≤ 8 := h.1.1.2.2.2.2.2.2.2.1
  have a2 := a1
  unfold m7_clearAway at a2
  rw [e2, ltx_s, b1, ob2_s, wr_u, ltx_s] at a2
  have ef := (Prod.mk.inj (Option.some.inj a2)).2
  have hrD := rk_le (f := f) (d := D)
  have g23 : g 23 = f 23 := x4 23 (by decide) (by decide)
  have eK : K' = K := by
    have q : f' 23 0 = nI K' := S.1.1.1
    rw [← ef, wr_i (by decide), g23, h.1.1.1] at q
    exact ((nI_eq (by omega) (by have := S.1.1.2.2.2.2.2.2.1; omega)).mp q).symm
  have eH : H' = H := by
    have q : f' 23 1 = nI H' := S.1.1.2.1
    rw [← ef, wr_i (by decide), g23, h.1.1.2.1] at q
    exact ((nI_eq (by omega) (by have := S.1.1.2.2.2.2.2.2.2.1; omega)).mp q).symm
  have eD : D' = rk f D := by
    have q : f' 23 2 = nI D' := S.1.1.2.2.1
    rw [← ef, wr_s] at q
    exact ((nI_eq (by omega) (by have := S.1.1.2.2.2.2.2.2.2.2.1; omega)).mp q).symm
  subst eK
  subst eH
  subst eD
  refine ⟨x, f', _, rk f D, ls', t', a1, S, ?_⟩
  rw [← ef]
  obtain ⟨q1, q2, q3, q4, q5, q6, q7⟩ := hx
  have hp := h.1.2.2.2.1
  have cj : ∀ j, ¬ (11 ≤ j ∧ j ≤ 19) → j ≠ 22 → j ≠ 23 → wr g 23 2 (nI (rk f D)) j = f j := fun j h1 h2 h3 => by
    rw [wr_n h3]
    exact x4 j h1 h2
  have rowe : ∀ e, e < D → kp f e = true → ∀ j, 11 ≤ j → j ≤ 18 → wr g 23 2 (nI (rk f D)) j (rk f e) = f j e := fun e he hk j h1 h2 => by
    rw [wr_n (by omega)]
    exact x5 e he hk j h1 h2
  have plc : ∀ p, p < 12 → ∀ e, e < D → kp f e = true → decide (wr g 23 2 (nI (rk f D)) 19 p = nI (rk f e)) = decide (f 19 p = nI e) := by
    intro p hp12 e he hk
    have hre := rk_le (f := f) (d := e)
    rw [wr_n (by decide)]
    rcases hp p hp12 with c | ⟨d, d1, d2, d3⟩
    · rw [(x3 p hp12).1 c, c, decide_eq_false (iM_ne_nI (by omega)), decide_eq_false (iM_ne_nI (by omega))]
    · have hrd := rk_le (f := f) (d := d)
      have kd : kp f d = true := decide_eq_true (Or.inr d3)
      rw [(x3 p hp12).2 d d1 d2, rho_D d1, d2]
      by_cases c : d = e
      · subst c
        rw [decide_eq_true rfl, decide_eq_true rfl]
      · rw [decide_eq_false (fun z => c (rk_inj kd hk ((nI_eq (by omega) (by omega)).mp z))), decide_eq_false (fun z => c ((nI_eq (by omega) (by omega)).mp z))]
  refine ⟨?_, ?_, ?_, ?_, iXK_c q5 (cj 0 (by decide) (by decide) (by decide)) (cj 1 (by decide) (by decide) (by decide)), iXE_c q6 (Nat.le_refl _) (cj 9 (by decide) (by decide) (by decide)) (cj 10 (by decide) (by decide) (by decide)), iXS_c q7 (cj 5 (by decide) (by decide) (by decide)) (cj 7 (by decide) (by decide) (by decide)) (cj 8 (by decide) (by decide) (by decide)) (cj 9 (by decide) (by decide) (by decide)) ?_ ?_ ?_ ?_⟩
  · intro z l z1 z2 z3
    obtain ⟨e, e1, e2', e3⟩ := rk_sur D z z1
    subst e3
    rw [rowe e e1 e2' 13 (by decide) (by decide)] at z3
    rw [rowe e e1 e2' 15 (by decide) (by decide), ← q1 e l e1 z2 z3]
    exact cn_congr (fun p hp12 => plc p hp12 e e1 e2')
  · intro p hp12 hn
    rw [cj 20 (by decide) (by decide) (by decide), cj 21 (by decide) (by decide) (by decide)]
    rw [wr_n (by decide)] at hn
    exact q2 p hp12 (fun c => hn ((x3 p hp12).1 c))
  · intro z z1 z2
    obtain ⟨e, e1, e2', e3⟩ := rk_sur D z z1
    subst e3
    rw [rowe e e1 e2' 15 (by decide) (by decide)] at z2
    rw [rowe e e1 e2' 17 (by decide) (by decide)]
    exact q3 e e1 z2
  · intro z l z1 z2 z3
    obtain ⟨e, e1, e2', e3⟩ := rk_sur D z z1
    subst e3
    rw [rowe e e1 e2' 13 (by decide) (by decide)] at z3
    rw [rowe e e1 e2' 18 (by decide) (by decide)]
    exact q4 e l e1 z2 z3
  · rw [wr_i (by decide), g23]
  · rw [wr_i (by decide), g23]
  · rw [wr_i (by decide), g23]
  · rw [wr_i (by decide), g23]
theorem and_pos (a : Int32) : ∃ x, x < 2^31 ∧ a &&& 2147483647 = nI x := by
  refine ⟨(a &&& 2147483647).toBitVec.toNat, ?_, ?_⟩
  · rw [Int32.toBitVec_and, BitVec.toNat_and]
    exact Nat.lt_of_le_of_lt Nat.and_le_right (by decide)
  · refine Int32.toBitVec_inj.mp ?_
    show _ = BitVec.ofNat 32 _
    rw [BitVec.ofNat_toNat, BitVec.setWidth_eq]
theorem low_ok (a : Int32) {n : Nat} (h0 : 0 < n) (hn : n < 2^31) : ∃ k, k < n ∧ mL_low a (nI n) = some (nI k) := by
  obtain ⟨x, x1, x2⟩ := and_pos a
  refine ⟨x % n, Nat.mod_lt _ h0, ?_⟩
  unfold mL_low
  rw [ckp_t (nI_ne0 h0 hn), x2, pk_rem x1 h0 hn]
/-- the stack: c states from the place a on -/
def HC (a c : Nat) (o : Nat → Int32) : Prop := a < 4 ∧ c ≤ 4 ∧ o 0 = nI a ∧ o 1 = nI c
theorem save_4 {f : bkA} {y : Nat → bkA} {o : Nat → Int32} {a : Nat} (h : HC a 4 o) : ∃ o', m2_save f y o = some (ur y a f, o') ∧ HC ((a + 1) % 4) 4 o' := by
  obtain ⟨ha, _, e0, e1⟩ := h
  refine ⟨upd o 0 (nI ((a + 1) % 4)), ?_, Nat.mod_lt _ (by decide), by decide, pk_us, by rw [pk_un (by decide)]; exact e1⟩
  unfold m2_save
  rw [e0, e1, slx_nI ha (by decide), show (a + 4) % 4 = a by omega, ck_nI ha (by decide), ltx_s, if_pos (show (4 : Int32) ≤ nI 4 by decide), nI_clamp (by omega), ltx_s]
  have e : nI a + 1 - (nI a + 1) / 4 * 4 = nI ((a + 1) % 4) := by
    rw [nI_1, l_4, pk_rem (by omega) (by decide) (by decide)]
  rw [e]
theorem save_c {f : bkA} {y : Nat → bkA} {o : Nat → Int32} {a c : Nat} (h : HC a c o) (hc : c < 4) : ∃ o', m2_save f y o = some (ur y ((a + c) % 4) f, o') ∧ HC a (c+1) o' := by
  obtain ⟨ha, _, e0, e1⟩ := h
  refine ⟨upd o 1 (nI (c + 1)), ?_, ha, by omega, by rw [pk_un (by decide)]; exact e0, pk_us⟩
  unfold m2_save
  rw [e0, e1, slx_nI ha (by omega), ck_nI (Nat.mod_lt _ (by decide)) (by decide), ltx_s, if_neg (show ¬ (4 : Int32) ≤ nI c from nI_ge hc (by decide)), nI_clamp (by omega), nI_1, ltx_s]
theorem undo_ok {f : bkA} {y : Nat → bkA} {o : Nat → Int32} {a c : Nat} (h : HC a (c+1) o) : ∃ o', m8_undo f y o = some (nI c, y ((a + c) % 4), o') ∧ HC a c o' := by
  obtain ⟨ha, hc, e0, e1⟩ := h
  refine ⟨upd o 1 (nI c), ?_, ha, by omega, by rw [pk_un (by decide)]; exact e0, pk_us⟩
  unfold m8_undo m2_size m2_restoreTo
  have e : nI (c + 1) - 1 = nI c := pk_sub (a := c + 1) (b := 1) (by omega)
  rw [e1, lt1_s, if_neg (nI_ne0 (by omega) (by omega)), lt1_s, ckp_t (by decide), if_neg (nI_nle (by omega) (by omega)), e, ltx_s, pk_us, pk_un (by decide), e0, slx_nI ha (by omega), ck_nI (Nat.mod_lt _ (by decide)) (by decide), ob2_s, nI_clamp (by omega), lt1_s, pk_us]
