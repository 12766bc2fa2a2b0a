/-! the latest saved state is restored -/
theorem S_undo {f : bkA} {s sv q : Nat → Int32} {y : Nat → bkA} {o : Nat → Int32} {N : Nat} (h : HS y o sv q) (hN : 1100 < N) : ∃ c, c ≤ 4 ∧ o 1 = nI c ∧ q 1 = nI c ∧ (1 ≤ c → ∃ f' o', m2_restoreTo f y o = some (f', o') ∧ o' 1 = nI (c - 1) ∧ ∀ q6 : Nat → Int32, q6 1 = nI (c - 1) → ∃ s', m9_undo_L37 N N 0 s sv q6 = some s' ∧ SIMX f' s' ∧ HS y o' sv q6) := by
  obtain ⟨a, c, ha, hc, o0, o1, q1, hi⟩ := h
  refine ⟨c, hc, o1, q1, ?_⟩
  intro hc1
  have em : nI c - 1 = nI (c - 1) := pk_sub (b := 1) hc1
  refine ⟨y ((a + (c - 1)) % 4), upd o 1 (nI (c - 1)), ?_, pk_us, ?_⟩
  · unfold m2_restoreTo
    rw [o1, if_neg (nI_nle (by omega) (by omega)), em, ltx_s, pk_us, pk_un (by decide), o0, slx_nI ha (by omega), ck_nI (by omega) (by decide), nI_clamp (by omega)]
  · intro q6 hq6
    have z : ∃ s', m9_undo_L37 N N (nI 0) s sv q6 = some s' ∧ ∀ p, p < 265 → s' p = sv (265 * (c - 1) + p) := by
      refine loop_i (σ := Nat → Int32) (fun n i x => ∃ s', m9_undo_L37 N n (nI i) x sv q6 = some s' ∧ ∀ p, p < 265 → s' p = sv (265 * (c - 1) + p)) (fun i x => ∀ p, p < i → x p = sv (265 * (c - 1) + p)) 265 ?_ ?_ N 0 s (by omega) (by omega) (fun p hp => absurd hp (by omega))
      · intro n x hx
        refine ⟨x, ?_, hx⟩
        rw [m9_undo_L37, if_pos (by decide)]
      · intro n i x hi2 hx ih
        have e : (265 : Int32) * nI (c - 1) + nI i = nI (265 * (c - 1) + i) := by rw [l_265, pk_mul, nI_add]
        rw [m9_undo_L37, if_neg (show ¬ (265 : Int32) ≤ nI i from nI_ge hi2 (by decide)), hq6, e, ck_nI (by omega) (by decide), ck_nI hi2 (by decide), nI_clamp (by omega), nI_clamp (by omega), ltx_s, ltx_s, nI_1]
        refine ih _ ?_
        intro p hp
        by_cases ep : p = i
        · subst ep
          exact pk_us
        · rw [pk_un ep]
          exact hx p (by omega)
    obtain ⟨s', z1', z2⟩ := z
    refine ⟨s', z1', SIMX_cp (hi (c - 1) (by omega)) z2, a, c - 1, ha, by omega, ?_, pk_us, hq6, ?_⟩
    · rw [pk_un (by decide)]
      exact o0
    · intro i hi2
      exact hi i (by omega)
