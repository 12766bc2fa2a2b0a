/-! what was saved: a ring of states, and a row of blocks -/
def SIMX (f : bkA) (r : Nat → Int32) : Prop := ∃ K H D ls t T, SIM f r K H D ls t T ∧ T ≤ 100000
theorem SIMX_cp {f : bkA} {r u : Nat → Int32} (h : SIMX f r) (e : ∀ p, p < 265 → u p = r p) : SIMX f u := by
  obtain ⟨K, H, D, ls, t, T, h1, h2⟩ := h
  exact ⟨K, H, D, ls, t, T, SIM_cp h1 e, h2⟩
def HS (y : Nat → bkA) (o : Nat → Int32) (sv : Nat → Int32) (q : Nat → Int32) : Prop := ∃ a c, a < 4 ∧ c ≤ 4 ∧ o 0 = nI a ∧ o 1 = nI c ∧ q 1 = nI c ∧ ∀ i, i < c → SIMX (y ((a + i) % 4)) (fun p => sv (265 * i + p))
theorem slx_nI {a c : Nat} (ha : a < 4) (hc : c ≤ 4) : slx (nI a) (nI c) = nI ((a + c) % 4) := by
  unfold slx
  rw [nI_add, l_4, pk_rem (by omega) (by decide) (by decide)]
theorem shift9 {sv : Nat → Int32} {N : Nat} (hN : 1100 < N) : ∃ sv', m9_save_L10 N N 0 sv = some sv' ∧ ∀ p, p < 795 → sv' p = sv (p + 265) := by
  have q : ∃ sv', m9_save_L10 N N (nI 0) sv = some sv' ∧ ∀ p, p < 795 → sv' p = sv (p + 265) := by
    refine loop_i (σ := Nat → Int32) (fun n i x => ∃ sv', m9_save_L10 N n (nI i) x = some sv' ∧ ∀ p, p < 795 → sv' p = sv (p + 265)) (fun i x => ∀ p, x p = if p < i then sv (p + 265) else sv p) 795 ?_ ?_ N 0 sv (by omega) (by omega) (fun p => (if_neg (by omega)).symm)
    · intro n x hx
      refine ⟨x, ?_, fun p hp => ?_⟩
      · rw [m9_save_L10, if_pos (by decide)]
      · rw [hx p, if_pos hp]
    · intro n i x hi hx ih
      have e : nI i + 265 = nI (i + 265) := by rw [l_265, nI_add]
      rw [m9_save_L10, if_neg (show ¬ (795 : Int32) ≤ nI i from nI_ge hi (by decide)), e, ck_nI (by omega) (by decide), ck_nI (by omega) (by decide), nI_clamp (by omega), nI_clamp (by omega), hx (i + 265), if_neg (by omega), ltx_s, ltx_s, nI_1]
      refine ih _ ?_
      intro p
      by_cases ep : p = i
      · subst ep
        rw [pk_us, if_pos (by omega)]
      · rw [pk_un ep, hx p]
        by_cases c : p < i
        · rw [if_pos c, if_pos (by omega)]
        · rw [if_neg c, if_neg (by omega)]
  exact q
theorem copy9 {s sv q : Nat → Int32} {N c : Nat} (hc : c < 4) (hq : q 1 = nI c) (hN : 1100 < N) : ∃ sv', m9_save_L51 N N 0 s sv q = some sv' ∧ (∀ p, p < 265 → sv' (265 * c + p) = s p) ∧ (∀ p, p < 265 * c → sv' p = sv p) := by
  have z : ∃ sv', m9_save_L51 N N (nI 0) s sv q = some sv' ∧ (∀ p, p < 265 → sv' (265 * c + p) = s p) ∧ (∀ p, p < 265 * c → sv' p = sv p) := by
    refine loop_i (σ := Nat → Int32) (fun n i x => ∃ sv', m9_save_L51 N n (nI i) s x q = some sv' ∧ (∀ p, p < 265 → sv' (265 * c + p) = s p) ∧ (∀ p, p < 265 * c → sv' p = sv p)) (fun i x => (∀ p, p < i → x (265 * c + p) = s p) ∧ (∀ p, p < 265 * c → x p = sv p)) 265 ?_ ?_ N 0 sv (by omega) (by omega) ⟨fun p hp => absurd hp (by omega), fun _ _ => rfl⟩
    · intro n x hx
      refine ⟨x, ?_, hx⟩
      rw [m9_save_L51, if_pos (by decide)]
    · intro n i x hi hx ih
      have e : (265 : Int32) * nI c + nI i = nI (265 * c + i) := by rw [l_265, pk_mul, nI_add]
      rw [m9_save_L51, if_neg (show ¬ (265 : Int32) ≤ nI i from nI_ge hi (by decide)), hq, e, ck_nI hi (by decide), ck_nI (by omega) (by decide), nI_clamp (by omega), nI_clamp (by omega), ltx_s, ltx_s, nI_1]
      refine ih _ ⟨?_, ?_⟩
      · intro p hp
        by_cases ep : p = i
        · subst ep
          exact pk_us
        · rw [pk_un (by omega)]
          exact hx.1 p (by omega)
      · intro p hp
        rw [pk_un (by omega)]
        exact hx.2 p hp
  exact z
