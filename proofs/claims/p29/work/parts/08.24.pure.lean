/-! what if: a copy, and ticks on it -/
theorem SIM_cp {f : bkA} {r u : Nat → Int32} {K H D t T : Nat} {ls : List Nat} (h : SIM f r K H D ls t T) (e : ∀ p, p < 265 → u p = r p) : SIM f u K H D ls t T := by
  have hle := IV_len h.1
  have hD16 : D ≤ 16 := h.1.1.2.2.2.2.2.2.2.2.1
  refine ⟨h.1, ⟨?_, ?_⟩, LN_congr ?_ h.2.2⟩
  · intro j i hj hi n20 n21 n22
    rw [e _ (pos_lt hj hi)]
    exact h.2.1.1 j i hj hi n20 n21 n22
  · intro p hp hn
    rw [e _ (pos_lt (j := 20) (by decide) hp), e _ (pos_lt (j := 21) (by decide) hp)]
    exact h.2.1.2 p hp hn
  · intro i h1 h2
    exact e i (by omega)
theorem S_tryNow {r u : Nat → Int32} {N : Nat} (hN : 300 < N) : ∃ u', m9_tryNow N r u = some u' ∧ ∀ p, p < 265 → u' p = r p := by
  have q : ∃ u', m9_tryNow_L2 N N (nI 0) r u = some u' ∧ ∀ p, p < 265 → u' p = r p := by
    refine loop_i (σ := Nat → Int32) (fun n i x => ∃ u', m9_tryNow_L2 N n (nI i) r x = some u' ∧ ∀ p, p < 265 → u' p = r p) (fun i x => ∀ p, p < i → x p = r p) 265 ?_ ?_ N 0 u (by omega) (by omega) (fun p hp => absurd hp (by omega))
    · intro n x hx
      refine ⟨x, ?_, hx⟩
      rw [m9_tryNow_L2, if_pos (by decide)]
    · intro n i x hi hx ih
      rw [m9_tryNow_L2, if_neg (show ¬ (265 : Int32) ≤ nI i from nI_ge hi (by decide)), ck_nI hi (by decide), ck_nI hi (by decide), nI_clamp (by omega), ltx_s, ltx_s, nI_1]
      refine ih _ ?_
      intro p hp
      by_cases e : p = i
      · subst e
        exact pk_us
      · rw [pk_un e]
        exact hx p (by omega)
  obtain ⟨u', q1, q2⟩ := q
  have q1' : m9_tryNow_L2 N N 0 r u = some u' := q1
  refine ⟨u', ?_, q2⟩
  unfold m9_tryNow
  rw [q1', ob1_s]
theorem try_pass {N : Nat} : ∀ (n : Nat) (x y z : Int32) (s : Nat → Int32) (c : Int32) (s' : Nat → Int32), m9_passNow_L4 N n x y z s = some (c, s') → m9_tryTicks_L8 N n x y z s = some s'
  | 0, x, y, z, s, c, s', h => by
    rw [m9_passNow_L4] at h
    cases h
  | n+1, x, y, z, s, c, s', h => by
    rw [m9_passNow_L4] at h
    rw [m9_tryTicks_L8]
    by_cases q : x ≤ z
    · rw [if_pos q] at h ⊢
      rw [(Prod.mk.inj (Option.some.inj h)).2]
    · rw [if_neg q] at h ⊢
      obtain ⟨a, b, h1, h2⟩ := ob2_e h
      rw [h1, ob2_s]
      exact try_pass n _ _ _ _ _ _ h2
theorem S_try {f : bkA} {r u : Nat → Int32} {K H D t T N m : Nat} {ls : List Nat} (h : SIM f r K H D ls t T) (hm : m ≤ 100) (hT : T ≤ 900000) (hN : 300 < N) : ∃ c f' u' ls' t', m7_passTicks N f (nI m) = some (c, f') ∧ m9_tryTicks N r u (nI m) = some u' ∧ SIM f' u' K H D ls' t' (T + m) ∧ PH f f' D := by
  obtain ⟨u1, a1, a2⟩ := S_tryNow (r := r) (u := u) (N := N) hN
  obtain ⟨c, f', r', ls', t', b1, b2, b3, b4⟩ := S_pass (N := N) (m := m) (SIM_cp h a2) hm hT (by omega)
  refine ⟨c, f', r', ls', t', b1, ?_, b3, b4⟩
  unfold m9_passNow at b2
  obtain ⟨c1, s1, q1, q2⟩ := ob2_e b2
  have q3 := (Prod.mk.inj (Option.some.inj q2)).2
  rw [q3] at q1
  unfold m9_tryTicks
  rw [a1, ob1_s, try_pass _ _ _ _ _ _ _ q1, ob1_s]
