/-! a tick's loading: the class and the model alike -/
theorem S_look {f : bkA} {r : Nat → Int32} {K H D t T N : Nat} {ls : List Nat} (h : SIM f r K H D ls t T) (hN : 100 < N) : ∃ f3 r2 ls2 lo, m7_loadFirst N f = some (nI lo, f3) ∧ m9_lookAlong N r = some (nI lo, r2) ∧ IV0 f3 K H D ls2 t T ∧ RGo f3 r2 (f 23 9 + (if lo = 0 then 0 else 1)) ∧ LN r2 213 ls2 ∧ lo ≤ 4 ∧ f3 6 = f 6 ∧ (∀ k, k ≠ 3 → f3 23 k = f 23 k) ∧ (∀ d, d < D → f 15 d = nI 3 → f3 15 d = nI 3) ∧ (∀ d, d < D → f 15 d = nI 1 ∨ f 15 d = nI 2 → f3 15 d = f 15 d) ∧ (∀ d, d < D → f3 15 d = nI 3 → f 15 d = nI 3) := by
  have hle := IV_len h.1
  have h16 := IV_16 h.1
  obtain ⟨⟨⟨e0, e1, e2, e3, e4, e5, hK, hH, hD, ht⟩, hd, hl, hp, hh, hn⟩, hR, hL⟩ := h
  have hR0 : RGo (wr f 23 3 (nI ls.length)) r (f 23 9) := by
    rw [← e3, wr_self]
    exact RGo_of hR
  have hx : ∀ x, x ∈ [] ++ ls → x < 16 ∧ (∃ k, k < 5 ∧ f 12 x = nI k) ∧ ∃ l, 1 ≤ l ∧ l ≤ 4 ∧ f 13 x = nI l := by
    intro x hxm
    obtain ⟨_, ⟨k, k1, k2⟩, hl3, _⟩ := hd x ((hl.2.2 x).mp hxm).1
    exact ⟨h16 x hxm, ⟨k, by omega, k2⟩, hl3⟩
  obtain ⟨f2, r2, ls2, lo, o2, a1, a2, a3, a4, a5, a6⟩ := lookA (f0 := f) (N := N) (W := ls.length) (o := f 23 9) (by omega) ht e4 e5 hN ls [] N f r (by omega) (by rw [List.length_nil]; omega) hl.2.1 hx hl.1 hL hR0 (fun _ _ _ => rfl)
  have a1' : m7_loadFirst_L12 N N (nI ls.length) 0 0 0 f = some (nI ls2.length, nI lo, f2) := a1
  have a2' : m9_lookAlong_L4 N N 0 0 r = some (nI lo, r2) := a2
  have m1 : m7_loadFirst N f = some (nI lo, wr f2 23 3 (nI ls2.length)) := by
    unfold m7_loadFirst
    rw [e3, ltx_s, a1', ob3_s, wr_u, ltx_s]
  have m2 : m9_lookAlong N r = some (nI lo, r2) := by
    unfold m9_lookAlong
    rw [a2', ob2_s]
  rcases a6 with ⟨b1, b2, b3, b4⟩ | ⟨b1, b2, b3, A, d, B, b4, b5, b6, b7, b8, b9⟩
  · rw [List.nil_append] at b3
    subst b3
    have Fj : ∀ j, j ≠ 16 → j ≠ 22 → j ≠ 23 → wr f2 23 3 (nI ls2.length) j = f j := by
      intro j h1 h2 h3
      rw [wr_n h3]
      exact b4 j h1 h2
    have Fi : ∀ k, k ≠ 3 → wr f2 23 3 (nI ls2.length) 23 k = f 23 k := by
      intro k h1
      rw [wr_i h1, b4 23 (by decide) (by decide)]
    have F15 := Fj 15 (by decide) (by decide) (by decide)
    refine ⟨_, r2, ls2, lo, m1, m2, ⟨⟨(Fi 0 (by decide)).trans e0, (Fi 1 (by decide)).trans e1, (Fi 2 (by decide)).trans e2, wr_s, (Fi 4 (by decide)).trans e4, (Fi 5 (by decide)).trans e5, hK, hH, hD, ht⟩, IVd_congr hd (Fj 11 (by decide) (by decide) (by decide)) (Fj 12 (by decide) (by decide) (by decide)) (Fj 13 (by decide) (by decide) (by decide)) F15 (Fj 17 (by decide) (by decide) (by decide)), ⟨?_, hl.2.1, ?_⟩, IVp_congr hp F15 (Fj 19 (by decide) (by decide) (by decide)), IVh_congr hh (Fj 5 (by decide) (by decide) (by decide)) (Fj 6 (by decide) (by decide) (by decide)) (Fj 7 (by decide) (by decide) (by decide)) (Fj 8 (by decide) (by decide) (by decide)) (Fj 9 (by decide) (by decide) (by decide)) (Fj 10 (by decide) (by decide) (by decide))⟩, ?_, a5, by omega, Fj 6 (by decide) (by decide) (by decide), Fi, ?_, ?_, ?_⟩
    · rw [wr_n (by decide)]
      exact a4
    · intro e
      rw [F15]
      exact hl.2.2 e
    · rw [if_pos b1, Int32.add_zero, ← b2]
      exact a3
    · intro e _ q
      rw [F15]
      exact q
    · intro e _ _
      rw [F15]
    · intro e _ q
      rw [F15] at q
      exact q
  · rw [List.nil_append] at b4
    subst b4
    subst b5
    have hdm := (hl.2.2 d).mp (mem_mid.mpr (Or.inl rfl))
    obtain ⟨n1, n2, n3⟩ := ND_mid hl.2.1
    have Fj : ∀ j, j ≠ 15 → j ≠ 16 → j ≠ 17 → j ≠ 19 → j ≠ 20 → j ≠ 21 → j ≠ 22 → j ≠ 23 → wr f2 23 3 (nI (A ++ B).length) j = f j := by
      intro j h1 h2 h3 h4 h5 h6 h7 h8
      rw [wr_n h8]
      exact b6 j h1 h2 h3 h4 h5 h6 h7
    have Fi : ∀ k, k ≠ 3 → wr f2 23 3 (nI (A ++ B).length) 23 k = f 23 k := by
      intro k h1
      rw [wr_i h1, b6 23 (by decide) (by decide) (by decide) (by decide) (by decide) (by decide) (by decide)]
    have F15 : ∀ e, wr f2 23 3 (nI (A ++ B).length) 15 e = if e = d then nI 1 else f 15 e := by
      intro e
      rw [wr_n (by decide), b7]
      rfl
    refine ⟨_, r2, A ++ B, lo, m1, m2, ⟨⟨(Fi 0 (by decide)).trans e0, (Fi 1 (by decide)).trans e1, (Fi 2 (by decide)).trans e2, wr_s, (Fi 4 (by decide)).trans e4, (Fi 5 (by decide)).trans e5, hK, hH, hD, ht⟩, ?_, ⟨?_, n1, ?_⟩, ?_, ?_⟩, ?_, a5, b2, Fj 6 (by decide) (by decide) (by decide) (by decide) (by decide) (by decide) (by decide) (by decide), Fi, ?_, ?_, ?_⟩
    · intro e heD
      obtain ⟨h1, h2, h3, h4, h5⟩ := hd e heD
      rw [Fj 11 (by decide) (by decide) (by decide) (by decide) (by decide) (by decide) (by decide) (by decide), Fj 12 (by decide) (by decide) (by decide) (by decide) (by decide) (by decide) (by decide) (by decide), Fj 13 (by decide) (by decide) (by decide) (by decide) (by decide) (by decide) (by decide) (by decide), F15 e]
      refine ⟨h1, h2, h3, ?_, ?_⟩
      · by_cases c : e = d
        · rw [if_pos c]
          exact ⟨1, by decide, rfl⟩
        · rw [if_neg c]
          exact h4
      · by_cases c : e = d
        · rw [if_pos c]
          intro q
          rcases q with q | q
          · exact absurd q (by decide)
          · exact absurd q (by decide)
        · rw [if_neg c, wr_n (by decide), b8, pk_un c]
          exact h5
    · rw [wr_n (by decide)]
      exact a4
    · intro e
      rw [F15 e]
      constructor
      · intro q
        have c : e ≠ d := by
          intro q2
          subst q2
          rcases List.mem_append.mp q with q | q
          · exact n2 q
          · exact n3 q
        rw [if_neg c]
        exact (hl.2.2 e).mp (mem_mid.mpr (Or.inr q))
      · intro q
        by_cases c : e = d
        · rw [if_pos c] at q
          exact absurd q.2 (by decide)
        · rw [if_neg c] at q
          rcases mem_mid.mp ((hl.2.2 e).mpr q) with q2 | q2
          · exact absurd q2 c
          · exact q2
    · intro p hp12
      rw [wr_n (show (19 : Nat) ≠ 23 by decide)]
      rcases b9 p with q | q
      · rw [q]
        rcases hp p hp12 with q2 | ⟨e, d1, d2, d3⟩
        · exact Or.inl q2
        · refine Or.inr ⟨e, d1, d2, ?_⟩
          rw [F15 e]
          by_cases c : e = d
          · rw [if_pos c]
          · rw [if_neg c]
            exact d3
      · refine Or.inr ⟨d, hdm.1, q, ?_⟩
        rw [F15 d, if_pos rfl]
    · intro j k h1 h2 h3 h4
      rw [Fj j (by omega) (by omega) (by omega) (by omega) (by omega) (by omega) (by omega) (by omega)]
      exact hh j k h1 h2 h3 h4
    · rw [if_neg (by omega), ← b3]
      exact a3
    · intro e _ q
      rw [F15 e, if_neg]
      · exact q
      · intro q2
        subst q2
        rw [hdm.2] at q
        exact absurd q (by decide)
    · intro e _ q
      rw [F15 e, if_neg]
      intro q2
      subst q2
      rw [hdm.2] at q
      rcases q with q | q
      · exact absurd q (by decide)
      · exact absurd q (by decide)
    · intro e _ q
      rw [F15 e] at q
      by_cases c : e = d
      · rw [if_pos c] at q
        exact absurd q (by decide)
      · rw [if_neg c] at q
        exact q
