/-! growing older: the class and the model alike -/
theorem S_age {f : bkA} {r : Nat → Int32} {K H D t T N : Nat} {ls : List Nat} (h : SIM f r K H D ls t T) (hN : 100 < N) : ∃ f1 r1 ls1, m7_growOlder N f = some f1 ∧ m9_age N r = some r1 ∧ SIM f1 r1 K H D ls1 t T ∧ f1 6 = f 6 ∧ (∀ d, f 15 d = nI 3 → d < D → f1 15 d = nI 3) ∧ (∀ d, d < D → f 15 d = nI 1 ∨ f 15 d = nI 2 → f1 15 d = f 15 d) := by
  have hsim := h
  have hle := IV_len h.1
  have h16 := IV_16 h.1
  obtain ⟨s, s1, s14, s15, s11, s3, sL, sr⟩ := age9 h hN
  obtain ⟨⟨⟨e0, e1, e2, e3, e4, e5, hK, hH, hD, ht⟩, hd, hl, hp, hh, hn⟩, hR, hL⟩ := h
  have eya : fil (ya f D) ls = fil (yg f) ls := by
    refine fil_congr ?_
    intro x hx
    unfold ya yg
    rw [decide_eq_true ((hl.2.2 x).mp hx).1, Bool.true_and]
  rw [eya] at s11 s3 sL
  have hg0 : G7 f [] ls f := ⟨fun d _ => (if_neg (fun q => by cases q)).symm, fun d _ => (if_neg (fun q => by cases q.1)).symm, (Int32.add_zero _).symm, trivial, hl.1, fun _ _ _ _ _ => rfl, fun _ _ => rfl⟩
  obtain ⟨g, a1, a2⟩ := grow7 (N := N) (W := ls.length) hK (by omega) ls [] N f (by omega) (by rw [List.length_nil]; omega) hl.2.1 (fun d hdm => ⟨h16 d hdm, (hd d ((hl.2.2 d).mp hdm).1).2.1⟩) hg0
  obtain ⟨g14, g15, g11, gk, _, gj, gi⟩ := a2
  rw [List.nil_append] at g14 g15 g11 gk
  have a1' : m7_growOlder_L9 N N (nI ls.length) 0 0 f = some (nI (fil (yg f) ls).length, g) := a1
  have fle : (fil (yg f) ls).length ≤ ls.length := fil_len
  have F15 : ∀ d, d < 16 → wr g 23 3 (nI (fil (yg f) ls).length) 15 d = if d ∈ ls ∧ od f d = true then nI 3 else f 15 d := by
    intro d d16
    rw [wr_n (by decide)]
    exact g15 d d16
  have Fj : ∀ j, j ≠ 14 → j ≠ 15 → j ≠ 22 → j ≠ 23 → wr g 23 3 (nI (fil (yg f) ls).length) j = f j := by
    intro j h1 h2 h3 h4
    rw [wr_n h4]
    exact gj j h1 h2 h3 h4
  have Fi : ∀ k, k ≠ 3 → k ≠ 11 → wr g 23 3 (nI (fil (yg f) ls).length) 23 k = f 23 k := by
    intro k h1 h2
    rw [wr_i h1]
    exact gi k h2
  refine ⟨wr g 23 3 (nI (fil (yg f) ls).length), s, fil (yg f) ls, ?_, s1, ⟨⟨⟨?_, ?_, ?_, wr_s, ?_, ?_, hK, hH, hD, ht⟩, ?_, ⟨?_, ND_fil hl.2.1, ?_⟩, ?_, ?_, IVn_congr hn ?_ ?_ ?_⟩, ⟨?_, ?_⟩, sL⟩, Fj 6 (by decide) (by decide) (by decide) (by decide), ?_, ?_⟩
  · unfold m7_growOlder
    rw [e3, ltx_s, a1', ob2_s, wr_u, ltx_s]
  · exact (Fi 0 (by decide) (by decide)).trans e0
  · exact (Fi 1 (by decide) (by decide)).trans e1
  · exact (Fi 2 (by decide) (by decide)).trans e2
  · exact (Fi 4 (by decide) (by decide)).trans e4
  · exact (Fi 5 (by decide) (by decide)).trans e5
  · intro d hdD
    have d16 : d < 16 := by omega
    obtain ⟨h1, h2, h3, h4, h5⟩ := hd d hdD
    rw [Fj 11 (by decide) (by decide) (by decide) (by decide), Fj 12 (by decide) (by decide) (by decide) (by decide), Fj 13 (by decide) (by decide) (by decide) (by decide), Fj 17 (by decide) (by decide) (by decide) (by decide), F15 d d16]
    refine ⟨h1, h2, h3, ?_, ?_⟩
    · by_cases c : d ∈ ls ∧ od f d = true
      · rw [if_pos c]
        exact ⟨3, by decide, rfl⟩
      · rw [if_neg c]
        exact h4
    · by_cases c : d ∈ ls ∧ od f d = true
      · intro _
        exact h5 (Or.inl ((hl.2.2 d).mp c.1).2)
      · rw [if_neg c]
        exact h5
  · rw [wr_n (by decide)]
    exact gk
  · intro d
    constructor
    · intro q
      obtain ⟨q1, q2⟩ := mem_fil.mp q
      obtain ⟨q3, q4⟩ := (hl.2.2 d).mp q1
      refine ⟨q3, ?_⟩
      rw [F15 d (by omega), if_neg]
      · exact q4
      · intro q5
        unfold yg at q2
        rw [q5.2] at q2
        exact absurd q2 (by decide)
    · intro q
      have q1 := q.2
      rw [F15 d (by omega)] at q1
      by_cases c : d ∈ ls ∧ od f d = true
      · rw [if_pos c] at q1
        exact absurd q1 (by decide)
      · rw [if_neg c] at q1
        have q2 := (hl.2.2 d).mpr ⟨q.1, q1⟩
        refine mem_fil.mpr ⟨q2, ?_⟩
        unfold yg
        have q3 : ¬ od f d = true := fun q4 => c ⟨q2, q4⟩
        rw [Bool.not_eq_true] at q3
        rw [q3]
        rfl
  · intro p hp12
    rw [Fj 19 (by decide) (by decide) (by decide) (by decide)]
    rcases hp p hp12 with q | ⟨d, d1, d2, d3⟩
    · exact Or.inl q
    · refine Or.inr ⟨d, d1, d2, ?_⟩
      rw [F15 d (by omega), if_neg]
      · exact d3
      · intro q
        have q2 := ((hl.2.2 d).mp q.1).2
        rw [d3] at q2
        exact absurd q2 (by decide)
  · intro j k h1 h2 h3 h4
    rw [Fj j (by omega) (by omega) (by omega) (by omega)]
    exact hh j k h1 h2 h3 h4
  · exact Fj 6 (by decide) (by decide) (by decide) (by decide)
  · exact Fi 6 (by decide) (by decide)
  · exact Fi 7 (by decide) (by decide)
  · intro j k hj hk n20 n21 n22
    by_cases c14 : j = 14
    · subst c14
      have k16 : k < 16 := hk
      rw [s14 k k16, wr_n (by decide), g14 k k16]
      by_cases c : k ∈ ls
      · rw [if_pos c, if_pos ⟨((hl.2.2 k).mp c).1, c⟩]
      · rw [if_neg c, if_neg (fun q => c q.2)]
    · by_cases c15 : j = 15
      · subst c15
        have k16 : k < 16 := hk
        rw [s15 k k16, F15 k k16]
        by_cases c : k ∈ ls ∧ od f k = true
        · rw [if_pos c, if_pos ⟨((hl.2.2 k).mp c.1).1, c⟩]
        · rw [if_neg c, if_neg (fun q => c q.2)]
      · by_cases c23 : j = 23
        · subst c23
          by_cases c3 : k = 3
          · subst c3
            rw [s3, wr_s]
          · by_cases c11 : k = 11
            · subst c11
              rw [s11, wr_i (by decide), g11]
            · rw [sr 23 k hj (by decide) (by decide) (by decide) (by omega), Fi k c3 c11]
              exact hR.1 23 k hj hk n20 n21 n22
        · rw [sr j k hj c14 c15 n22 (by omega), Fj j c14 c15 n22 c23]
          exact hR.1 j k hj hk n20 n21 n22
  · intro p hp12 hne
    rw [Fj 19 (by decide) (by decide) (by decide) (by decide)] at hne
    rw [sr 20 p (by decide) (by decide) (by decide) (by decide) (by omega), sr 21 p (by decide) (by decide) (by decide) (by decide) (by omega), Fj 20 (by decide) (by decide) (by decide) (by decide), Fj 21 (by decide) (by decide) (by decide) (by decide)]
    exact hR.2 p hp12 hne
  · intro d q hdD
    rw [F15 d (by omega)]
    by_cases c : d ∈ ls ∧ od f d = true
    · rw [if_pos c]
    · rw [if_neg c]
      exact q
  · intro d hdD q
    rw [F15 d (by omega), if_neg]
    intro q2
    have q3 := ((hl.2.2 d).mp q2.1).2
    rcases q with q | q
    · rw [q] at q3
      exact absurd q3 (by decide)
    · rw [q] at q3
      exact absurd q3 (by decide)
