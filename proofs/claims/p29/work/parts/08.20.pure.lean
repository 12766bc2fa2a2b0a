/-! taking out: the class and the model alike -/
theorem S_takeOut {f : bkA} {r : Nat → Int32} {K H D t T N d : Nat} {o : Int32} {ls : List Nat} (h : IV0 f K H D ls t T) (hR : RGo f r o) (hL : LN r 213 ls) (hdD : d < D) (h15 : f 15 d = nI 1) (hN : 100 < N) : ∃ f' r', m7_takeOut N f (nI d) = some f' ∧ m9_takeOut N r (nI d) = some r' ∧ IV0 f' K H D ls t T ∧ RGo f' r' (o + 1) ∧ LN r' 213 ls ∧ f' 6 = f 6 ∧ (∀ k, k ≠ 10 → f' 23 k = f 23 k) ∧ f' 15 = upd (f 15) d 2 := by
  have hle := IV0_len h
  have hD16 : D ≤ 16 := h.1.2.2.2.2.2.2.2.2.1
  obtain ⟨⟨e0, e1, e2, e3, e4, e5, hK, hH, hD, ht⟩, hd, hl, hp, hh⟩ := h
  have d16 : d < 16 := by omega
  obtain ⟨⟨b, b1, b2⟩, _, ⟨l, l1, l2, l3⟩, _⟩ := hd d hdD
  have b8 : b < 8 := by omega
  obtain ⟨x, f1, r1, a1, a2, a3, a4, a5, a6⟩ := out_loop (N := N) (by omega : ls.length ≤ 16) d16 hR hL hN
  have g11 : f1 11 d = nI b := by rw [a4 11 (by decide)]; exact b2
  have g13 : f1 13 d = nI l := by rw [a4 13 (by decide)]; exact l3
  have r11 : r1 (pos 11 d) = nI b := (RGo_11' a3 d16).trans g11
  have r13 : r1 (pos 13 d) = nI l := (RGo_13' a3 d16).trans g13
  have q4 : (37 : Int32) + 6 * nI b + 4 = nI (pos 9 b) := e9_H4 b8
  have q5 : (37 : Int32) + 6 * nI b + 5 = nI (pos 10 b) := e9_H5 b8
  refine ⟨wr (wr (wr (wr (wr f1 15 d 2) 18 d x) 9 b (f1 9 b + nI l)) 10 b (f1 10 b + x)) 23 10 (f1 23 10 + nI l), mr (mr (mr (mr (mr (mr r1 15 d 2) 18 d x) 9 b (f1 9 b + nI l)) 10 b (f1 10 b + x)) 23 10 (f1 23 10 + nI l)) 23 9 (o + 1), ?_, ?_, ⟨⟨?_, ?_, ?_, ?_, ?_, ?_, hK, hH, hD, ht⟩, ?_, ⟨?_, hl.2.1, ?_⟩, ?_, ?_⟩, ?_, ?_, ?_, ?_, ?_⟩
  · unfold m7_takeOut
    rw [a1, ob2_s, rat_nI d16 (by decide), g11, ltx_s, rat_nI d16 (by decide), g13, ltx_s, wr_put d16 (by decide), ltx_s, wr_put d16 (by decide), ltx_s, wr_inc b8 (by decide), ltx_s, wr_inc b8 (by decide), ltx_s, wr_u, ltx_s]
    simp (disch := omega) only [wr_n, wr_s, wr_i]
  · unfold m9_takeOut
    rw [a2, ob2_s, a9_put4 d16, ob1_s, a9_put7 d16, ob1_s, a9_of0 d16, ob1_s]
    simp (disch := omega) only [mr_n, mr_i, mr_s, r11, ltx_s, q4, q5, k9_9, k9_10, q9_9, q9_10, a9_of2, ob1_s, r13, mr_u, RGo_9' a3 b8, RGo_10' a3 b8, c9_10, h9_10, c9_9, h9_9, RGo_i10 a3, RGo_i9 a3]
  · rw [wr_i (by decide), wr_n (by decide), wr_n (by decide), wr_n (by decide), wr_n (by decide), a4 23 (by decide)]
    exact e0
  · rw [wr_i (by decide), wr_n (by decide), wr_n (by decide), wr_n (by decide), wr_n (by decide), a4 23 (by decide)]
    exact e1
  · rw [wr_i (by decide), wr_n (by decide), wr_n (by decide), wr_n (by decide), wr_n (by decide), a4 23 (by decide)]
    exact e2
  · rw [wr_i (by decide), wr_n (by decide), wr_n (by decide), wr_n (by decide), wr_n (by decide), a4 23 (by decide)]
    exact e3
  · rw [wr_i (by decide), wr_n (by decide), wr_n (by decide), wr_n (by decide), wr_n (by decide), a4 23 (by decide)]
    exact e4
  · rw [wr_i (by decide), wr_n (by decide), wr_n (by decide), wr_n (by decide), wr_n (by decide), a4 23 (by decide)]
    exact e5
  · intro e heD
    obtain ⟨h1, h2, h3, h4, h5⟩ := hd e heD
    simp (disch := omega) only [wr_n, a4]
    by_cases c : e = d
    · subst c
      rw [wr_s]
      exact ⟨h1, h2, h3, ⟨2, by decide, rfl⟩, fun q => by
        rcases q with q | q
        · exact absurd q (by decide)
        · exact absurd q (by decide)⟩
    · rw [wr_i c, a4 15 (by decide)]
      exact ⟨h1, h2, h3, h4, h5⟩
  · simp (disch := omega) only [wr_n, a4]
    exact hl.1
  · intro e
    simp (disch := omega) only [wr_n]
    by_cases c : e = d
    · subst c
      rw [wr_s, hl.2.2 e]
      constructor
      · intro q
        rw [h15] at q
        exact absurd q.2 (by decide)
      · intro q
        exact absurd q.2 (by decide)
    · rw [wr_i c, a4 15 (by decide)]
      exact hl.2.2 e
  · intro p hp12
    simp (disch := omega) only [wr_n]
    rw [a5 p hp12]
    by_cases c : f 19 p = nI d
    · rw [if_pos c]
      exact Or.inl rfl
    · rw [if_neg c]
      rcases hp p hp12 with q | ⟨e, d1, d2, d3⟩
      · exact Or.inl q
      · refine Or.inr ⟨e, d1, d2, ?_⟩
        have ne : e ≠ d := fun q => c (by rw [d2, q])
        rw [wr_i ne, a4 15 (by decide)]
        exact d3
  · intro j k h1 h2 h3 h4
    rw [wr_n (by omega)]
    refine IVh_wr (IVh_wr ?_ b1) b1 j k h1 h2 h3 h4
    intro j' k' g1 g2 g3 g4
    rw [wr_n (by omega), wr_n (by omega), a4 j' (by omega)]
    exact hh j' k' g1 g2 g3 g4
  · exact RGo_o (RGo_w23 (RGo_wr (RGo_wr (RGo_wr (RGo_wr a3 (by decide) (by decide) (by decide)) (by decide) (by decide) (by decide)) (by decide) (by decide) (by decide)) (by decide) (by decide) (by decide)) (by decide))
  · exact LN_mr (LN_mr (LN_mr (LN_mr (LN_mr (LN_mr a6 (by omega) (by decide) (by decide)) (by omega) (by decide) (by decide)) (by omega) (by decide) (by decide)) (by omega) (by decide) (by decide)) (by omega) (by decide) (by decide)) (by omega) (by decide) (by decide)
  · simp (disch := omega) only [wr_n, a4]
  · intro k hk
    rw [wr_i hk, wr_n (by decide), wr_n (by decide), wr_n (by decide), wr_n (by decide), a4 23 (by decide)]
  · rw [wr_n (by decide), wr_n (by decide), wr_n (by decide), wr_n (by decide), wr_r, a4 15 (by decide)]
