/-! the dough at a place of the line -/
theorem S_line {f : bkA} {r q : Nat → Int32} {K H D t T : Nat} {ls : List Nat} (h : SIM f r K H D ls t T) {a : Int32} (ha : ¬ a < 0) : (ck 5 265 <| if r (5 : Int32).toNatClampNeg ≤ a then some ((-1 : Int32), q) else ck (213 + a) 265 <| some (r (213 + a).toNatClampNeg, q)) = some (m7_doughInLine f a, q) := by
  have hle := IV_len h.1
  obtain ⟨⟨⟨e0, e1, e2, e3, e4, e5, hK, hH, hD, ht⟩, hd, hl, hp, hh, hn⟩, hR, hL⟩ := h
  obtain ⟨j, hj, e⟩ := nI_of ha
  subst e
  unfold m7_doughInLine
  rw [if_neg ha, c9_5, h9_5, RG_i3 hR, e3]
  by_cases c : ls.length ≤ j
  · rw [if_pos (nI_le c hj), if_pos (nI_le c hj)]
  · have hj2 : j < ls.length := by omega
    have hj16 : j < 16 := by omega
    obtain ⟨x, x1, x2⟩ := LN_i hL hj2
    obtain ⟨pre, y, suf, es, ep⟩ := split_at hj2
    subst es
    have a1 := (LN_mid hl.1).2.1
    have a2 := (LN_mid hL).2.1
    rw [Nat.zero_add, ep] at a1
    rw [ep] at a2
    rw [if_neg (nI_ge hj2 (by omega)), if_neg (nI_ge hj2 (by omega)), rat_nI hj16 (by decide), e9_L hj16, k9_22 hj16, q9_22 hj16, pos_l hj16, a1, a2]
