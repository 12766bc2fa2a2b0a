/-! in how many ticks: the class and the model alike -/
/-! the heat behind some ticks -/
theorem S_heatAfter {f g : bkA} {r u : Nat → Int32} {K H D t T N m : Nat} {ls : List Nat} (h : SIM f r K H D ls t T) (hm : m ≤ 100) (hT : T ≤ 900000) (hN : 300 < N) : ∃ x g' u', m8_heatAfter N f g (nI m) = some (x, g') ∧ m9_heatBehind N r u (nI m) = some (x, u') := by
  obtain ⟨c, f', u', ls', t', a1, a2, a3, a4⟩ := S_try (u := u) (N := N) (m := m) h hm hT hN
  refine ⟨f' 23 4, f', u', ?_, ?_⟩
  · unfold m8_heatAfter
    rw [a1, ob2_s]
  · unfold m9_heatBehind
    rw [a2, ob1_s, c9_0, h9_0, RG_i4 a3.2.1]

