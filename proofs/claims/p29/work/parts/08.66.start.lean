/-! the start of all: before the first call class and model agree -/
theorem f00_19 {p : Nat} (hp : p < 12) : f00 19 p = iM := by
  unfold f00
  rw [ur_s]
  exact if_pos hp
theorem f00_n {j : Nat} (h : j ≠ 19) : f00 j = zF := ur_n h
theorem mi_at : ∀ (k p : Nat), mi k p = if ∃ q, q < k ∧ p = 229 + 3 * q then -1 else 0
  | 0, p => by
    rw [if_neg (fun h => by obtain ⟨q, h1, _⟩ := h; omega)]
    rfl
  | k+1, p => by
    show upd (mi k) (229 + 3 * k) (-1) p = _
    by_cases e : p = 229 + 3 * k
    · subst e
      rw [pk_us, if_pos ⟨k, by omega, rfl⟩]
    · rw [pk_un e, mi_at k p]
      by_cases c : ∃ q, q < k ∧ p = 229 + 3 * q
      · rw [if_pos c, if_pos (by obtain ⟨q, h1, h2⟩ := c; exact ⟨q, by omega, h2⟩)]
      · rw [if_neg c, if_neg (fun h => by
          obtain ⟨q, h1, h2⟩ := h
          by_cases eq : q = k
          · rw [eq] at h2
            exact e h2
          · exact c ⟨q, by omega, h2⟩)]
theorem mi_19 {p : Nat} (hp : p < 12) : mi 12 (pos 19 p) = -1 := by
  rw [mi_at, if_pos]
  refine ⟨p, hp, ?_⟩
  have h := pos_p (j := 0) (by decide) hp
  rw [show 19 + 0 = 19 from rfl] at h
  omega
theorem mi_n {j i : Nat} (hj : j < 24) (h : j ≠ 19) : mi 12 (pos j i) = 0 := by
  rw [mi_at, if_neg]
  intro q
  obtain ⟨q, h1, h2⟩ := q
  have h3 := pos_p (j := 0) (by decide) h1
  rw [show 19 + 0 = 19 from rfl] at h3
  exact h (pos_inj hj (by decide) (show pos j i = pos 19 q by omega)).1
theorem SIM_start : SIM f00 (mi 12) 0 0 0 [] 0 0 := by
  refine ⟨⟨⟨?_, ?_, ?_, ?_, ?_, ?_, by decide, by decide, by decide, by decide⟩, fun d hd => absurd hd (by omega), ⟨trivial, trivial, fun d => ⟨(fun h => by cases h), fun h => absurd h.1 (by omega)⟩⟩, fun p hp => Or.inl (f00_19 hp), ?_, ⟨0, 0, fun _ => 0, ?_, ?_, by decide, by decide, ?_, ?_⟩⟩, ⟨?_, ?_⟩, trivial⟩
  · rfl
  · rfl
  · rfl
  · rfl
  · rfl
  · rfl
  · intro j h h1 h2 h3 h4
    rw [f00_n (by omega)]
    rfl
  · rfl
  · rfl
  · intro h hh
    rfl
  · decide
  · intro j i hj hi n20 n21 n22
    by_cases h19 : j = 19
    · subst h19
      rw [mi_19 hi, f00_19 hi]
      rfl
    · rw [mi_n hj h19, f00_n h19]
  · intro p hp hn
    exact absurd (f00_19 hp) hn
theorem IX9_start : IX9 f00 0 0 0 0 := by
  refine ⟨fun d l hd => absurd hd (by omega), fun p hp h => absurd (f00_19 hp) h, fun d hd => absurd hd (by omega), fun d l hd => absurd hd (by omega), fun k hk => absurd hk (by omega), fun h hh => ⟨0, 0, Nat.le_refl 0, by omega, ?_, ?_⟩, ?_⟩
  · rw [f00_n (by decide)]
    rfl
  · rw [f00_n (by decide)]
    rfl
  · unfold iXS
    rw [f00_n (by decide), f00_n (by decide), f00_n (by decide), f00_n (by decide), f00_n (by decide)]
    decide
