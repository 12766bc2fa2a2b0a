/-! one tick, as the question 'in how many ticks' takes it -/
theorem pass1 {f : bkA} {r : Nat → Int32} {K H D t T N : Nat} {ls : List Nat} (h : SIM f r K H D ls t T) (hT : T ≤ 900000) (hN : 200 < N) : ∃ c f' r' ls' t', m7_passTicks N f 1 = some (c, f') ∧ m9_tick N r = some (c, r') ∧ SIM f' r' K H D ls' t' (T + 1) ∧ PH f f' D := by
  obtain ⟨f1, lo, f3, f4, c, f5, r', ls2, t2, a1, a2, a3, a4, a5, a6, a7, a8, a9⟩ := S_tick (N := N) h (by omega) (by omega)
  have q : ∀ n, m7_passTicks_L4 N (n+2) 1 0 0 f = some (nI c, wr (m7_coolDown f5 (nI lo) (nI c)) 23 5 (m7_coolDown f5 (nI lo) (nI c) 23 5 + 1)) := by
    intro n
    rw [m7_passTicks_L4, if_neg (show ¬ (1 : Int32) ≤ 0 by decide), a1, ob1_s, a2, ob2_s, a3, ob1_s, a4, ob2_s]
    simp only [lt1_s, ltx_s, wr_u]
    rw [m7_passTicks_L4, if_pos (show (1 : Int32) ≤ 0 + 1 by decide), Int32.zero_add]
  have q1 := q (N - 2)
  have e : N - 2 + 2 = N := by omega
  rw [e] at q1
  refine ⟨nI c, wr (m7_coolDown f5 (nI lo) (nI c)) 23 5 (m7_coolDown f5 (nI lo) (nI c) 23 5 + 1), r', ls2, t2, ?_, a5, a6, ?_, ?_⟩
  · unfold m7_passTicks
    rw [q1, ob2_s]
  · intro e he q
    rw [wr_n (by decide), a9]
    exact a7 e he q
  · intro e he q
    rw [wr_n (by decide), a9]
    exact a8 e he q
