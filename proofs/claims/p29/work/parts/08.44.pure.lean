/-! p29: a whole tick -/
theorem X_tick1 {f f1 : bkA} {K H D t T N : Nat} {σ : Int32} {ls : List Nat} (h : IV f K H D ls t T) (hx : IX9 f K D T σ) (hN : 100 < N) (e : m7_growOlder N f = some f1) : IX9 f1 K D T σ := by
  have hD16 : D ≤ 16 := h.1.2.2.2.2.2.2.2.2.1
  obtain ⟨a1, a2, a3⟩ := X_age h hN e
  obtain ⟨q1, q2, q3, q4, q5, q6, q7⟩ := hx
  have j : ∀ j, j ≠ 14 → j ≠ 15 → j ≠ 22 → j ≠ 23 → f1 j = f j := a1
  refine ⟨?_, iXB_c q2 (Nat.le_refl _) (j 19 (by decide) (by decide) (by decide) (by decide)) (j 20 (by decide) (by decide) (by decide) (by decide)) (j 21 (by decide) (by decide) (by decide) (by decide)), ?_, iXU_c q4 (j 13 (by decide) (by decide) (by decide) (by decide)) (j 18 (by decide) (by decide) (by decide) (by decide)), iXK_c q5 (j 0 (by decide) (by decide) (by decide) (by decide)) (j 1 (by decide) (by decide) (by decide) (by decide)), iXE_c q6 (Nat.le_refl _) (j 9 (by decide) (by decide) (by decide) (by decide)) (j 10 (by decide) (by decide) (by decide) (by decide)), iXS_c q7 (j 5 (by decide) (by decide) (by decide) (by decide)) (j 7 (by decide) (by decide) (by decide) (by decide)) (j 8 (by decide) (by decide) (by decide) (by decide)) (j 9 (by decide) (by decide) (by decide) (by decide)) (a2 6 (by decide) (by decide)) (a2 7 (by decide) (by decide)) (a2 8 (by decide) (by decide)) (a2 10 (by decide) (by decide))⟩
  · intro d l h1 h2 h3
    rw [j 13 (by decide) (by decide) (by decide) (by decide)] at h3
    rw [cnt_c (j 19 (by decide) (by decide) (by decide) (by decide)), q1 d l h1 h2 h3]
    rcases a3 d (by omega) with c | ⟨c1, c2⟩
    · rw [c]
    · rw [c1, c2, if_neg (by decide), if_neg (by decide)]
  · intro d h1 h2
    rw [j 17 (by decide) (by decide) (by decide) (by decide)]
    rcases a3 d (by omega) with c | ⟨c1, c2⟩
    · rw [c] at h2
      exact q3 d h1 h2
    · rw [c2] at h2
      rcases h2 with h2 | h2
      · exact absurd h2 (by decide)
      · exact absurd h2 (by decide)
theorem X_tick2 {f f3 : bkA} {K H D t T N : Nat} {a σ : Int32} {ls : List Nat} (h : IV f K H D ls t T) (hx : IX9 f K D T σ) (hN : 100 < N) (e : m7_loadFirst N f = some (a, f3)) : IX9 f3 K D T σ := by
  have hD16 : D ≤ 16 := h.1.2.2.2.2.2.2.2.2.1
  obtain ⟨b1, b2⟩ := X_look h hN e
  have back : ∀ g : bkA, g = wr f3 23 3 (f 23 3) → IX9 g K D T σ → IX9 f3 K D T σ := by
    intro g eg hg
    refine IX9_c hg (Nat.le_refl _) ?_ ?_
    · intro j hj
      rw [eg, wr_n (by omega)]
    · intro k hk
      rw [eg, wr_i (by omega)]
  refine back _ rfl ?_
  generalize wr f3 23 3 (f 23 3) = g at b1
  rcases b1 with b1 | ⟨d, l, d1, d2, d3, cj, c15, c17, cL, cd, ce⟩
  · refine IX9_c hx (Nat.le_refl _) ?_ ?_
    · intro j hj
      exact b1 j (by omega) (by omega)
    · intro k _
      rw [b1 23 (by decide) (by decide)]
  · obtain ⟨dD, d0⟩ := (h.2.2.1.2.2 d).mp d1
    obtain ⟨q1, q2, q3, q4, q5, q6, q7⟩ := hx
    have e0 : cnt f d = 0 := by
      rw [q1 d l dD d3 d2, d0, if_neg (by decide)]
    refine ⟨?_, ?_, ?_, iXU_c q4 (cj 13 (by decide) (by decide) (by decide) (by decide) (by decide) (by decide) (by decide)) (cj 18 (by decide) (by decide) (by decide) (by decide) (by decide) (by decide) (by decide)), iXK_c q5 (cj 0 (by decide) (by decide) (by decide) (by decide) (by decide) (by decide) (by decide)) (cj 1 (by decide) (by decide) (by decide) (by decide) (by decide) (by decide) (by decide)), iXE_c q6 (Nat.le_refl _) (cj 9 (by decide) (by decide) (by decide) (by decide) (by decide) (by decide) (by decide)) (cj 10 (by decide) (by decide) (by decide) (by decide) (by decide) (by decide) (by decide)), ?_⟩
    · intro z l' z1 z2 z3
      rw [cj 13 (by decide) (by decide) (by decide) (by decide) (by decide) (by decide) (by decide)] at z3
      rw [c15]
      by_cases ez : z = d
      · subst ez
        rw [pk_us, if_pos (show (1 : Int32) = nI 1 from rfl), cd, e0, Nat.zero_add]
        rw [d2] at z3
        exact (nI_eq (by omega) (by omega)).mp z3
      · rw [pk_un ez, ce z (by omega) ez]
        exact q1 z l' z1 z2 z3
    · intro p hp hn
      rcases cL p hp with ⟨w1, w2, w3⟩ | ⟨w1, w2, w3, w4⟩
      · rw [w1] at hn
        rw [w2, w3]
        exact q2 p hp hn
      · exact ⟨0, 0, Nat.le_refl _, Nat.zero_le _, w3, w4⟩
    · intro z z1 z2
      rw [c17]
      by_cases ez : z = d
      · subst ez
        rw [pk_us]
        exact ⟨T, Nat.le_refl _, rfl⟩
      · rw [c15, pk_un ez] at z2
        rw [pk_un ez]
        exact q3 z z1 z2
    · have g23 := cj 23 (by decide) (by decide) (by decide) (by decide) (by decide) (by decide) (by decide)
      exact iXS_c q7 (cj 5 (by decide) (by decide) (by decide) (by decide) (by decide) (by decide) (by decide)) (cj 7 (by decide) (by decide) (by decide) (by decide) (by decide) (by decide) (by decide)) (cj 8 (by decide) (by decide) (by decide) (by decide) (by decide) (by decide) (by decide)) (cj 9 (by decide) (by decide) (by decide) (by decide) (by decide) (by decide) (by decide)) (by rw [g23]) (by rw [g23]) (by rw [g23]) (by rw [g23])
theorem X_tick3 {f f' : bkA} {K H D t T N : Nat} {σ : Int32} {ls : List Nat} (h0 : IV0 f K H D ls t T) (hx : IX9 f K D T σ) (e : m7_heatLoaves N f = some f') : IXM f' K D (T+1) (64 * T) σ := by
  obtain ⟨q1, q2, q3, q4, q5, q6, q7⟩ := hx
  obtain ⟨cj, cH⟩ := X_heat h0 q5 e
  have g23 := cj 23 (by decide) (by decide) (by decide)
  refine ⟨iXP_c q1 (cj 13 (by decide) (by decide) (by decide)) (cj 15 (by decide) (by decide) (by decide)) (cj 19 (by decide) (by decide) (by decide)), ?_, iXL_c q3 (by omega) (cj 15 (by decide) (by decide) (by decide)) (cj 17 (by decide) (by decide) (by decide)), iXU_c q4 (cj 13 (by decide) (by decide) (by decide)) (cj 18 (by decide) (by decide) (by decide)), iXK_c q5 (cj 0 (by decide) (by decide) (by decide)) (cj 1 (by decide) (by decide) (by decide)), iXE_c q6 (Nat.le_refl _) (cj 9 (by decide) (by decide) (by decide)) (cj 10 (by decide) (by decide) (by decide)), iXS_c q7 (cj 5 (by decide) (by decide) (by decide)) (cj 7 (by decide) (by decide) (by decide)) (cj 8 (by decide) (by decide) (by decide)) (cj 9 (by decide) (by decide) (by decide)) (by rw [g23]) (by rw [g23]) (by rw [g23]) (by rw [g23])⟩
  intro p hp hn
  rw [cj 19 (by decide) (by decide) (by decide)] at hn
  obtain ⟨a, b, h1, h2, h3, h4⟩ := q2 p hp hn
  rcases cH p hp with ⟨w1, w2⟩ | ⟨w1, w2⟩ | ⟨w1, w2⟩
  · exact ⟨a, b, h1, by omega, by rw [w1, h3], by rw [w2, h4]⟩
  · exact ⟨a + 1, b, by omega, by omega, by rw [w1, h3, nI_1], by rw [w2, h4]⟩
  · exact ⟨a + 1, b + 1, by omega, by omega, by rw [w1, h3, nI_1], by rw [w2, h4, nI_1]⟩
/-- one tick, all that is wanted of it -/
theorem X_tick {f : bkA} {r : Nat → Int32} {K H D t T N : Nat} {σ : Int32} {ls : List Nat} (h : SIM f r K H D ls t T) (hx : IX9 f K D T σ) (hT : T ≤ 1000000) (hN : 100 < N) : ∃ f1 lo f3 f4 c f5 r' ls' t', m7_growOlder N f = some f1 ∧ m7_loadFirst N f1 = some (nI lo, f3) ∧ m7_heatLoaves N f3 = some f4 ∧ m7_takeOutDone N f4 = some (nI c, f5) ∧ SIM (wr (m7_coolDown f5 (nI lo) (nI c)) 23 5 (m7_coolDown f5 (nI lo) (nI c) 23 5 + 1)) r' K H D ls' t' (T+1) ∧ IX9 (wr (m7_coolDown f5 (nI lo) (nI c)) 23 5 (m7_coolDown f5 (nI lo) (nI c) 23 5 + 1)) K D (T+1) σ ∧ PH f (wr (m7_coolDown f5 (nI lo) (nI c)) 23 5 (m7_coolDown f5 (nI lo) (nI c) 23 5 + 1)) D ∧ t' ≤ t := by
  obtain ⟨f1, lo, f3, f4, c, f5, r', ls', t', a1, b1, c1, d1, _, S, p1, p2, p3⟩ := S_tick h hT hN
  refine ⟨f1, lo, f3, f4, c, f5, r', ls', t', a1, b1, c1, d1, S, ?_⟩
  obtain ⟨f1', r1, ls1, a1', _, a3, _⟩ := S_age h hN
  rw [a1] at a1'
  cases a1'
  obtain ⟨f3', r2, ls2, lo', b1', _, b3, b4, b5, b6, b7, b8, _⟩ := S_look a3 hN
  rw [b1] at b1'
  have e1 := Prod.mk.inj (Option.some.inj b1')
  rw [← e1.2] at b3 b4 b7 b8
  obtain ⟨u, lb, a, n1, n2, n3, n4, n5, n6⟩ := a3.1.2.2.2.2.2
  obtain ⟨f4', r3, c1', _, c3, c4, c5, _⟩ := S_warm (N := N) (s := 12 * T) b3 b4 b5 (by rw [b7]; exact n5) n6 hN
  rw [c1] at c1'
  have e2 := Option.some.inj c1'
  rw [← e2] at c3 c4
  obtain ⟨c', f5', r4, d0, d1', _, d3, _⟩ := S_out (N := N) (x11 := f1 23 9) (x12 := nI lo) c3 c4 c5 hN
  rw [d1] at d1'
  have e3 := Prod.mk.inj (Option.some.inj d1')
  rw [← e3.2] at d3
  have hD16 : D ≤ 16 := h.1.1.2.2.2.2.2.2.2.2.1
  have x1 := X_tick1 h.1 hx hN a1
  have x2 := X_tick2 a3.1 x1 hN b1
  have x3 := X_tick3 b3 x2 c1
  have x4 : IXM f5 K D (T+1) (64 * T + 4 * D) σ := by
    unfold m7_takeOutDone at d1
    obtain ⟨y, g, h1, h2⟩ := ob2_e d1
    rw [← (Prod.mk.inj (Option.some.inj h2)).2]
    exact X_done (N := N) hN D 0 N 0 f4 r3 _ y g (by omega) c3 c4 c5 (IXM_m x3 (by omega)) h1
  have x5 : IX9 f5 K D (T+1) σ := IXM_m x4 (by omega)
  have x6 : ∀ x y : Int32, IX9 (wr (m7_coolDown f5 x y) 23 5 (m7_coolDown f5 x y 23 5 + 1)) K D (T+1) σ := by
    intro x y
    refine IX9_c x5 (Nat.le_refl _) ?_ ?_
    · intro j hj
      rw [wr_n (by omega)]
      unfold m7_coolDown
      simp only [lt1_s, ltx_s]
      rw [ur_n (by omega), ur_n (by omega)]
    · intro k hk
      rw [wr_i (by omega)]
      unfold m7_coolDown
      simp only [lt1_s, ltx_s, ur_s]
      rw [pk_un (by omega), pk_un (by omega)]
  refine ⟨x6 _ _, ⟨?_, ?_⟩, ?_⟩
  · intro e he q
    rw [wr_n (by decide), p3]
    exact p1 e he q
  · intro e he q
    rw [wr_n (by decide), p3]
    exact p2 e he q
  · have e4 : f5 23 4 = nI t := d3.1.2.2.2.2.1
    have lo4 : lo ≤ 4 ∨ ¬ lo ≤ 4 := by omega
    have ht : t ≤ 400 := h.1.1.2.2.2.2.2.2.2.2.2
    have ht' : t' ≤ 400 := S.1.1.2.2.2.2.2.2.2.2.2
    have s4 : wr (m7_coolDown f5 (nI lo) (nI c)) 23 5 (m7_coolDown f5 (nI lo) (nI c) 23 5 + 1) 23 4 = nI t' := S.1.1.2.2.2.2.1
    have el : nI lo = nI lo' := e1.1
    have ec : nI c = nI c' := e3.1
    rw [el, ec, cool7 (t := t) b6 (by omega) ht e4, wr_i (by decide), wr_s] at s4
    have := (nI_eq (by omega) (by omega)).mp s4
    omega
