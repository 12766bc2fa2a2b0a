/-! a tick -/
theorem mr_mr {r : Nat → Int32} {j i : Nat} {v v' : Int32} : mr (mr r j i v) j i v' = mr r j i v' := by
  funext a
  unfold mr upd
  by_cases h : a = pos j i
  · rw [if_pos h, if_pos h]
  · rw [if_neg h, if_neg h, if_neg h]
theorem cool7 {f : bkA} {lo c t : Nat} (hlo : lo ≤ 4) (hc : c ≤ 16) (ht : t ≤ 400) (e4 : f 23 4 = nI t) : m7_coolDown f (nI lo) (nI c) = wr (wr f 23 9 (f 23 9 + nI (c + if lo = 0 then 0 else 1))) 23 4 (nI (t - (2 + 4 * (c + if lo = 0 then 0 else 1) + lo / 2))) := by
  have ed : nI lo / 2 = nI (lo / 2) := pk_div (d := 2) (by omega) (by decide) (by decide)
  have hx : (if nI lo ≤ 0 then (0 : Int32) else 1) = nI (if lo = 0 then 0 else 1) := by
    by_cases h : lo = 0
    · subst h
      rw [if_pos rfl, if_pos (show nI 0 ≤ 0 from Int32.le_refl 0)]
      rfl
    · rw [if_neg h, if_neg (nI_nle (by omega) (by omega))]
      rfl
  obtain ⟨op, eop⟩ : ∃ op, op = c + if lo = 0 then 0 else 1 := ⟨_, rfl⟩
  have hop : op ≤ 17 := by
    rw [eop]
    by_cases h : lo = 0
    · rw [if_pos h]
      omega
    · rw [if_neg h]
      omega
  unfold m7_coolDown
  rw [hx, lt1_s, nI_add, ← eop, ltx_s, ed, l_2, l_4, pk_mul, nI_add, nI_add, ltx_s, wr_u, ltx_s, wr_u, wr_i (by decide), e4, ltx_s]
  by_cases h : 2 + 4 * op + lo / 2 ≤ t
  · rw [pk_sub h, if_neg (nI_pos (by omega))]
  · rw [if_pos (pk_sneg (by omega) (by omega))]
    have e3 : t - (2 + 4 * op + lo / 2) = 0 := by omega
    rw [e3]
    rfl
theorem S_tick {f : bkA} {r : Nat → Int32} {K H D t T N : Nat} {ls : List Nat} (h : SIM f r K H D ls t T) (hT : T ≤ 1000000) (hN : 100 < N) : ∃ f1 lo f3 f4 c f5 r' ls' t', m7_growOlder N f = some f1 ∧ m7_loadFirst N f1 = some (nI lo, f3) ∧ m7_heatLoaves N f3 = some f4 ∧ m7_takeOutDone N f4 = some (nI c, f5) ∧ m9_tick N r = some (nI c, r') ∧ SIM (wr (m7_coolDown f5 (nI lo) (nI c)) 23 5 (m7_coolDown f5 (nI lo) (nI c) 23 5 + 1)) r' K H D ls' t' (T+1) ∧ (∀ e, e < D → f 15 e = nI 3 → f5 15 e = nI 3) ∧ (∀ e, e < D → f 15 e = nI 1 ∨ f 15 e = nI 2 → f5 15 e = nI 1 ∨ f5 15 e = nI 2) ∧ m7_coolDown f5 (nI lo) (nI c) 15 = f5 15 := by
  obtain ⟨f1, r1, ls1, a1, a2, a3, a4, a5, a6⟩ := S_age h hN
  obtain ⟨f3, r2, ls2, lo, b1, b2, b3, b4, b5, b6, b7, b8, b9, b10, b11⟩ := S_look a3 hN
  have hR1 := a3.2.1
  obtain ⟨u, lb, a, n1, n2, n3, n4, n5, n6⟩ := a3.1.2.2.2.2.2
  obtain ⟨f4, r3, c1, c2, c3, c4, c5, ⟨a', c6, c7⟩, c8, c15⟩ := S_warm (N := N) (s := 12 * T) b3 b4 b5 (by rw [b7]; exact n5) n6 hN
  obtain ⟨c, f5, r4, d0, d1, d2, d3, d4, d5, d6, d7, d8, d9, d10⟩ := S_out (N := N) (x11 := f1 23 9) (x12 := nI lo) c3 c4 c5 hN
  have hle := IV0_len d3
  obtain ⟨⟨e0, e1, e2, e3, e4, e5, hK, hH, hD, ht⟩, hd, hl, hp, hh⟩ := d3
  have hc16 : c ≤ 16 := by omega
  obtain ⟨op, eop⟩ : ∃ op, op = c + if lo = 0 then 0 else 1 := ⟨_, rfl⟩
  have hop : op ≤ 17 := by
    rw [eop]
    by_cases h : lo = 0
    · rw [if_pos h]
      omega
    · rw [if_neg h]
      omega
  have hcool := cool7 (f := f5) (t := t) b6 hc16 ht e4
  rw [← eop] at hcool
  have eo : f1 23 9 + (if lo = 0 then 0 else 1) + nI c = f1 23 9 + nI op := by
    rw [eop, Int32.add_assoc]
    by_cases h : lo = 0
    · rw [if_pos h, if_pos h, Int32.zero_add, Nat.add_zero]
    · rw [if_neg h, if_neg h, Int32.add_comm 1 (nI c), nI_1]
  rw [eo] at d4
  have e9 : f5 23 9 = f1 23 9 := by rw [d7 9 (by decide), c8, b8 9 (by decide)]
  have hRR : RG (wr f5 23 9 (f1 23 9 + nI op)) r4 := d4
  have hlo := b6
  have hlost : 2 + 4 * op + lo / 2 ≤ 72 := by omega
  refine ⟨f1, lo, f3, f4, c, f5, mr (mr r4 23 4 (nI (t - (2 + 4 * op + lo / 2)))) 23 5 (nI (T + 1)), ls2, t - (2 + 4 * op + lo / 2), a1, b1, c1, d1, ?_, ?_, ?_, ?_, ?_⟩
  · unfold m9_tick
    have ed : nI lo / 2 = nI (lo / 2) := pk_div (d := 2) (by omega) (by decide) (by decide)
    have es : f1 23 9 + nI op - f1 23 9 = nI op := by rw [Int32.add_comm, Int32.add_sub_cancel]
    rw [a2, ob1_s, c9_9, h9_9, RG_i9 hR1, ltx_s, b2, ob2_s, c2, ob1_s, d2, ob2_s, c9_0, c9_9, c9_0, h9_0, RGo_i4 d4, e4, RGo_i9 d4, es, ed, l_2, l_4, pk_mul, nI_add, nI_add, mr_u, ltx_s, c9_0, mr_s]
    by_cases h : 2 + 4 * op + lo / 2 ≤ t
    · rw [pk_sub h, if_pos (nI_pos' (by omega)), c9_0, ob1_s, c9_0, mr_u, mr_mr, ltx_s, c9_1, c9_1, h9_1, mr_i (by decide) (by decide), RGo_i5 d4, e5, nI_1, mr_u, ltx_s]
    · have e3' : t - (2 + 4 * op + lo / 2) = 0 := by omega
      rw [if_neg (Int32.not_le.mpr (pk_sneg (by omega) (by omega))), ob1_s, c9_0, mr_u, mr_mr, ltx_s, c9_1, c9_1, h9_1, mr_i (by decide) (by decide), RGo_i5 d4, e5, nI_1, mr_u, ltx_s, e3']
      rfl
  · rw [hcool, e9, wr_i (by decide), wr_i (by decide), e5, nI_1]
    refine ⟨⟨⟨?_, ?_, ?_, ?_, ?_, wr_s, hK, hH, hD, by omega⟩, IVd_congr hd ?_ ?_ ?_ ?_ ?_, IVl_congr hl ?_ ?_, IVp_congr hp ?_ ?_, IVh_congr hh ?_ ?_ ?_ ?_ ?_ ?_, ⟨u, lb, a', ?_, ?_, n3, by omega, ?_, by omega⟩⟩, ?_, ?_⟩
    all_goals first
      | (simp (disch := omega) only [wr_s, wr_n, wr_i]; done)
      | (simp (disch := omega) only [wr_s, wr_n, wr_i]; assumption)
      | skip
    · simp (disch := omega) only [wr_i]
      rw [d7 6 (by decide), c8, b8 6 (by decide)]
      exact n1
    · simp (disch := omega) only [wr_i]
      rw [d7 7 (by decide), c8, b8 7 (by decide)]
      exact n2
    · intro k hk
      simp (disch := omega) only [wr_n]
      rw [d6]
      exact c6 k hk
    · exact RG_wr (RG_wr hRR (by decide) (by decide)) (by decide) (by decide)
    · exact LN_mr (LN_mr d5 (by omega) (by decide) (by decide)) (by omega) (by decide) (by decide)
  · intro e he q
    have q1 := b9 e he (a5 e q he)
    rw [← c15] at q1
    exact d8 e he q1
  · intro e he q
    have q1 := a6 e he q
    have q2 : f1 15 e = nI 1 ∨ f1 15 e = nI 2 := by
      rw [q1]
      exact q
    have q3 := b10 e he q2
    refine d9 e he ?_
    rw [c15, q3]
    exact q2
  · rw [hcool, wr_n (by decide), wr_n (by decide)]
