/-! kinds, households, doughs, logs: the class and the model alike -/
theorem LN_mr {r : Nat → Int32} {j i : Nat} {v : Int32} {ls : List Nat} (h : LN r 213 ls) (hl : ls.length ≤ 16) (hj : j < 24) (n : j ≠ 22) : LN (mr r j i v) 213 ls := by
  refine LN_congr ?_ h
  intro k h1 h2
  have e : k = pos 22 (k - 213) := by
    rw [pos_l (by omega)]
    omega
  rw [e, mr_n (Ne.symm n) hj (by decide)]
theorem LN_mrput {r : Nat → Int32} {x : Nat} {ls : List Nat} (h : LN r 213 ls) (hl : ls.length < 16) : LN (mr r 22 ls.length (nI x)) 213 (ls ++ [x]) := by
  unfold mr
  rw [pos_l hl]
  exact LN_put h
theorem RG_same {f : bkA} {r : Nat → Int32} {j i : Nat} {v : Int32} (h : RG f r) (hj : j < 24) (n : ¬ (j = 20 ∨ j = 21 ∨ j = 22)) (e : f j i = v) : RG f (mr r j i v) := by
  constructor
  · intro j' i' hj' hi' n20 n21 n22
    rw [mr_at hj hj']
    by_cases q : j' = j ∧ i' = i
    · rw [if_pos q, q.1, q.2, e]
    · rw [if_neg q]
      exact h.1 j' i' hj' hi' n20 n21 n22
  · intro p hp hn
    rw [mr_n (j' := 20) (fun q => n (Or.inl q.symm)) hj (by decide), mr_n (j' := 21) (fun q => n (Or.inr (Or.inl q.symm))) hj (by decide)]
    exact h.2 p hp hn
theorem IVd_mono {f : bkA} {K H D K' H' : Nat} (h : IVd f K H D) (hK : K ≤ K') (hH : H ≤ H') : IVd f K' H' D := by
  intro d hd
  obtain ⟨⟨a, h1, h2⟩, ⟨b, h3, h4⟩, h5, h6, h7⟩ := h d hd
  exact ⟨⟨a, by omega, h2⟩, ⟨b, by omega, h4⟩, h5, h6, h7⟩
theorem S_newKind {f : bkA} {r : Nat → Int32} {K H D t T : Nat} {ls : List Nat} (h : SIM f r K H D ls t T) (hK5 : K < 5) (a1 a2 a3 a4 a5 : Int32) : ∃ f' r', m7_newKind f a1 a2 a3 a4 a5 = (nI K, f') ∧ m9_addKindNow r a1 a2 a3 a4 a5 = some (nI K, r') ∧ SIM f' r' (K+1) H D ls t T := by
  have hle := IV_len h.1
  obtain ⟨⟨⟨e0, e1, e2, e3, e4, e5, hK, hH, hD, ht⟩, hd, hl, hp, hh, hn⟩, hR, hL⟩ := h
  refine ⟨wr (wr (wr (wr (wr (wr f 0 K a1) 1 K a2) 2 K a3) 3 K a4) 4 K a5) 23 0 (nI (K+1)), mr (mr (mr (mr (mr (mr r 0 K a1) 1 K a2) 2 K a3) 3 K a4) 4 K a5) 23 0 (nI (K+1)), ?_, ?_, ?_⟩
  · unfold m7_newKind
    simp (disch := omega) only [ltx_s, e0, wr_put, wr_u, nI_1]
  · unfold m9_addKindNow
    simp (disch := omega) only [ltx_s, c9_2, h9_2, RG_i0 hR, e0, e9_K0, e9_K1, e9_K2, e9_K3, e9_K4, k9_0, k9_1, k9_2, k9_3, k9_4, q9_0, q9_1, q9_2, q9_3, q9_4, mr_u, mr_n, mr_s, nI_1, nI_pred]
  · refine ⟨⟨⟨?_, ?_, ?_, ?_, ?_, ?_, by omega, hH, hD, ht⟩, IVd_mono (IVd_congr hd ?_ ?_ ?_ ?_ ?_) (by omega) (Nat.le_refl _), IVl_congr hl ?_ ?_, IVp_congr hp ?_ ?_, IVh_congr hh ?_ ?_ ?_ ?_ ?_ ?_, IVn_congr hn ?_ ?_ ?_⟩, ?_, ?_⟩
    all_goals first
      | (simp (disch := omega) only [wr_s, wr_n, wr_i]; done)
      | (simp (disch := omega) only [wr_s, wr_n, wr_i]; assumption)
      | skip
    · exact RG_wr (RG_wr (RG_wr (RG_wr (RG_wr (RG_wr hR (by decide) (by decide)) (by decide) (by decide)) (by decide) (by decide)) (by decide) (by decide)) (by decide) (by decide)) (by decide) (by decide)
    · exact LN_mr (LN_mr (LN_mr (LN_mr (LN_mr (LN_mr hL (by omega) (by decide) (by decide)) (by omega) (by decide) (by decide)) (by omega) (by decide) (by decide)) (by omega) (by decide) (by decide)) (by omega) (by decide) (by decide)) (by omega) (by decide) (by decide)
theorem S_newHouse {f : bkA} {r : Nat → Int32} {K H D t T N : Nat} {ls : List Nat} (h : SIM f r K H D ls t T) (hH8 : H < 8) (hN : 100 < N) : ∃ f' r', m7_newHouse f = (nI H, f') ∧ m9_addHouseNow N r = some (nI H, r') ∧ SIM f' r' K (H+1) D ls t T := by
  have hle := IV_len h.1
  obtain ⟨⟨⟨e0, e1, e2, e3, e4, e5, hK, hH, hD, ht⟩, hd, hl, hp, hh, hn⟩, hR, hL⟩ := h
  have loop : ∃ r', m9_addHouseNow_L2 N N (nI 0) r = some r' ∧ RG f r' ∧ LN r' 213 ls := by
    refine loop_i (σ := Nat → Int32) (fun n i s => ∃ r', m9_addHouseNow_L2 N n (nI i) s = some r' ∧ RG f r' ∧ LN r' 213 ls) (fun i s => RG f s ∧ LN s 213 ls) 6 ?_ ?_ N 0 r (by omega) (by omega) ⟨hR, hL⟩
    · intro n s hs
      refine ⟨s, ?_, hs⟩
      rw [m9_addHouseNow_L2, if_pos (by decide)]
    · intro n i s hi hs ih
      rw [m9_addHouseNow_L2, if_neg (show ¬ (6 : Int32) ≤ nI i from nI_ge hi (by decide)), c9_3, h9_3, RG_i1 hs.1, e1, x9_H hH8 hi, k9_K (by omega) (by rw [pL_5 hi]; exact hH8), q9_K (by omega) (by rw [pL_5 hi]; exact hH8), mr_u, ltx_s, ltx_s, nI_1]
      exact ih _ ⟨RG_same hs.1 (by omega) (by omega) (hh (5+i) H (by omega) (by omega) (Nat.le_refl _) hH8), LN_mr hs.2 (by omega) (by omega) (by omega)⟩
  obtain ⟨r1, q1, q2, q3⟩ := loop
  refine ⟨wr f 23 1 (nI (H+1)), mr r1 23 1 (nI (H+1)), ?_, ?_, ?_⟩
  · unfold m7_newHouse
    simp (disch := omega) only [ltx_s, e1, wr_u, nI_1]
  · unfold m9_addHouseNow
    have q1' : m9_addHouseNow_L2 N N 0 r = some r1 := q1
    rw [q1', ob1_s]
    simp (disch := omega) only [ltx_s, c9_3, h9_3, RG_i1 q2, e1, mr_u, mr_s, nI_1, nI_pred]
  · refine ⟨⟨⟨?_, ?_, ?_, ?_, ?_, ?_, hK, by omega, hD, ht⟩, IVd_mono (IVd_congr hd ?_ ?_ ?_ ?_ ?_) (Nat.le_refl _) (by omega), IVl_congr hl ?_ ?_, IVp_congr hp ?_ ?_, ?_, IVn_congr hn ?_ ?_ ?_⟩, ?_, ?_⟩
    all_goals first
      | (simp (disch := omega) only [wr_s, wr_n, wr_i]; done)
      | (simp (disch := omega) only [wr_s, wr_n, wr_i]; assumption)
      | skip
    · intro j k h1 h2 h3 h4
      rw [wr_n (by omega)]
      exact hh j k h1 h2 (by omega) h4
    · exact RG_wr q2 (by decide) (by decide)
    · exact LN_mr q3 (by omega) (by decide) (by decide)
theorem S_newDough {f : bkA} {r : Nat → Int32} {K H D t T b1 b2 b3 : Nat} {ls : List Nat} (h : SIM f r K H D ls t T) (hD16 : D < 16) (h1 : b1 < H) (h2 : b2 < K) (h3 : 1 ≤ b3) (h4 : b3 ≤ 4) : ∃ f' r', m7_newDough f (nI b1) (nI b2) (nI b3) = (nI D, f') ∧ m9_addDoughNow r (nI b1) (nI b2) (nI b3) = some (nI D, r') ∧ SIM f' r' K H (D+1) (ls ++ [D]) t T := by
  have hle := IV_len h.1
  obtain ⟨⟨⟨e0, e1, e2, e3, e4, e5, hK, hH, hD, ht⟩, hd, hl, hp, hh, hn⟩, hR, hL⟩ := h
  refine ⟨wr (wr (wr (wr (wr (wr (wr (wr (wr (wr (wr f 11 D (nI b1)) 12 D (nI b2)) 13 D (nI b3)) 14 D 0) 15 D 0) 16 D 0) 17 D (-1)) 18 D 0) 22 ls.length (nI D)) 23 2 (nI (D+1))) 23 3 (nI (ls.length+1)), mr (mr (mr (mr (mr (mr (mr (mr (mr (mr (mr r 11 D (nI b1)) 12 D (nI b2)) 13 D (nI b3)) 14 D 0) 15 D 0) 16 D 0) 17 D (-1)) 18 D 0) 22 ls.length (nI D)) 23 2 (nI (D+1))) 23 3 (nI (ls.length+1)), ?_, ?_, ?_⟩
  · unfold m7_newDough
    simp (disch := omega) only [ltx_s, e2, wr_put, wr_u, nI_1]
    rw [wr_put' (j := 22) (i := ls.length) ?_ (by omega) (by decide)]
    · simp (disch := omega) only [wr_s, wr_n, wr_i, e3, nI_1, wr_c23]
    · simp (disch := omega) only [wr_s, wr_n, wr_i, e3]
  · unfold m9_addDoughNow
    simp (disch := omega) only [ltx_s, c9_4, h9_4, RG_i2 hR, e2, mr_u, a9_put0, a9_put1, a9_put2, a9_put3, a9_put4, a9_put5, a9_put6, a9_put7, ob1_s, c9_5, h9_5, mr_n, mr_i, mr_s, RG_i3 hR, e3, e9_L, k9_22, q9_22, nI_1]
    simp (disch := omega) only [mr_c23]
  · have q15 : ∀ d, d < D → wr (wr (wr (wr (wr (wr (wr (wr (wr (wr (wr f 11 D (nI b1)) 12 D (nI b2)) 13 D (nI b3)) 14 D 0) 15 D 0) 16 D 0) 17 D (-1)) 18 D 0) 22 ls.length (nI D)) 23 2 (nI (D+1))) 23 3 (nI (ls.length+1)) 15 d = f 15 d := by
      intro d hdd
      simp (disch := omega) only [wr_s, wr_n, wr_i]
    refine ⟨⟨⟨?_, ?_, ?_, ?_, ?_, ?_, hK, hH, by omega, ht⟩, ?_, ⟨?_, ?_, ?_⟩, ?_, IVh_congr hh ?_ ?_ ?_ ?_ ?_ ?_, IVn_congr hn ?_ ?_ ?_⟩, ?_, ?_⟩
    all_goals first
      | (simp (disch := omega) only [wr_s, wr_n, wr_i]; done)
      | (simp (disch := omega) only [wr_s, wr_n, wr_i]; assumption)
      | skip
    · rw [wr_s, List.length_append]
      rfl
    · intro d hdd
      by_cases e : d = D
      · subst e
        simp (disch := omega) only [wr_s, wr_n, wr_i]
        exact ⟨⟨b1, h1, rfl⟩, ⟨b2, h2, rfl⟩, ⟨b3, h3, h4, rfl⟩, ⟨0, by decide, rfl⟩, fun _ => rfl⟩
      · have hlt : d < D := by omega
        simp (disch := omega) only [wr_s, wr_n, wr_i]
        exact hd d hlt
    · simp (disch := omega) only [wr_n]
      rw [wr_r]
      have q := LN_put (x := D) hl.1
      rw [Nat.zero_add] at q
      simp (disch := omega) only [wr_n]
      exact q
    · refine ND_ins (suf := []) ?_ ?_ ?_
      · rw [List.append_nil]
        exact hl.2.1
      · intro q
        have := ((hl.2.2 D).mp q).1
        omega
      · intro q
        cases q
    · intro d
      constructor
      · intro q
        rcases List.mem_append.mp q with q | q
        · have q2 := (hl.2.2 d).mp q
          exact ⟨by omega, by rw [q15 d q2.1]; exact q2.2⟩
        · have q2 : d = D := by
            rcases List.mem_cons.mp q with q | q
            · exact q
            · cases q
          subst q2
          refine ⟨by omega, ?_⟩
          simp (disch := omega) only [wr_s, wr_n, wr_i]
          rfl
      · intro q
        by_cases e : d = D
        · exact List.mem_append.mpr (Or.inr (List.mem_cons.mpr (Or.inl e)))
        · have hlt : d < D := by omega
          have q2 := q.2
          rw [q15 d hlt] at q2
          exact List.mem_append.mpr (Or.inl ((hl.2.2 d).mpr ⟨hlt, q2⟩))
    · intro p hpp
      have e19 : wr (wr (wr (wr (wr (wr (wr (wr (wr (wr (wr f 11 D (nI b1)) 12 D (nI b2)) 13 D (nI b3)) 14 D 0) 15 D 0) 16 D 0) 17 D (-1)) 18 D 0) 22 ls.length (nI D)) 23 2 (nI (D+1))) 23 3 (nI (ls.length+1)) 19 p = f 19 p := by
        simp (disch := omega) only [wr_s, wr_n, wr_i]
      rw [e19]
      rcases hp p hpp with q | ⟨d, q1, q2, q3⟩
      · exact Or.inl q
      · exact Or.inr ⟨d, by omega, q2, by rw [q15 d q1]; exact q3⟩
    · exact RG_wr (RG_wr (RG_wr (RG_wr (RG_wr (RG_wr (RG_wr (RG_wr (RG_wr (RG_wr (RG_wr hR (by decide) (by decide)) (by decide) (by decide)) (by decide) (by decide)) (by decide) (by decide)) (by decide) (by decide)) (by decide) (by decide)) (by decide) (by decide)) (by decide) (by decide)) (by decide) (by decide)) (by decide) (by decide)) (by decide) (by decide)
    · have q := LN_mr (j := 18) (i := D) (v := 0) (LN_mr (j := 17) (i := D) (v := -1) (LN_mr (j := 16) (i := D) (v := 0) (LN_mr (j := 15) (i := D) (v := 0) (LN_mr (j := 14) (i := D) (v := 0) (LN_mr (j := 13) (i := D) (v := nI b3) (LN_mr (j := 12) (i := D) (v := nI b2) (LN_mr (j := 11) (i := D) (v := nI b1) hL (by omega) (by decide) (by decide)) (by omega) (by decide) (by decide)) (by omega) (by decide) (by decide)) (by omega) (by decide) (by decide)) (by omega) (by decide) (by decide)) (by omega) (by decide) (by decide)) (by omega) (by decide) (by decide)) (by omega) (by decide) (by decide)
      have hle2 : (ls ++ [D]).length ≤ 16 := by
        rw [List.length_append]
        show ls.length + 1 ≤ 16
        omega
      exact LN_mr (LN_mr (LN_mrput q (by omega)) hle2 (by decide) (by decide)) hle2 (by decide) (by decide)
