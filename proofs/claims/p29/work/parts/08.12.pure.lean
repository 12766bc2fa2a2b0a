/-! settling -/
theorem bounds {t T lb u : Nat} (ht : t ≤ 400) (hT : T ≤ 200000) (h1 : u ≤ lb) (h2 : 25 * lb ≤ t + 72 * T) : u < 2^28 := by omega
theorem S_settle {f : bkA} {r : Nat → Int32} {K H D t T N : Nat} {ls : List Nat} (h : SIM f r K H D ls t T) (hT : T ≤ 200000) (hN : 100 < N) (ow : Nat → Int32) (rs : Nat → Int64) : ∃ x f' r' ow' rs', m7_settleLogs N f = some (x, f') ∧ m9_settleNow N r ow rs = some (x, r', ow', rs') ∧ SIM f' r' K H D ls t T := by
  have hsim := h
  have hle := IV_len h.1
  obtain ⟨⟨⟨e0, e1, e2, e3, e4, e5, hK, hH, hD, ht⟩, hd, hl, hp, hh, ⟨u, lb, a, n1, n2, n3, n4, n5, n6⟩⟩, hR, hL⟩ := h
  have hu := bounds ht hT n3 n4
  have hS : sumN a H < 2^28 := by
    have q := sumN_mono (a := a) hH
    omega
  unfold m7_settleLogs m9_settleNow
  rw [U7_useOfAll e1 hH n5 hN, U9_useOfAll hR e1 hH n5 hN, ob1_s, ob1_s]
  by_cases h0 : sumN a H = 0
  · rw [h0, if_pos (show nI 0 = 0 from rfl), if_pos (show nI 0 = 0 from rfl)]
    exact ⟨0, f, r, ow, rs, rfl, rfl, hsim⟩
  · obtain ⟨ow1, rs1, o1, o2⟩ := O9 (N := N) hR e1 hH n1 n5 hu hS hN ow rs
    rw [if_neg (nI_ne0 (by omega) (by omega)), if_neg (nI_ne0 (by omega) (by omega)), o1, ob2_s, c9_6, h9_6, RG_i6 hR, n1, ltx_s, ltx_s]
    have q7 : ∃ f1, m7_settleLogs_L16 N N (nI u) (nI 0) f = some f1 ∧ (∀ j, j ≠ 5 → f1 j = f j) ∧ (∀ k, f1 5 k = if k < H then f 5 k + (f 7 k - nI (owv u a H k)) else f 5 k) := by
      refine loop_i (σ := bkA) (fun n i s => ∃ f1, m7_settleLogs_L16 N n (nI u) (nI i) s = some f1 ∧ (∀ j, j ≠ 5 → f1 j = f j) ∧ (∀ k, f1 5 k = if k < H then f 5 k + (f 7 k - nI (owv u a H k)) else f 5 k)) (fun i s => (∀ j, j ≠ 5 → s j = f j) ∧ (∀ k, s 5 k = if k < i then f 5 k + (f 7 k - nI (owv u a H k)) else f 5 k)) H ?_ ?_ N 0 f (by omega) (by omega) ⟨fun _ _ => rfl, fun k => (if_neg (by omega)).symm⟩
      · intro n s hs
        refine ⟨s, ?_, hs⟩
        rw [m7_settleLogs_L16, hs.1 23 (by decide), e1, if_pos (Int32.le_refl _)]
      · intro n i s hi hs ih
        have o7 := O7 (f := s) (N := N) (h := i) (by rw [hs.1 23 (by decide)]; exact e1) hH (by rw [hs.1 23 (by decide)]; exact n1) (by rw [hs.1 6 (by decide)]; exact n5) hu hS hi hN
        rw [m7_settleLogs_L16, hs.1 23 (by decide), e1, if_neg (nI_ge hi (by omega)), o7, ob1_s, wr_inc (by omega) (by decide), rat_nI (by omega) (by decide), hs.1 7 (by decide), hs.2 i, if_neg (by omega), ltx_s, ltx_s, nI_1]
        refine ih _ ⟨?_, ?_⟩
        · intro j hj
          rw [wr_n hj]
          exact hs.1 j hj
        · intro k
          by_cases e : k = i
          · subst e
            rw [wr_s, if_pos (by omega)]
          · rw [wr_i e, hs.2 k]
            by_cases c : k < i
            · rw [if_pos c, if_pos (by omega)]
            · rw [if_neg c, if_neg (by omega)]
    have q9 : ∃ r1, m9_settleNow_L23 N N (nI u) (nI 0) r ow1 = some r1 ∧ (∀ j k, j < 24 → r1 (pos j k) = if k < H ∧ j = 5 then r (pos 5 k) + (r (pos 7 k) - nI (owv u a H k)) else if k < H ∧ (j = 6 ∨ j = 7) then 0 else r (pos j k)) ∧ LN r1 213 ls := by
      refine loop_i (σ := Nat → Int32) (fun n i s => ∃ r1, m9_settleNow_L23 N n (nI u) (nI i) s ow1 = some r1 ∧ (∀ j k, j < 24 → r1 (pos j k) = if k < H ∧ j = 5 then r (pos 5 k) + (r (pos 7 k) - nI (owv u a H k)) else if k < H ∧ (j = 6 ∨ j = 7) then 0 else r (pos j k)) ∧ LN r1 213 ls) (fun i s => (∀ j k, j < 24 → s (pos j k) = if k < i ∧ j = 5 then r (pos 5 k) + (r (pos 7 k) - nI (owv u a H k)) else if k < i ∧ (j = 6 ∨ j = 7) then 0 else r (pos j k)) ∧ LN s 213 ls) H ?_ ?_ N 0 r (by omega) (by omega) ⟨?_, hL⟩
      · intro n s hs
        refine ⟨s, ?_, hs⟩
        have e : s (pos 23 3) = r (pos 23 3) := by rw [hs.1 23 3 (by decide), if_neg (by omega), if_neg (by omega)]
        have e' : s (pos 23 1) = nI H := by rw [hs.1 23 1 (by decide), if_neg (by omega), if_neg (by omega), RG_i1 hR, e1]
        rw [m9_settleNow_L23, c9_3, h9_3, e', if_pos (Int32.le_refl _)]
      · intro n i s hi hs ih
        have e' : s (pos 23 1) = nI H := by rw [hs.1 23 1 (by decide), if_neg (by omega), if_neg (by omega), RG_i1 hR, e1]
        have i8 : i < 8 := by omega
        have e5' : s (pos 5 i) = r (pos 5 i) := by rw [hs.1 5 i (by decide), if_neg (by omega), if_neg (by omega)]
        have e7' : s (pos 7 i) = r (pos 7 i) := by rw [hs.1 7 i (by decide), if_neg (by omega), if_neg (by omega)]
        rw [m9_settleNow_L23, c9_3, h9_3, e', if_neg (nI_ge hi (by omega))]
        simp (disch := omega) only [ltx_s, e9_H0, e9_H1, e9_H2, k9_5, k9_6, k9_7, q9_5, q9_6, q9_7, ck_nI, nI_clamp, mr_u, e5', e7', o2 i hi, nI_1]
        refine ih _ ⟨?_, LN_mr (LN_mr (LN_mr hs.2 (by omega) (by decide) (by decide)) (by omega) (by decide) (by decide)) (by omega) (by decide) (by decide)⟩
        intro j k hj
        rw [mr_at (by decide) hj, mr_at (by decide) hj, mr_at (by decide) hj, hs.1 j k hj]
        by_cases c : k = i
        · subst c
          by_cases c5 : j = 5
          · subst c5
            rw [if_neg (by omega), if_neg (by omega), if_pos ⟨rfl, rfl⟩, if_pos ⟨by omega, rfl⟩]
          · by_cases c6 : j = 6
            · subst c6
              rw [if_neg (by omega), if_pos ⟨rfl, rfl⟩, if_neg (by omega), if_pos (by omega)]
            · by_cases c7 : j = 7
              · subst c7
                rw [if_pos ⟨rfl, rfl⟩, if_neg (by omega), if_pos (by omega)]
              · rw [if_neg (by omega), if_neg (by omega), if_neg (by omega), if_neg (by omega), if_neg (by omega), if_neg (by omega), if_neg (by omega)]
        · rw [if_neg (fun q => c q.2), if_neg (fun q => c q.2), if_neg (fun q => c q.2)]
          have p5 : (k < i + 1 ∧ j = 5) ↔ (k < i ∧ j = 5) := ⟨fun q => ⟨by omega, q.2⟩, fun q => ⟨by omega, q.2⟩⟩
          have p6 : (k < i + 1 ∧ (j = 6 ∨ j = 7)) ↔ (k < i ∧ (j = 6 ∨ j = 7)) := ⟨fun q => ⟨by omega, q.2⟩, fun q => ⟨by omega, q.2⟩⟩
          simp only [p5, p6]
      · intro j k hj
        rw [if_neg (by omega), if_neg (by omega)]
    obtain ⟨f1, a1, a2, a3⟩ := q7
    obtain ⟨r1, b1, b2, b3⟩ := q9
    have a1' : m7_settleLogs_L16 N N (nI u) 0 f = some f1 := a1
    have b1' : m9_settleNow_L23 N N (nI u) 0 r ow1 = some r1 := b1
    refine ⟨nI u, wr (ur (ur f1 6 (rfill 8 (f1 6) 0)) 7 (rfill 8 (f1 7) 0)) 23 6 0, mr r1 23 6 0, ow1, rs1, ?_, ?_, ?_⟩
    · rw [a1', ob1_s]
      simp only [ltx_s, wr_u]
      rw [ur_n (show (7 : Nat) ≠ 6 by decide)]
    · rw [b1', ob1_s, c9_6, ltx_s]
      rfl
    · have fj : ∀ j k, (j ≠ 23 ∨ k ≠ 6) → wr (ur (ur f1 6 (rfill 8 (f1 6) 0)) 7 (rfill 8 (f1 7) 0)) 23 6 0 j k = if j = 5 then (if k < H then f 5 k + (f 7 k - nI (owv u a H k)) else f 5 k) else if (j = 6 ∨ j = 7) ∧ k < 8 then 0 else f j k := by
        intro j k hjk
        rw [wr_at, if_neg (by omega)]
        by_cases c7 : j = 7
        · subst c7
          rw [ur_s, if_neg (by decide)]
          unfold rfill
          rw [a2 7 (by decide)]
          by_cases c : k < 8
          · rw [if_pos c, if_pos ⟨Or.inr rfl, c⟩]
          · rw [if_neg c, if_neg (fun q => c q.2)]
        · rw [ur_n c7]
          by_cases c6 : j = 6
          · subst c6
            rw [ur_s, if_neg (by decide)]
            unfold rfill
            rw [a2 6 (by decide)]
            by_cases c : k < 8
            · rw [if_pos c, if_pos ⟨Or.inl rfl, c⟩]
            · rw [if_neg c, if_neg (fun q => c q.2)]
          · rw [ur_n c6]
            by_cases c5 : j = 5
            · subst c5
              rw [if_pos rfl]
              exact a3 k
            · rw [if_neg c5, if_neg (by omega), a2 j c5]
      have fr0 : ∀ j, j ≠ 5 → j ≠ 6 → j ≠ 7 → j ≠ 23 → wr (ur (ur f1 6 (rfill 8 (f1 6) 0)) 7 (rfill 8 (f1 7) 0)) 23 6 0 j = f j := by
        intro j h5 h6 h7 h23
        rw [wr_n h23, ur_n h7, ur_n h6, a2 j h5]
      have f23 : ∀ k, k ≠ 6 → wr (ur (ur f1 6 (rfill 8 (f1 6) 0)) 7 (rfill 8 (f1 7) 0)) 23 6 0 23 k = f 23 k := by
        intro k hk
        rw [wr_i hk, ur_n (by decide), ur_n (by decide), a2 23 (by decide)]
      refine ⟨⟨⟨?_, ?_, ?_, ?_, ?_, ?_, hK, hH, hD, ht⟩, IVd_congr hd ?_ ?_ ?_ ?_ ?_, IVl_congr hl ?_ ?_, IVp_congr hp ?_ ?_, ?_, ⟨0, lb, fun _ => 0, ?_, ?_, by omega, n4, ?_, ?_⟩⟩, ⟨?_, ?_⟩, LN_mr b3 (by omega) (by decide) (by decide)⟩
      all_goals first
        | (rw [f23 _ (by decide)]; assumption)
        | (exact fr0 _ (by decide) (by decide) (by decide) (by decide))
        | skip
      · intro j k h1 h2 h3 h4
        rw [fj j k (Or.inl (by omega))]
        by_cases c5 : j = 5
        · subst c5
          rw [if_pos rfl, if_neg (by omega)]
          exact hh 5 k h1 h2 h3 h4
        · rw [if_neg c5]
          by_cases c6 : j = 6 ∨ j = 7
          · rw [if_pos ⟨c6, h4⟩]
            rfl
          · rw [if_neg (fun q => c6 q.1)]
            exact hh j k h1 h2 h3 h4
      · rw [wr_s]
        rfl
      · intro k hk
        rw [fj 6 k (Or.inl (by decide)), if_neg (by decide), if_pos ⟨Or.inl rfl, hk⟩]
        rfl
      · rw [sumN_0 (fun _ _ => rfl)]
        omega
      · intro j k hj hk n20 n21 n22
        by_cases c : j = 23 ∧ k = 6
        · rw [c.1, c.2, mr_s, wr_s]
        · rw [mr_at (by decide) hj, if_neg c, b2 j k hj, fj j k (by omega)]
          by_cases c5 : j = 5
          · subst c5
            have k8 : k < 8 := hk
            rw [if_pos rfl, RG_5 hR k8, RG_7 hR k8]
            by_cases c2 : k < H
            · rw [if_pos ⟨c2, rfl⟩, if_pos c2]
            · rw [if_neg (fun q => c2 q.1), if_neg (fun q => c2 q.1), if_neg c2]
          · rw [if_neg (fun q => c5 q.2), if_neg c5]
            by_cases c6 : j = 6 ∨ j = 7
            · have k8 : k < 8 := by
                rcases c6 with c6 | c6 <;> subst c6 <;> exact hk
              rw [if_pos (show (j = 6 ∨ j = 7) ∧ k < 8 from ⟨c6, k8⟩)]
              by_cases c2 : k < H
              · rw [if_pos (show k < H ∧ (j = 6 ∨ j = 7) from ⟨c2, c6⟩)]
              · rw [if_neg (show ¬ (k < H ∧ (j = 6 ∨ j = 7)) from fun q => c2 q.1), hR.1 j k hj hk n20 n21 n22]
                exact hh j k (by omega) (by omega) (by omega) k8
            · rw [if_neg (fun q => c6 q.2), if_neg (fun q => c6 q.1), hR.1 j k hj hk n20 n21 n22]
      · intro p hp12 hn
        rw [fr0 19 (by decide) (by decide) (by decide) (by decide)] at hn
        rw [fr0 20 (by decide) (by decide) (by decide) (by decide), fr0 21 (by decide) (by decide) (by decide) (by decide), mr_n (j' := 20) (by decide) (by decide) (by decide), mr_n (j' := 21) (by decide) (by decide) (by decide), b2 20 p (by decide), b2 21 p (by decide), if_neg (by omega), if_neg (by omega), if_neg (by omega), if_neg (by omega)]
        exact hR.2 p hp12 hn
