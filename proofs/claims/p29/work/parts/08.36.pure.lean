/-! doughs are cleared away: the loop over the doughs -/
def CL (f : bkA) (D : Nat) (ls : List Nat) (i : Nat) (g : bkA) (s rn : Nat → Int32) : Prop := RG (ur g 19 (f 19)) s ∧ LN (g 22) 0 (ls.map (rho f i)) ∧ (∀ p, p < 12 → (f 19 p = iM → g 19 p = iM) ∧ ∀ e, e < D → f 19 p = nI e → g 19 p = nI (rho f i e)) ∧ (∀ j, ¬ (11 ≤ j ∧ j ≤ 19) → j ≠ 22 → g j = f j) ∧ (∀ e, e < i → kp f e = true → ∀ j, 11 ≤ j → j ≤ 18 → g j (rk f e) = f j e) ∧ (∀ e, i ≤ e → ∀ j, 11 ≤ j → j ≤ 18 → g j e = f j e) ∧ LN s 213 ls ∧ (∀ e, e < i → rn e = if kp f e = true then nI (rk f e) else iM)
theorem clear_loop {f : bkA} {r rn0 : Nat → Int32} {K H D t T N : Nat} {ls : List Nat} (h : SIM f r K H D ls t T) (hN : 100 < N) : ∃ g s rn, m7_clearAway_L12 N N (nI D) 0 0 f = some (nI (rk f D), g) ∧ m9_clearDoughs_L13 N N 0 0 r rn0 = some (nI (rk f D), s, rn) ∧ CL f D ls D g s rn := by
  have hle := IV_len h.1
  have h16 := IV_16 h.1
  obtain ⟨⟨⟨e0, e1, e2, e3, e4, e5, hK, hH, hD, ht⟩, hd, hl, hp, hh, hn⟩, hR, hL⟩ := h
  have hmem : ∀ x, x ∈ ls → kp f x = true := fun x hx => decide_eq_true (Or.inl ((hl.2.2 x).mp hx).2)
  have z : ∃ g s rn, m7_clearAway_L12 N N (nI D) (nI (rk f 0)) (nI 0) f = some (nI (rk f D), g) ∧ m9_clearDoughs_L13 N N (nI (rk f 0)) (nI 0) r rn0 = some (nI (rk f D), s, rn) ∧ CL f D ls D g s rn := by
    refine loop_i (σ := bkA × (Nat → Int32) × (Nat → Int32)) (fun n i x => ∃ g s rn, m7_clearAway_L12 N n (nI D) (nI (rk f i)) (nI i) x.1 = some (nI (rk f D), g) ∧ m9_clearDoughs_L13 N n (nI (rk f i)) (nI i) x.2.1 x.2.2 = some (nI (rk f D), s, rn) ∧ CL f D ls D g s rn) (fun i x => CL f D ls i x.1 x.2.1 x.2.2) D ?_ ?_ N 0 (f, r, rn0) (by omega) (by omega) ?_
    · intro n x hx
      refine ⟨x.1, x.2.1, x.2.2, ?_, ?_, hx⟩
      · rw [m7_clearAway_L12, if_pos (Int32.le_refl _)]
      · have e2' : x.2.1 (pos 23 2) = nI D := by
          rw [RG_i2 hx.1, ur_n (by decide), hx.2.2.2.1 23 (by decide) (by decide)]
          exact e2
        rw [m9_clearDoughs_L13, c9_4, h9_4, e2', if_pos (Int32.le_refl _)]
    · intro n i x hi hx ih
      obtain ⟨g, s, rn⟩ := x
      obtain ⟨x1, x2, x3, x4, x5, x6, x7, x8⟩ := hx
      dsimp only at x1 x2 x3 x4 x5 x6 x7 x8 ⊢
      have hi16 : i < 16 := by omega
      have hk := rk_le (f := f) (d := i)
      have e2' : s (pos 23 2) = nI D := by
        rw [RG_i2 x1, ur_n (by decide), x4 23 (by decide) (by decide)]
        exact e2
      have e3' : g 23 3 = nI ls.length := by
        rw [x4 23 (by decide) (by decide)]
        exact e3
      have p7 : g 15 i = f 15 i := x6 i (Nat.le_refl i) 15 (by decide) (by decide)
      have p9 : s (pos 15 i) = f 15 i := by
        rw [RG_15 x1 hi16, ur_n (by decide)]
        exact p7
      rw [m7_clearAway_L12, m9_clearDoughs_L13, if_neg (nI_ge hi (by omega)), c9_4, h9_4, e2', if_neg (nI_ge hi (by omega)), rat_nI hi16 (by decide), p7, ltx_s, a9_of4 hi16, ob1_s, p9]
      by_cases c : kp f i = true
      · have c01 : f 15 i = nI 0 ∨ f 15 i = nI 1 := of_decide_eq_true c
        obtain ⟨s1, m1, m2, m3⟩ := move9 (N := N) hi16 (show rk f i < 16 by omega) x1 x7 (by omega) hN
        have mg := move_mv (f := g) hi16 (show rk f i < 16 by omega)
        have r7 := ren7 (f := mvj g i (rk f i) 8) (N := N) (d := i) (k := rk f i) (W := ls.length) (by omega) (by rw [mvj_n (by omega)]; exact e3') hN
        have cls : (ob2 (if f 15 i = 0 then lt1 (m1_move g (nI i) (nI (rk f i))) fun f26 => ob1 (m7_renumber N f26 (nI i) (nI (rk f i))) fun f28 => lt_ (nI (rk f i) + 1) fun x30 => some (x30, f28) else if f 15 i = 1 then lt1 (m1_move g (nI i) (nI (rk f i))) fun f32 => ob1 (m7_renumber N f32 (nI i) (nI (rk f i))) fun f34 => lt_ (nI (rk f i) + 1) fun x36 => some (x36, f34) else some (nI (rk f i), g)) fun x23 f24 => lt_ (nI i + 1) fun x37 => m7_clearAway_L12 N n (nI D) x23 x37 f24) = m7_clearAway_L12 N n (nI D) (nI (rk f (i+1))) (nI (i+1)) (ur (ur (mvj g i (rk f i) 8) 22 (r22 (mvj g i (rk f i) 8 22) ls.length i (rk f i))) 19 (r22 (mvj g i (rk f i) 8 19) 12 i (rk f i))) := by
          rcases c01 with c0 | c0
          · rw [if_pos (show f 15 i = 0 from c0), mg, lt1_s, r7, ob1_s, ltx_s, ob2_s, ltx_s, nI_1, nI_1, rk_t c]
          · rw [if_neg (show ¬ f 15 i = 0 by rw [c0]; decide), if_pos (show f 15 i = 1 from c0), mg, lt1_s, r7, ob1_s, ltx_s, ob2_s, ltx_s, nI_1, nI_1, rk_t c]
        have n2 : ¬ (2 : Int32) ≤ f 15 i := by
          rcases c01 with c0 | c0 <;> rw [c0] <;> decide
        rw [cls, if_neg n2, lt1_s, if_neg n10, lt1_s, ck_nI hi16 (by decide), nI_clamp (by omega), ltx_s, m1, ob1_s, if_neg n10, lt1_s, ltx_s, ltx_s, nI_1, nI_1, ← rk_t c]
        refine ih (ur (ur (mvj g i (rk f i) 8) 22 (r22 (mvj g i (rk f i) 8 22) ls.length i (rk f i))) 19 (r22 (mvj g i (rk f i) 8 19) 12 i (rk f i)), s1, upd rn i (nI (rk f i))) ⟨?_, ?_, ?_, ?_, ?_, ?_, m3, ?_⟩
        · dsimp only
          rw [← mvj_ur (by decide)] at m2
          refine RG_c m2 ?_
          intro j hj
          by_cases h19 : j = 19
          · subst h19
            rw [ur_s, ur_s]
          · rw [ur_n h19, ur_n h19, ur_n hj, ur_n h19]
        · dsimp only
          rw [ur_n (show (22 : Nat) ≠ 19 by decide), ur_s, mvj_n (show ¬ (11 ≤ 22 ∧ 22 < 11 + 8) by omega)]
          refine LN_map ls 0 x2 ?_
          intro m y h1 h2 hy h4
          have hy16 := h16 y hy
          have hry := rho_le (f := f) (i := i) (x := y)
          unfold r22
          by_cases ce : rho f i y = i
          · have ey := rho_i ce
            rw [if_pos ⟨by omega, by rw [h4, ce]⟩, ey, rho_s]
          · rw [if_neg (fun q => ce ((nI_eq (by omega) (by omega)).mp (h4.symm.trans q.2))), h4]
            rw [rho_n (fun ey => ce (by rw [ey]; unfold rho; rw [if_neg (by omega)]))]
        · dsimp only
          intro p hp12
          rw [ur_s, mvj_n (show ¬ (11 ≤ 19 ∧ 19 < 11 + 8) by omega)]
          refine ⟨?_, ?_⟩
          · intro em
            unfold r22
            rw [(x3 p hp12).1 em, if_neg (fun q => iM_ne_nI (by omega) q.2)]
          · intro e he ee
            have h4 := (x3 p hp12).2 e he ee
            have hry := rho_le (f := f) (i := i) (x := e)
            unfold r22
            by_cases ce : rho f i e = i
            · have ey := rho_i ce
              rw [if_pos ⟨by omega, by rw [h4, ce]⟩, ey, rho_s]
            · rw [if_neg (fun q => ce ((nI_eq (by omega) (by omega)).mp (h4.symm.trans q.2))), h4]
              rw [rho_n (fun ey => ce (by rw [ey]; unfold rho; rw [if_neg (by omega)]))]
        · dsimp only
          intro j hj hj22
          rw [ur_n (by omega), ur_n hj22, mvj_n (by omega)]
          exact x4 j hj hj22
        · dsimp only
          intro e he ke j hj1 hj2
          rw [ur_n (by omega), ur_n (by omega)]
          by_cases ei : e = i
          · subst ei
            rw [mvj_k hj1 hj2]
            exact x6 e (Nat.le_refl e) j hj1 hj2
          · have hlt := rk_lt (f := f) (a := e) (b := i) (by omega) ke
            rw [mvj_e (by omega)]
            exact x5 e (by omega) ke j hj1 hj2
        · dsimp only
          intro e he j hj1 hj2
          rw [ur_n (by omega), ur_n (by omega), mvj_e (by omega)]
          exact x6 e (by omega) j hj1 hj2
        · dsimp only
          intro e he
          by_cases ei : e = i
          · subst ei
            rw [pk_us, if_pos c]
          · rw [pk_un ei]
            exact x8 e (by omega)
      · obtain ⟨ph, p1, p2⟩ := (hd i hi).2.2.2.1
        have c23 : f 15 i = nI 2 ∨ f 15 i = nI 3 := by
          have hph : ph = 0 ∨ ph = 1 ∨ ph = 2 ∨ ph = 3 := by omega
          rcases hph with e | e | e | e
          · rw [e] at p2
            exact absurd (decide_eq_true (Or.inl p2)) c
          · rw [e] at p2
            exact absurd (decide_eq_true (Or.inr p2)) c
          · rw [e] at p2
            exact Or.inl p2
          · rw [e] at p2
            exact Or.inr p2
        have hni : ∀ y, y ∈ ls → y ≠ i := by
          intro y hy e
          rw [← e] at c
          exact c (hmem y hy)
        have n0 : ¬ f 15 i = 0 := by
          rcases c23 with c0 | c0 <;> rw [c0] <;> decide
        have n1 : ¬ f 15 i = 1 := by
          rcases c23 with c0 | c0 <;> rw [c0] <;> decide
        have y2 : (2 : Int32) ≤ f 15 i := by
          rcases c23 with c0 | c0 <;> rw [c0] <;> decide
        have l60 : ∀ N1, 1 < N1 → m9_clearDoughs_L60 N N1 (nI (rk f i)) (nI i) 0 0 s = some s := by
          intro N1 h1
          cases N1 with
          | zero => omega
          | succ N1 => rw [m9_clearDoughs_L60, if_neg (by decide), if_pos rfl]
        rw [if_neg n0, if_neg n1, ob2_s, ltx_s, nI_1, if_pos y2, lt1_s, if_pos rfl, lt1_s, ck_nI hi16 (by decide), nI_clamp (by omega), ltx_s, l60 N (by omega), ob1_s, if_pos rfl, lt1_s, ltx_s, ltx_s, Int32.add_zero, ← rk_f c]
        refine ih (g, s, upd rn i (-1)) ⟨x1, ?_, ?_, x4, ?_, ?_, x7, ?_⟩
        · dsimp only
          refine LN_map ls 0 x2 ?_
          intro m y h1 h2 hy h4
          rw [h4, rho_n (hni y hy)]
        · dsimp only
          intro p hp12
          refine ⟨(x3 p hp12).1, ?_⟩
          intro e he ee
          have hei : e ≠ i := by
            intro ei
            rcases hp p hp12 with q | ⟨d, q1, q2, q3⟩
            · rw [q] at ee
              exact iM_ne_nI (by omega) ee
            · have ed : d = e := (nI_eq (by omega) (by omega)).mp (q2.symm.trans ee)
              rw [ed, ei] at q3
              exact c (decide_eq_true (Or.inr q3))
          rw [rho_n hei]
          exact (x3 p hp12).2 e he ee
        · dsimp only
          intro e he ke j hj1 hj2
          have hei : e ≠ i := fun ei => c (by rw [← ei]; exact ke)
          exact x5 e (by omega) ke j hj1 hj2
        · dsimp only
          intro e he j hj1 hj2
          exact x6 e (by omega) j hj1 hj2
        · dsimp only
          intro e he
          by_cases ei : e = i
          · subst ei
            rw [pk_us, if_neg c]
            rfl
          · rw [pk_un ei]
            exact x8 e (by omega)
    · refine ⟨?_, ?_, ?_, fun j _ _ => rfl, fun e he => absurd he (by omega), fun e _ j _ _ => rfl, hL, fun e he => absurd he (by omega)⟩
      · dsimp only
        refine RG_c hR ?_
        intro j hj
        by_cases h19 : j = 19
        · subst h19
          rw [ur_s]
        · rw [ur_n h19]
      · dsimp only
        have em : ls.map (rho f 0) = ls.map id := List.map_congr_left fun x _ => if_neg (by omega)
        rw [em, List.map_id]
        exact hl.1
      · intro p hp12
        dsimp only
        refine ⟨fun q => q, fun e he ee => ?_⟩
        rw [ee]
        unfold rho
        rw [if_neg (by omega)]
  exact z
theorem S_clear {f : bkA} {r rn0 : Nat → Int32} {K H D t T N : Nat} {ls : List Nat} (h : SIM f r K H D ls t T) (hN : 100 < N) : ∃ x f' r' s1 s2 rn K' H' D' ls' t', m7_clearAway N f = some (x, f') ∧ m9_clearDoughs_L13 N N 0 0 r rn0 = some (x, s1, rn) ∧ m9_clearDoughs_L117 N N x 0 s1 rn = some s2 ∧ m9_clearDoughs_L160 N N x 0 s2 rn = some r' ∧ SIM f' (mr r' 23 2 x) K' H' D' ls' t' T := by
  obtain ⟨g, s, rn, a1, a2, x1, x2, x3, x4, x5, x6, x7, x8⟩ := clear_loop (rn0 := rn0) (N := N) h hN
  have hle := IV_len h.1
  have h16 := IV_16 h.1
  obtain ⟨⟨⟨e0, e1, e2, e3, e4, e5, hK, hH, hD, ht⟩, hd, hl, hp, hh, hn⟩, hR, hL⟩ := h
  have hmem : ∀ x, x ∈ ls → kp f x = true := fun x hx => decide_eq_true (Or.inl ((hl.2.2 x).mp hx).2)
  have hmD : ∀ x, x ∈ ls → x < D := fun x hx => ((hl.2.2 x).mp hx).1
  have hrD := rk_le (f := f) (d := D)
  have s3 : s (pos 23 3) = nI ls.length := by
    rw [RG_i3 x1, ur_n (by decide), x4 23 (by decide) (by decide)]
    exact e3
  obtain ⟨sl, esl⟩ : ∃ sl : Nat → Nat → Int32, sl = fun i p => if 213 ≤ p ∧ p < 213 + i then rn (s p).toNatClampNeg else s p := ⟨_, rfl⟩
  have slo : ∀ i j k, i ≤ 16 → j < 24 → j ≠ 22 → k < pL j → sl i (pos j k) = s (pos j k) := by
    intro i j k hi hj hj22 hk
    rw [esl]
    dsimp only
    rw [if_neg]
    intro q
    have e : pos j k = pos 22 (pos j k - 213) := by
      rw [pos_l (by omega)]
      omega
    exact hj22 (pos_inj hj (by decide) e).1
  have lp : m9_clearDoughs_L117 N N (nI (rk f D)) (nI 0) s rn = some (sl ls.length) := by
    refine loop_i (σ := Nat → Int32) (fun n i y => m9_clearDoughs_L117 N n (nI (rk f D)) (nI i) y rn = some (sl ls.length)) (fun i y => y = sl i) ls.length ?_ ?_ N 0 s (by omega) (by omega) ?_
    · intro n y hy
      rw [m9_clearDoughs_L117, hy, c9_5, h9_5, slo _ 23 3 (by omega) (by decide) (by decide) (by decide), s3, if_pos (Int32.le_refl _)]
    · intro n i y hi hy ih
      have hi16 : i < 16 := by omega
      obtain ⟨w, w1, w2⟩ := LN_i x7 hi
      have es : sl i (pos 22 i) = nI w := by
        rw [pos_l hi16, esl]
        dsimp only
        rw [if_neg (by omega)]
        exact w2
      have hw := hmD w w1
      rw [m9_clearDoughs_L117, hy, c9_5, h9_5, slo _ 23 3 (by omega) (by decide) (by decide) (by decide), s3, if_neg (nI_ge hi (by omega)), e9_L hi16, k9_22 hi16, q9_22 hi16, es, ck_nI (by omega) (by decide), k9_22 hi16, nI_clamp (by omega), ltx_s, ltx_s, nI_1]
      refine ih _ ?_
      rw [pos_l hi16]
      funext p
      by_cases ep : p = 213 + i
      · subst ep
        rw [pk_us, esl]
        dsimp only
        rw [if_pos (by omega), w2, nI_clamp (by omega)]
      · rw [pk_un ep, esl]
        dsimp only
        by_cases c : 213 ≤ p ∧ p < 213 + i
        · rw [if_pos c, if_pos (by omega)]
        · rw [if_neg c, if_neg (by omega)]
    · rw [esl]
      funext p
      exact (if_neg (by omega)).symm
  have lL : LN (sl ls.length) 213 (ls.map (rk f)) := by
    have x7' : LN s 213 (ls.map id) := by rw [List.map_id]; exact x7
    refine LN_map ls 213 x7' ?_
    intro m y h1 h2 hy h4
    have h4' : s m = nI y := h4
    have hy1 := hmD y hy
    rw [esl]
    dsimp only
    rw [if_pos ⟨h1, h2⟩, h4', nI_clamp (by omega), x8 y hy1, if_pos (hmem y hy)]
  have lm : (ls.map (rk f)).length = ls.length := List.length_map ..
  have pl : ∃ r', m9_clearDoughs_L160 N N (nI (rk f D)) (nI 0) (sl ls.length) rn = some r' ∧ (∀ j k, j < 24 → j ≠ 19 → j ≠ 22 → k < pL j → r' (pos j k) = s (pos j k)) ∧ (∀ p, p < 12 → r' (pos 19 p) = g 19 p) ∧ LN r' 213 (ls.map (rk f)) := by
    refine loop_i (σ := Nat → Int32) (fun n i y => ∃ r', m9_clearDoughs_L160 N n (nI (rk f D)) (nI i) y rn = some r' ∧ (∀ j k, j < 24 → j ≠ 19 → j ≠ 22 → k < pL j → r' (pos j k) = s (pos j k)) ∧ (∀ p, p < 12 → r' (pos 19 p) = g 19 p) ∧ LN r' 213 (ls.map (rk f))) (fun i y => (∀ j k, j < 24 → j ≠ 19 → j ≠ 22 → k < pL j → y (pos j k) = s (pos j k)) ∧ (∀ p, p < 12 → y (pos 19 p) = if p < i then g 19 p else f 19 p) ∧ LN y 213 (ls.map (rk f))) 12 ?_ ?_ N 0 (sl ls.length) (by omega) (by omega) ⟨?_, ?_, lL⟩
    · intro n y hy
      refine ⟨y, ?_, hy.1, ?_, hy.2.2⟩
      · rw [m9_clearDoughs_L160, if_pos (by decide)]
      · intro p hp12
        rw [hy.2.1 p hp12, if_pos hp12]
    · intro n i y hi hy ih
      have ey : y (pos 19 i) = f 19 i := by rw [hy.2.1 i hi, if_neg (by omega)]
      have step : ∀ v : Int32, v = g 19 i → ∃ r', (ck (nI (pos 19 i)) 265 <| lt_ (upd y (nI (pos 19 i)).toNatClampNeg v) fun s79 => lt_ (nI i + 1) fun x80 => m9_clearDoughs_L160 N n (nI (rk f D)) x80 s79 rn) = some r' ∧ (∀ j k, j < 24 → j ≠ 19 → j ≠ 22 → k < pL j → r' (pos j k) = s (pos j k)) ∧ (∀ p, p < 12 → r' (pos 19 p) = g 19 p) ∧ LN r' 213 (ls.map (rk f)) := by
        intro v hv
        rw [k9_19 hi, q9_19 hi, mr_u, ltx_s, ltx_s, nI_1]
        refine ih _ ⟨?_, ?_, LN_mr hy.2.2 (by omega) (by decide) (by decide)⟩
        · intro j k hj h19 h22 hk
          rw [mr_n h19 (by decide) hj]
          exact hy.1 j k hj h19 h22 hk
        · intro p hp12
          by_cases ep : p = i
          · subst ep
            rw [mr_s, if_pos (by omega), hv]
          · rw [mr_i ep (by decide), hy.2.1 p hp12]
            by_cases c : p < i
            · rw [if_pos c, if_pos (by omega)]
            · rw [if_neg c, if_neg (by omega)]
      rw [m9_clearDoughs_L160, if_neg (show ¬ (12 : Int32) ≤ nI i from nI_ge hi (by decide)), a9_at0 hi, ob1_s, ey, e9_P0 hi]
      rcases hp i hi with q | ⟨d, q1, q2, q3⟩
      · rw [q, if_pos (show iM = -1 from rfl), ob2_s]
        exact step _ (((x3 i hi).1 q).symm)
      · rw [q2, if_neg (show ¬ nI d = -1 from nI_ne_iM (by omega)), ck_nI (show d < 16 by omega) (by decide), ob2_s, nI_clamp (show d < 2^31 by omega), x8 d q1, if_pos (show kp f d = true from decide_eq_true (Or.inr q3))]
        refine step _ ?_
        rw [(x3 i hi).2 d q1 q2, rho_D q1]
    · intro j k hj h19 h22 hk
      exact slo _ j k (by omega) hj h22 hk
    · intro p hp12
      rw [if_neg (by omega), slo _ 19 p (by omega) (by decide) (by decide) hp12, RG_19 x1 hp12, ur_s]
  obtain ⟨r', b1, b2, b3, b4⟩ := pl
  have lp' : m9_clearDoughs_L117 N N (nI (rk f D)) 0 s rn = some (sl ls.length) := lp
  have b1' : m9_clearDoughs_L160 N N (nI (rk f D)) 0 (sl ls.length) rn = some r' := b1
  have gv : ∀ x, x < rk f D → ∃ e, e < D ∧ kp f e = true ∧ rk f e = x ∧ ∀ j, 11 ≤ j → j ≤ 18 → g j x = f j e := by
    intro x hx
    obtain ⟨e, h1, h2, h3⟩ := rk_sur (f := f) D x hx
    refine ⟨e, h1, h2, h3, ?_⟩
    intro j hj1 hj2
    rw [← h3]
    exact x5 e h1 h2 j hj1 hj2
  refine ⟨nI (rk f D), wr g 23 2 (nI (rk f D)), r', s, sl ls.length, rn, K, H, rk f D, ls.map (rk f), t, ?_, a2, lp', b1', ⟨⟨⟨?_, ?_, wr_s, ?_, ?_, ?_, hK, hH, by omega, ht⟩, ?_, ⟨?_, ?_, ?_⟩, ?_, ?_, ?_⟩, ?_, ?_⟩⟩
  · unfold m7_clearAway
    rw [e2, ltx_s, a1, ob2_s, ltx_s]
    rfl
  · rw [wr_i (by decide), x4 23 (by decide) (by decide)]
    exact e0
  · rw [wr_i (by decide), x4 23 (by decide) (by decide)]
    exact e1
  · rw [wr_i (by decide), x4 23 (by decide) (by decide), lm]
    exact e3
  · rw [wr_i (by decide), x4 23 (by decide) (by decide)]
    exact e4
  · rw [wr_i (by decide), x4 23 (by decide) (by decide)]
    exact e5
  · intro x hx
    obtain ⟨e, h1, h2, h3, h4⟩ := gv x hx
    rw [wr_n (by decide), wr_n (by decide), wr_n (by decide), wr_n (by decide), wr_n (by decide), h4 11 (by decide) (by decide), h4 12 (by decide) (by decide), h4 13 (by decide) (by decide), h4 15 (by decide) (by decide), h4 17 (by decide) (by decide)]
    exact hd e h1
  · rw [wr_n (by decide)]
    have em : ls.map (rho f D) = ls.map (rk f) := List.map_congr_left fun x hx => rho_D (hmD x hx)
    rw [← em]
    exact x2
  · exact ND_map ls hl.2.1 (fun x y hx hy e => rk_inj (hmem x hx) (hmem y hy) e)
  · intro x
    rw [wr_n (by decide)]
    constructor
    · intro q
      obtain ⟨e, h1, h2⟩ := List.mem_map.mp q
      have h3 := (hl.2.2 e).mp h1
      have h4 := rk_lt (f := f) h3.1 (hmem e h1)
      refine ⟨by omega, ?_⟩
      rw [← h2, x5 e h3.1 (hmem e h1) 15 (by decide) (by decide)]
      exact h3.2
    · intro q
      obtain ⟨e, h1, h2, h3, h4⟩ := gv x q.1
      have h5 := q.2
      rw [h4 15 (by decide) (by decide)] at h5
      exact List.mem_map.mpr ⟨e, (hl.2.2 e).mpr ⟨h1, h5⟩, h3⟩
  · intro p hp12
    rw [wr_n (by decide), wr_n (by decide)]
    rcases hp p hp12 with q | ⟨d, q1, q2, q3⟩
    · exact Or.inl ((x3 p hp12).1 q)
    · have kd : kp f d = true := decide_eq_true (Or.inr q3)
      refine Or.inr ⟨rk f d, rk_lt q1 kd, ?_, ?_⟩
      · rw [(x3 p hp12).2 d q1 q2, rho_D q1]
      · rw [x5 d q1 kd 15 (by decide) (by decide)]
        exact q3
  · intro j k h1 h2 h3 h4
    rw [wr_n (by omega), x4 j (by omega) (by omega)]
    exact hh j k h1 h2 h3 h4
  · refine IVn_congr hn ?_ ?_ ?_
    · rw [wr_n (by decide), x4 6 (by decide) (by decide)]
    · rw [wr_i (by decide), x4 23 (by decide) (by decide)]
    · rw [wr_i (by decide), x4 23 (by decide) (by decide)]
  · refine RG_wr (j := 23) (i := 2) (v := nI (rk f D)) ⟨?_, ?_⟩ (by decide) (by decide)
    · intro j i hj hi n20 n21 n22
      by_cases h19 : j = 19
      · subst h19
        exact b3 i hi
      · rw [b2 j i hj h19 n22 hi, x1.1 j i hj hi n20 n21 n22, ur_n h19]
    · intro p hp12 hn2
      have hn3 : ¬ f 19 p = iM := fun q => hn2 ((x3 p hp12).1 q)
      have q := x1.2 p hp12 (by rw [ur_s]; exact hn3)
      rw [ur_n (by decide), ur_n (by decide)] at q
      rw [b2 20 p (by decide) (by decide) (by decide) hp12, b2 21 p (by decide) (by decide) (by decide) hp12]
      exact q
  · exact LN_mr b4 (by omega) (by decide) (by decide)
