/-! what is done is taken out -/
theorem baked9_0 {f : bkA} {r : Nat → Int32} {N d : Nat} {o : Int32} (hR : RGo f r o) : ∀ (n i : Nat), i ≤ 12 → 12 - i < n → m9_isBaked_L18 N n (nI d) 0 (nI i) r = some 0 := by
  intro n i hi hn
  refine loop_i (σ := Unit) (fun n i _ => m9_isBaked_L18 N n (nI d) 0 (nI i) r = some 0) (fun _ _ => True) 12 ?_ ?_ n i () hi hn trivial
  · intro n s _
    rw [m9_isBaked_L18, if_pos (by decide)]
  · intro n i s hi2 _ ih
    rw [m9_isBaked_L18, if_neg (show ¬ (12 : Int32) ≤ nI i from nI_ge hi2 (by decide)), z0, ob1_s, ltx_s, nI_1]
    exact ih () trivial
theorem S_baked {f : bkA} {r : Nat → Int32} {N d k : Nat} {o : Int32} (hR : RGo f r o) (hd : d < 16) (hk : k < 5) (ek : f 12 d = nI k) (h15 : f 15 d = nI 1) (hN : 100 < N) : ∃ b, (b = 0 ∨ b = 1) ∧ m7_isBaked N f (nI d) = some b ∧ m9_isBaked N r (nI d) = some b := by
  have r12 : r (pos 12 d) = nI k := (RGo_12' hR hd).trans ek
  unfold m7_isBaked m9_isBaked
  rw [rat_nI hd (by decide), ek, rat_nI hk (by decide), ltx_s, a9_of4 hd, ob1_s, RGo_15' hR hd, h15, if_pos (show nI 1 = 1 from rfl), lt1_s]
  have q : 12 - 0 < N → ∃ b, (b = 0 ∨ b = 1) ∧ m7_isBaked_L24 N N (nI d) (f 2 k) (nI 0) f = some b ∧ m9_isBaked_L18 N N (nI d) 1 (nI 0) r = some b := by
    refine loop_i (σ := Unit) (fun n i _ => 12 - i < n → ∃ b, (b = 0 ∨ b = 1) ∧ m7_isBaked_L24 N n (nI d) (f 2 k) (nI i) f = some b ∧ m9_isBaked_L18 N n (nI d) 1 (nI i) r = some b) (fun _ _ => True) 12 ?_ ?_ N 0 () (by omega) (by omega) trivial
    · intro n s _ _
      refine ⟨1, Or.inr rfl, ?_, ?_⟩
      · rw [m7_isBaked_L24, if_pos (by decide)]
      · rw [m9_isBaked_L18, if_pos (by decide)]
    · intro n p s hp12 _ ih hfu
      have h12 : ¬ (12 : Int32) ≤ nI p := nI_ge hp12 (by decide)
      rw [m7_isBaked_L24, m9_isBaked_L18, if_neg h12, if_neg h12, rat_nI hp12 (by decide), z1, a9_at0 hp12, ob1_s, RGo_19' hR hp12]
      by_cases c : f 19 p = nI d
      · have hne : ¬ f 19 p = iM := by
          rw [c]
          exact nI_ne_iM (by omega)
        have q20 := (RGo_20 hR hp12 hne).1
        rw [if_pos c, if_pos c, rat_nI hp12 (by decide), a9_at1 hp12, ob1_s, a9_byKind2 hd r12 hk, ob1_s, q20, RGo_2' hR hk]
        by_cases c2 : f 2 k ≤ f 20 p
        · rw [if_pos c2, if_neg (Int32.not_lt.mpr c2), ob1_s, ltx_s, ltx_s, nI_1]
          exact ih () trivial (by omega)
        · rw [if_neg c2, if_pos (Int32.not_le.mp c2), ob1_s, ltx_s, nI_1]
          exact ⟨0, Or.inl rfl, rfl, baked9_0 hR n (p+1) (by omega) (by omega)⟩
      · rw [if_neg c, if_neg c, ob1_s, ltx_s, ltx_s, nI_1]
        exact ih () trivial (by omega)
  obtain ⟨b, b1, b2, b3⟩ := q (by omega)
  have b2' : m7_isBaked_L24 N N (nI d) (f 2 k) 0 f = some b := b2
  have b3' : m9_isBaked_L18 N N (nI d) 1 0 r = some b := b3
  rw [b2', b3', ob1_s, ckp_t b1]
  exact ⟨b, b1, rfl, rfl⟩
theorem baked9_no {f : bkA} {r : Nat → Int32} {N d : Nat} {o : Int32} (hR : RGo f r o) (hd : d < 16) (h15 : ¬ f 15 d = nI 1) (hN : 100 < N) : m9_isBaked N r (nI d) = some 0 := by
  unfold m9_isBaked
  have q : m9_isBaked_L18 N N (nI d) 0 0 r = some 0 := baked9_0 hR N 0 (by omega) (by omega)
  rw [a9_of4 hd, ob1_s, RGo_15' hR hd, if_neg (show ¬ f 15 d = 1 from h15), lt1_s, q, ob1_s, ckp_t (Or.inl rfl)]
theorem out_loop {f : bkA} {r : Nat → Int32} {N d : Nat} {o : Int32} {ls : List Nat} (hls : ls.length ≤ 16) (hd : d < 16) (hR : RGo f r o) (hL : LN r 213 ls) (hN : 100 < N) : ∃ x f1 r1, m7_takeOut_L4 N N (nI d) 0 0 f = some (x, f1) ∧ m9_takeOut_L4 N N (nI d) 0 0 r = some (x, r1) ∧ RGo f1 r1 o ∧ (∀ j, j ≠ 19 → f1 j = f j) ∧ (∀ p, p < 12 → f1 19 p = if f 19 p = nI d then iM else f 19 p) ∧ LN r1 213 ls := by
  have q : ∃ x f1 r1, m7_takeOut_L4 N N (nI d) (nI 0) (nI 0) f = some (x, f1) ∧ m9_takeOut_L4 N N (nI d) (nI 0) (nI 0) r = some (x, r1) ∧ RGo f1 r1 o ∧ (∀ j, j ≠ 19 → f1 j = f j) ∧ (∀ p, p < 12 → f1 19 p = if f 19 p = nI d then iM else f 19 p) ∧ LN r1 213 ls := by
    refine loop_i (σ := Int32 × bkA × (Nat → Int32)) (fun n i x => ∃ y f1 r1, m7_takeOut_L4 N n (nI d) x.1 (nI i) x.2.1 = some (y, f1) ∧ m9_takeOut_L4 N n (nI d) x.1 (nI i) x.2.2 = some (y, r1) ∧ RGo f1 r1 o ∧ (∀ j, j ≠ 19 → f1 j = f j) ∧ (∀ p, p < 12 → f1 19 p = if f 19 p = nI d then iM else f 19 p) ∧ LN r1 213 ls) (fun i x => RGo x.2.1 x.2.2 o ∧ (∀ j, j ≠ 19 → x.2.1 j = f j) ∧ (∀ p, p < 12 → x.2.1 19 p = if p < i ∧ f 19 p = nI d then iM else f 19 p) ∧ LN x.2.2 213 ls) 12 ?_ ?_ N 0 (nI 0, f, r) (by omega) (by omega) ⟨hR, fun _ _ => rfl, fun p _ => (if_neg (by omega)).symm, hL⟩
    · intro n x hx
      refine ⟨x.1, x.2.1, x.2.2, ?_, ?_, hx.1, hx.2.1, ?_, hx.2.2.2⟩
      · rw [m7_takeOut_L4, if_pos (by decide)]
      · rw [m9_takeOut_L4, if_pos (by decide)]
      · intro p hp12
        rw [hx.2.2.1 p hp12]
        have p1 : (p < 12 ∧ f 19 p = nI d) ↔ f 19 p = nI d := ⟨fun q => q.2, fun q => ⟨hp12, q⟩⟩
        simp only [p1]
    · intro n p x hp12 hx ih
      obtain ⟨c0, f1, r1⟩ := x
      obtain ⟨x1, x2, x3, x4⟩ := hx
      dsimp only at x1 x2 x3 x4 ⊢
      have h12 : ¬ (12 : Int32) ≤ nI p := nI_ge hp12 (by decide)
      have e19 : f1 19 p = f 19 p := by rw [x3 p hp12, if_neg (by omega)]
      rw [m7_takeOut_L4, m9_takeOut_L4, if_neg h12, if_neg h12, rat_nI hp12 (by decide), a9_at0 hp12, ob1_s, RGo_19' x1 hp12, e19]
      by_cases c : f 19 p = nI d
      · have hne : ¬ f1 19 p = iM := by
          rw [e19, c]
          exact nI_ne_iM (by omega)
        have q21 := (RGo_20 x1 hp12 hne).2
        rw [if_pos c, if_pos c, rat_nI hp12 (by decide), a9_at2 hp12, ob1_s, q21]
        have step : ∀ c1 : Int32, ∃ y f1' r1', m7_takeOut_L4 N n (nI d) c1 (nI (p+1)) (wr f1 19 p iM) = some (y, f1') ∧ m9_takeOut_L4 N n (nI d) c1 (nI (p+1)) (mr (mr (mr r1 19 p iM) 20 p 0) 21 p 0) = some (y, r1') ∧ RGo f1' r1' o ∧ (∀ j, j ≠ 19 → f1' j = f j) ∧ (∀ p, p < 12 → f1' 19 p = if f 19 p = nI d then iM else f 19 p) ∧ LN r1' 213 ls := by
          intro c1
          refine ih (c1, wr f1 19 p iM, mr (mr (mr r1 19 p iM) 20 p 0) 21 p 0) ⟨RGo_free x1, ?_, ?_, LN_mr (LN_mr (LN_mr x4 hls (by decide) (by decide)) hls (by decide) (by decide)) hls (by decide) (by decide)⟩
          · intro j hj
            dsimp only
            rw [wr_n hj]
            exact x2 j hj
          · intro p' hp'
            dsimp only
            by_cases e : p' = p
            · subst e
              rw [wr_s, if_pos ⟨by omega, c⟩]
            · rw [wr_i e, x3 p' hp']
              have p1 : (p' < p + 1 ∧ f 19 p' = nI d) ↔ (p' < p ∧ f 19 p' = nI d) := ⟨fun q => ⟨by omega, q.2⟩, fun q => ⟨by omega, q.2⟩⟩
              simp only [p1]
        by_cases c2 : f1 21 p < 3
        · simp only [if_pos c2, lt1_s, ltx_s, lt2_s, ob2_s, wr_put hp12 (show (12 : Nat) < 2^31 by decide), e9_P0 hp12, e9_P1 hp12, e9_P2 hp12, k9_19 hp12, k9_20 hp12, k9_21 hp12, q9_19 hp12, q9_20 hp12, q9_21 hp12, mr_u, nI_1, Int32.add_zero]
          exact step c0
        · simp only [if_neg c2, lt1_s, ltx_s, lt2_s, ob2_s, wr_put hp12 (show (12 : Nat) < 2^31 by decide), e9_P0 hp12, e9_P1 hp12, e9_P2 hp12, k9_19 hp12, k9_20 hp12, k9_21 hp12, q9_19 hp12, q9_20 hp12, q9_21 hp12, mr_u, nI_1]
          exact step (c0 + 1)
      · rw [if_neg c, if_neg c]
        simp only [lt2_s, ob2_s, ltx_s, nI_1]
        refine ih (c0, f1, r1) ⟨x1, x2, ?_, x4⟩
        intro p' hp'
        dsimp only
        rw [x3 p' hp']
        have p1 : (p' < p + 1 ∧ f 19 p' = nI d) ↔ (p' < p ∧ f 19 p' = nI d) := ⟨fun q => ⟨by
          by_cases e : p' = p
          · subst e
            exact absurd q.2 c
          · omega, q.2⟩, fun q => ⟨by omega, q.2⟩⟩
        simp only [p1]
  exact q
