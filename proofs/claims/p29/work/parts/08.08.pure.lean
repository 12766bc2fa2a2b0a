/-! values: the class and the model alike -/
theorem S_kindVal {f : bkA} {r : Nat → Int32} {k w : Nat} (hR : RG f r) (hk : k < 5) (hw : w < 5) : m9_kindOf r (nI k) (nI w) = some (m7_valueOfKind f (nI k) (nI w)) := by
  rw [x9_kindOf hk hw]
  unfold m7_valueOfKind
  have h7 : w = 0 ∨ w = 1 ∨ w = 2 ∨ w = 3 ∨ w = 4 := by omega
  rcases h7 with h | h | h | h | h <;> subst h
  · rw [RG_0 hR hk, if_pos (by decide), rat_nI hk (by decide)]
  · rw [RG_1 hR hk, if_neg (by decide), if_pos (by decide), rat_nI hk (by decide)]
  · rw [RG_2 hR hk, if_neg (by decide), if_neg (by decide), if_pos (by decide), rat_nI hk (by decide)]
  · rw [RG_3 hR hk, if_neg (by decide), if_neg (by decide), if_neg (by decide), if_pos (by decide), rat_nI hk (by decide)]
  · rw [RG_4 hR hk, if_neg (by decide), if_neg (by decide), if_neg (by decide), if_neg (by decide), rat_nI hk (by decide)]
theorem S_doughsOf {f : bkA} {r : Nat → Int32} {N D : Nat} {x : Int32} (hR : RG f r) (e2 : f 23 2 = nI D) (hD : D ≤ 16) (hN : 100 < N) : ∃ v, m7_countDoughsOf N f x = some v ∧ m9_doughsOf N r x = some v := by
  unfold m7_countDoughsOf m9_doughsOf
  have q : ∃ v, m7_countDoughsOf_L4 N N x (nI 0) (nI 0) f = some v ∧ m9_doughsOf_L4 N N x (nI 0) (nI 0) r = some v := by
    refine loop_i (σ := Int32) (fun n i s => ∃ v, m7_countDoughsOf_L4 N n x s (nI i) f = some v ∧ m9_doughsOf_L4 N n x s (nI i) r = some v) (fun _ _ => True) D ?_ ?_ N 0 (nI 0) (by omega) (by omega) trivial
    · intro n s _
      rw [m7_countDoughsOf_L4, m9_doughsOf_L4, c9_4, h9_4, RG_i2 hR, e2, if_pos (Int32.le_refl _), if_pos (Int32.le_refl _)]
      exact ⟨s, rfl, rfl⟩
    · intro n i s hi _ ih
      have hi16 : i < 16 := by omega
      rw [m7_countDoughsOf_L4, m9_doughsOf_L4, c9_4, h9_4, RG_i2 hR, e2, if_neg (nI_ge hi (by omega)), if_neg (nI_ge hi (by omega)), rat_nI hi16 (by decide), a9_of0 hi16, ob1_s, RG_11 hR hi16]
      by_cases h : f 11 i = x
      · rw [if_pos h, if_pos h]
        simp only [lt1_s, ltx_s, nI_1]
        exact ih _ trivial
      · rw [if_neg h, if_neg h]
        simp only [lt1_s, ltx_s, nI_1, Int32.add_zero]
        exact ih _ trivial
  obtain ⟨v, q1, q2⟩ := q
  have q1' : m7_countDoughsOf_L4 N N x 0 0 f = some v := q1
  have q2' : m9_doughsOf_L4 N N x 0 0 r = some v := q2
  rw [q1', q2']
  exact ⟨v, rfl, rfl⟩
theorem S_houseVal {f : bkA} {r : Nat → Int32} {N D b w : Nat} (hR : RG f r) (e2 : f 23 2 = nI D) (hD : D ≤ 16) (hb : b < 8) (hw : w < 7) (hN : 100 < N) : ∃ v, m7_valueOfHouse N f (nI b) (nI w) = some v ∧ m9_houseValue N r (nI b) (nI w) = some v := by
  have e37 : (37 : Int32) + (6 * nI b) = nI (37 + 6 * b) := by rw [l_37, l_6, pk_mul, nI_add]
  have rd : ∀ j, j < 6 → ∀ x, x = nI j → ck ((37 + (6 * nI b)) + x) 265 (some (r ((37 + (6 * nI b)) + x).toNatClampNeg)) = some (r (pos (5+j) b)) := by
    intro j hj x hx
    subst hx
    rw [x9_H hb hj, k9_K (by omega) (by rw [pL_5 hj]; exact hb), q9_K (by omega) (by rw [pL_5 hj]; exact hb)]
  unfold m7_valueOfHouse m9_houseValue
  have h7 : w = 0 ∨ w = 1 ∨ w = 2 ∨ w = 3 ∨ w = 4 ∨ w = 5 ∨ w = 6 := by omega
  rcases h7 with h | h | h | h | h | h | h <;> subst h
  · rw [if_pos (by decide), if_neg (by decide), if_neg (by decide), lt2_s, rd 0 (by decide) _ rfl, RG_5 hR hb, rat_nI hb (by decide)]
    exact ⟨_, rfl, rfl⟩
  · rw [if_neg (by decide), if_pos (by decide), if_neg (by decide), if_neg (by decide), lt2_s, rd 1 (by decide) _ rfl, RG_6 hR hb, rat_nI hb (by decide)]
    exact ⟨_, rfl, rfl⟩
  · rw [if_neg (by decide), if_neg (by decide), if_pos (by decide), if_neg (by decide), if_neg (by decide), lt2_s, rd 2 (by decide) _ rfl, RG_7 hR hb, rat_nI hb (by decide)]
    exact ⟨_, rfl, rfl⟩
  · rw [if_neg (by decide), if_neg (by decide), if_neg (by decide), if_pos (by decide), if_neg (by decide), if_neg (by decide), lt2_s, rd 3 (by decide) _ rfl, RG_8 hR hb, rat_nI hb (by decide)]
    exact ⟨_, rfl, rfl⟩
  · obtain ⟨v, v1, v2⟩ := S_doughsOf (N := N) (x := nI b) hR e2 hD hN
    rw [if_neg (by decide), if_neg (by decide), if_neg (by decide), if_neg (by decide), if_pos (by decide), if_pos (by decide), v1, v2]
    exact ⟨v, rfl, rfl⟩
  · rw [if_neg (by decide), if_neg (by decide), if_neg (by decide), if_neg (by decide), if_neg (by decide), if_pos (by decide), if_neg (by decide), if_pos (by decide), lt2_s, rd 4 (by decide) _ (by decide), RG_9 hR hb, rat_nI hb (by decide)]
    exact ⟨_, rfl, rfl⟩
  · rw [if_neg (by decide), if_neg (by decide), if_neg (by decide), if_neg (by decide), if_neg (by decide), if_neg (by decide), if_neg (by decide), if_pos (by decide), lt2_s, rd 5 (by decide) _ (by decide), RG_10 hR hb, rat_nI hb (by decide)]
    exact ⟨_, rfl, rfl⟩
theorem S_placesOf {f : bkA} {r : Nat → Int32} {N : Nat} {x : Int32} (hR : RG f r) (hN : 100 < N) : ∃ v, m7_setOfPlaces N f x = some v ∧ m9_placesOf N r x = some v := by
  unfold m7_setOfPlaces m9_placesOf
  have q : ∃ v, m7_setOfPlaces_L4 N N x (nI 0) (nI 0) f = some v ∧ m9_placesOf_L4 N N x (nI 0) (nI 0) r = some v := by
    refine loop_i (σ := Int32) (fun n i s => ∃ v, m7_setOfPlaces_L4 N n x s (nI i) f = some v ∧ m9_placesOf_L4 N n x s (nI i) r = some v) (fun _ _ => True) 12 ?_ ?_ N 0 (nI 0) (by omega) (by omega) trivial
    · intro n s _
      rw [m7_setOfPlaces_L4, m9_placesOf_L4, if_pos (by decide), if_pos (by decide)]
      exact ⟨s, rfl, rfl⟩
    · intro n i s hi _ ih
      have h12 : ¬ (12 : Int32) ≤ nI i := nI_ge hi (by decide)
      rw [m7_setOfPlaces_L4, m9_placesOf_L4, if_neg h12, if_neg h12, rat_nI hi (by decide), a9_at0 hi, ob1_s, RG_19 hR hi]
      by_cases h : f 19 i = x
      · rw [if_pos h, if_pos h]
        simp only [lt1_s, ltx_s, nI_1]
        exact ih _ trivial
      · rw [if_neg h, if_neg h]
        simp only [lt1_s, ltx_s, nI_1, Int32.or_zero]
        exact ih _ trivial
  obtain ⟨v, q1, q2⟩ := q
  have q1' : m7_setOfPlaces_L4 N N x 0 0 f = some v := q1
  have q2' : m9_placesOf_L4 N N x 0 0 r = some v := q2
  rw [q1', q2']
  exact ⟨v, rfl, rfl⟩
theorem S_doughVal {f : bkA} {r : Nat → Int32} {K H D t T N d w : Nat} {ls : List Nat} (h : SIM f r K H D ls t T) (hd : d < D) (hw : w < 10) (hN : 100 < N) : ∃ v, m7_valueOfDough N f (nI d) (nI w) = some v ∧ m9_doughValue N r (nI d) (nI w) = some v := by
  have h16 := IV_16 h.1
  obtain ⟨⟨⟨e0, e1, e2, e3, e4, e5, hK, hH, hD, ht⟩, hdd, hl, hp, hh, hn⟩, hR, hL⟩ := h
  have d16 : d < 16 := by omega
  unfold m7_valueOfDough m9_doughValue
  have h7 : w = 0 ∨ w = 1 ∨ w = 2 ∨ w = 3 ∨ w = 4 ∨ w = 5 ∨ w = 6 ∨ w = 7 ∨ w = 8 ∨ w = 9 := by omega
  rcases h7 with h | h | h | h | h | h | h | h | h | h <;> subst h
  · rw [if_pos (by decide), if_neg (by decide), x9_of d16 (by decide), ob1_s, RG_11 hR d16, rat_nI d16 (by decide)]
    exact ⟨_, rfl, rfl⟩
  · rw [if_neg (by decide), if_pos (by decide), if_neg (by decide), x9_of d16 (by decide), ob1_s, RG_12 hR d16, rat_nI d16 (by decide)]
    exact ⟨_, rfl, rfl⟩
  · rw [if_neg (by decide), if_neg (by decide), if_pos (by decide), if_neg (by decide), x9_of d16 (by decide), ob1_s, RG_13 hR d16, rat_nI d16 (by decide)]
    exact ⟨_, rfl, rfl⟩
  · rw [if_neg (by decide), if_neg (by decide), if_neg (by decide), if_pos (by decide), if_neg (by decide), x9_of d16 (by decide), ob1_s, RG_14 hR d16, rat_nI d16 (by decide)]
    exact ⟨_, rfl, rfl⟩
  · rw [if_neg (by decide), if_neg (by decide), if_neg (by decide), if_neg (by decide), if_pos (by decide), if_neg (by decide), x9_of d16 (by decide), ob1_s, RG_15 hR d16, rat_nI d16 (by decide)]
    exact ⟨_, rfl, rfl⟩
  · rw [if_neg (by decide), if_neg (by decide), if_neg (by decide), if_neg (by decide), if_neg (by decide), if_pos (by decide), if_neg (by decide), x9_of d16 (by decide), ob1_s, RG_16 hR d16, rat_nI d16 (by decide)]
    exact ⟨_, rfl, rfl⟩
  · rw [if_neg (by decide), if_neg (by decide), if_neg (by decide), if_neg (by decide), if_neg (by decide), if_neg (by decide), if_pos (by decide), if_neg (by decide), x9_of d16 (by decide), ob1_s, RG_17 hR d16, rat_nI d16 (by decide)]
    exact ⟨_, rfl, rfl⟩
  · have a1 := U7_place (N := N) e3 hl.1 hl.2.1 h16 d16 hN
    have c1 := U9_place (N := N) ((RG_i3 hR).trans e3) hL hl.2.1 h16 d16 hN
    rw [if_neg (by decide), if_neg (by decide), if_neg (by decide), if_neg (by decide), if_neg (by decide), if_neg (by decide), if_neg (by decide), if_pos (by decide), if_pos (by decide), if_pos (by decide), a1, c1]
    exact ⟨_, rfl, rfl⟩
  · obtain ⟨v, v1, v2⟩ := S_placesOf (N := N) (x := nI d) hR hN
    rw [if_neg (by decide), if_neg (by decide), if_neg (by decide), if_neg (by decide), if_neg (by decide), if_neg (by decide), if_neg (by decide), if_neg (by decide), if_pos (by decide), if_pos (by decide), if_neg (by decide), if_pos (by decide), v1, v2]
    exact ⟨_, rfl, rfl⟩
  · rw [if_neg (by decide), if_neg (by decide), if_neg (by decide), if_neg (by decide), if_neg (by decide), if_neg (by decide), if_neg (by decide), if_neg (by decide), if_neg (by decide), if_pos (by decide), if_neg (by decide), if_neg (by decide), a9_of7 d16, ob1_s, RG_18 hR d16, rat_nI d16 (by decide)]
    exact ⟨_, rfl, rfl⟩
theorem S_placeVal {f : bkA} {r : Nat → Int32} {t p w : Nat} (hR : RG f r) (e4 : f 23 4 = nI t) (ht : t ≤ 400) (hp : p < 12) (hw : w < 4) : m9_placeValue r (nI p) (nI w) = some (m7_valueOfPlace f (nI p) (nI w)) := by
  unfold m9_placeValue m7_valueOfPlace
  have h7 : w = 0 ∨ w = 1 ∨ w = 2 ∨ w = 3 := by omega
  rw [e4, warm7 ht hp, heat9 (RGh_of hR e4) ht hp, a9_at0 hp, RG_19 hR hp, isFree5 hp]
  unfold fr
  rcases h7 with h | h | h | h <;> subst h
  · rw [if_pos (by decide), if_pos (by decide)]
    rfl
  · rw [if_neg (by decide), if_neg (by decide), ob1_s, lt1_s]
    by_cases h : f 19 p = -1
    · rw [if_pos h, decide_eq_true h, if_pos rfl, z1]
    · have q := hR.2 p hp h
      rw [if_neg h, decide_eq_false h, if_pos (by decide), if_pos (by decide)]
      have e : nI 1 - 1 = nI 0 := nI_pred 0
      rw [e, x9_at hp (by decide), ob1_s, RG_19 hR hp, rat_nI hp (by decide)]
  · rw [if_neg (by decide), if_neg (by decide), ob1_s, lt1_s]
    by_cases h : f 19 p = -1
    · rw [if_pos h, decide_eq_true h, if_pos rfl, z1]
    · have q := hR.2 p hp h
      rw [if_neg h, decide_eq_false h, if_pos (by decide), if_neg (by decide), if_pos (by decide)]
      have e : nI 2 - 1 = nI 1 := nI_pred 1
      rw [e, x9_at hp (by decide), ob1_s, q.1, rat_nI hp (by decide)]
  · rw [if_neg (by decide), if_neg (by decide), ob1_s, lt1_s]
    by_cases h : f 19 p = -1
    · rw [if_pos h, decide_eq_true h, if_pos rfl, z1]
    · have q := hR.2 p hp h
      rw [if_neg h, decide_eq_false h, if_pos (by decide), if_neg (by decide), if_neg (by decide)]
      have e : nI 3 - 1 = nI 2 := nI_pred 2
      rw [e, x9_at hp (by decide), ob1_s, q.2, rat_nI hp (by decide)]
/-- a value of the whole but the last, which is the text's length -/
theorem S_wholeVal {f : bkA} {r q : Nat → Int32} {K H D t T N w : Nat} {ls : List Nat} (h : SIM f r K H D ls t T) (hw : w < 14) (hN : 100 < N) : ∃ v, m7_valueOfWholeHouse N f (nI w) = some v ∧ m9_wholeValue N r q (nI w) = some v := by
  obtain ⟨⟨⟨e0, e1, e2, e3, e4, e5, hK, hH, hD, ht⟩, hdd, hl, hp, hh, ⟨u, lb, a, n1, n2, n3, n4, n5, n6⟩⟩, hR, hL⟩ := h
  unfold m7_valueOfWholeHouse m9_wholeValue
  have h7 : w = 0 ∨ w = 1 ∨ w = 2 ∨ w = 3 ∨ w = 4 ∨ w = 5 ∨ w = 6 ∨ w = 7 ∨ w = 8 ∨ w = 9 ∨ w = 10 ∨ w = 11 ∨ w = 12 ∨ w = 13 := by omega
  rcases h7 with h | h | h | h | h | h | h | h | h | h | h | h | h | h <;> subst h
  · rw [if_pos (by decide), if_pos (by decide), c9_2, h9_2, RG_i0 hR]
    exact ⟨_, rfl, rfl⟩
  · rw [if_neg (by decide), if_pos (by decide), if_neg (by decide), if_pos (by decide), c9_3, h9_3, RG_i1 hR]
    exact ⟨_, rfl, rfl⟩
  · rw [if_neg (by decide), if_neg (by decide), if_pos (by decide), if_neg (by decide), if_neg (by decide), if_pos (by decide), c9_4, h9_4, RG_i2 hR]
    exact ⟨_, rfl, rfl⟩
  · rw [if_neg (by decide), if_neg (by decide), if_neg (by decide), if_pos (by decide), if_neg (by decide), if_neg (by decide), if_neg (by decide), if_pos (by decide), c9_0, h9_0, RG_i4 hR]
    exact ⟨_, rfl, rfl⟩
  · rw [if_neg (by decide), if_neg (by decide), if_neg (by decide), if_neg (by decide), if_pos (by decide), if_neg (by decide), if_neg (by decide), if_neg (by decide), if_neg (by decide), if_pos (by decide), c9_1, h9_1, RG_i5 hR]
    exact ⟨_, rfl, rfl⟩
  · rw [if_neg (by decide), if_neg (by decide), if_neg (by decide), if_neg (by decide), if_neg (by decide), if_pos (by decide), if_neg (by decide), if_neg (by decide), if_neg (by decide), if_neg (by decide), if_neg (by decide), if_pos (by decide), c9_5, h9_5, RG_i3 hR]
    exact ⟨_, rfl, rfl⟩
  · rw [if_neg (by decide), if_neg (by decide), if_neg (by decide), if_neg (by decide), if_neg (by decide), if_neg (by decide), if_pos (by decide), if_neg (by decide), if_neg (by decide), if_neg (by decide), if_neg (by decide), if_neg (by decide), if_neg (by decide), if_pos (by decide), countFree7 hN, freeIn9 (RGh_of hR e4) ht hN, free_all ht]
    exact ⟨_, rfl, rfl⟩
  · rw [if_neg (by decide), if_neg (by decide), if_neg (by decide), if_neg (by decide), if_neg (by decide), if_neg (by decide), if_neg (by decide), if_pos (by decide), if_neg (by decide), if_neg (by decide), if_neg (by decide), if_neg (by decide), if_neg (by decide), if_neg (by decide), if_neg (by decide), if_pos (by decide), c9_6, h9_6, RG_i6 hR]
    exact ⟨_, rfl, rfl⟩
  · rw [if_neg (by decide), if_neg (by decide), if_neg (by decide), if_neg (by decide), if_neg (by decide), if_neg (by decide), if_neg (by decide), if_neg (by decide), if_pos (by decide), if_neg (by decide), if_neg (by decide), if_neg (by decide), if_neg (by decide), if_neg (by decide), if_neg (by decide), if_neg (by decide), if_neg (by decide), if_pos (by decide), U7_useOfAll e1 hH n5 hN, U9_useOfAll hR e1 hH n5 hN]
    exact ⟨_, rfl, rfl⟩
  · rw [if_neg (by decide), if_neg (by decide), if_neg (by decide), if_neg (by decide), if_neg (by decide), if_neg (by decide), if_neg (by decide), if_neg (by decide), if_neg (by decide), if_pos (by decide), if_neg (by decide), if_neg (by decide), if_neg (by decide), if_neg (by decide), if_neg (by decide), if_neg (by decide), if_neg (by decide), if_neg (by decide), if_neg (by decide), if_pos (by decide), c9_7, h9_7, RG_i7 hR]
    exact ⟨_, rfl, rfl⟩
  · rw [if_neg (by decide), if_neg (by decide), if_neg (by decide), if_neg (by decide), if_neg (by decide), if_neg (by decide), if_neg (by decide), if_neg (by decide), if_neg (by decide), if_neg (by decide), if_pos (by decide), if_neg (by decide), if_neg (by decide), if_neg (by decide), if_neg (by decide), if_neg (by decide), if_neg (by decide), if_neg (by decide), if_neg (by decide), if_neg (by decide), if_neg (by decide), if_pos (by decide), c9_8, h9_8, RG_i8 hR]
    exact ⟨_, rfl, rfl⟩
  · rw [if_neg (by decide), if_neg (by decide), if_neg (by decide), if_neg (by decide), if_neg (by decide), if_neg (by decide), if_neg (by decide), if_neg (by decide), if_neg (by decide), if_neg (by decide), if_neg (by decide), if_pos (by decide), if_neg (by decide), if_neg (by decide), if_neg (by decide), if_neg (by decide), if_neg (by decide), if_neg (by decide), if_neg (by decide), if_neg (by decide), if_neg (by decide), if_neg (by decide), if_neg (by decide), if_pos (by decide), c9_9, h9_9, RG_i9 hR]
    exact ⟨_, rfl, rfl⟩
  · rw [if_neg (by decide), if_neg (by decide), if_neg (by decide), if_neg (by decide), if_neg (by decide), if_neg (by decide), if_neg (by decide), if_neg (by decide), if_neg (by decide), if_neg (by decide), if_neg (by decide), if_neg (by decide), if_pos (by decide), if_neg (by decide), if_neg (by decide), if_neg (by decide), if_neg (by decide), if_neg (by decide), if_neg (by decide), if_neg (by decide), if_neg (by decide), if_neg (by decide), if_neg (by decide), if_neg (by decide), if_neg (by decide), if_pos (by decide), c9_10, h9_10, RG_i10 hR]
    exact ⟨_, rfl, rfl⟩
  · rw [if_neg (by decide), if_neg (by decide), if_neg (by decide), if_neg (by decide), if_neg (by decide), if_neg (by decide), if_neg (by decide), if_neg (by decide), if_neg (by decide), if_neg (by decide), if_neg (by decide), if_neg (by decide), if_neg (by decide), if_neg (by decide), if_neg (by decide), if_neg (by decide), if_neg (by decide), if_neg (by decide), if_neg (by decide), if_neg (by decide), if_neg (by decide), if_neg (by decide), if_neg (by decide), if_neg (by decide), if_neg (by decide), if_neg (by decide), if_pos (by decide), c9_11, h9_11, RG_i11 hR]
    exact ⟨_, rfl, rfl⟩
