/-! the checksum: the class and the model alike -/
theorem D_whole {f c : bkA} {r q : Nat → Int32} {K H D t T N : Nat} {ls : List Nat} (h : SIM f r K H D ls t T) (hc : c 2 0 = q 2) (hN : 100 < N) (x : Int64) : ∃ y, m8_digest_L16 N N x 0 f c = some y ∧ m9_digest_L17 N N x 0 r q = some y := by
  have z : ∃ y, m8_digest_L16 N N x (nI 0) f c = some y ∧ m9_digest_L17 N N x (nI 0) r q = some y := by
    refine loop_i (σ := Int64) (fun n i s => ∃ y, m8_digest_L16 N n s (nI i) f c = some y ∧ m9_digest_L17 N n s (nI i) r q = some y) (fun _ _ => True) 15 ?_ ?_ N 0 x (by omega) (by omega) trivial
    · intro n s _
      refine ⟨s, ?_, ?_⟩
      · rw [m8_digest_L16, if_pos (by decide)]
      · rw [m9_digest_L17, if_pos (by decide)]
    · intro n i s hi _ ih
      have v : ∃ v, m8_valueOfWhole N f c (nI i) = some v ∧ m9_wholeValue N r q (nI i) = some v := by
        unfold m8_valueOfWhole
        by_cases e : i = 14
        · subst e
          refine ⟨q 2, ?_, ?_⟩
          · rw [if_pos (show nI 14 = 14 from rfl), lt1_s, m0_length, hc]
          · unfold m9_wholeValue
            rw [if_neg (by decide), if_neg (by decide), if_neg (by decide), if_neg (by decide), if_neg (by decide), if_neg (by decide), if_neg (by decide), if_neg (by decide), if_neg (by decide), if_neg (by decide), if_neg (by decide), if_neg (by decide), if_neg (by decide), if_neg (by decide)]
        · obtain ⟨v, v1, v2⟩ := S_wholeVal (N := N) (q := q) (w := i) h (by omega) hN
          refine ⟨v, ?_, v2⟩
          rw [if_neg (show ¬ nI i = 14 from fun w => e ((nI_eq (by omega) (by decide)).mp w)), v1, ob1_s]
      obtain ⟨v, v1, v2⟩ := v
      have n15 : ¬ (15 : Int32) ≤ nI i := nI_ge hi (by decide)
      rw [m8_digest_L16, m9_digest_L17, if_neg n15, if_neg n15, v1, v2, ob1_s, ob1_s, lt1_s, ltx_s, ltx_s, ltx_s, nI_1]
      exact ih (m8_mixed s v) trivial
  exact z
theorem D_kinds {f : bkA} {r : Nat → Int32} {K H D t T N : Nat} {ls : List Nat} (h : SIM f r K H D ls t T) (hN : 100 < N) (x : Int64) : ∃ y, m8_mixedKinds N f x = some y ∧ m9_digest_L44 N N x 0 r = some y := by
  have hR := h.2.1
  have e0 := h.1.1.1
  have hK : K ≤ 5 := h.1.1.2.2.2.2.2.2.1
  have inner : ∀ k, k < K → ∀ x : Int64, ∃ y, m8_mixedKinds_L23 N N x (nI k) 0 f = some y ∧ m9_digest_L57 N N x (nI k) 0 r = some y := by
    intro k hk x
    have z : ∃ y, m8_mixedKinds_L23 N N x (nI k) (nI 0) f = some y ∧ m9_digest_L57 N N x (nI k) (nI 0) r = some y := by
      refine loop_i (σ := Int64) (fun n i s => ∃ y, m8_mixedKinds_L23 N n s (nI k) (nI i) f = some y ∧ m9_digest_L57 N n s (nI k) (nI i) r = some y) (fun _ _ => True) 5 ?_ ?_ N 0 x (by omega) (by omega) trivial
      · intro n s _
        refine ⟨s, ?_, ?_⟩
        · rw [m8_mixedKinds_L23, if_pos (by decide)]
        · rw [m9_digest_L57, if_pos (by decide)]
      · intro n i s hi _ ih
        have n5 : ¬ (5 : Int32) ≤ nI i := nI_ge hi (by decide)
        rw [m8_mixedKinds_L23, m9_digest_L57, if_neg n5, if_neg n5, S_kindVal hR (by omega) hi, ob1_s, lt1_s, lt1_s, ltx_s, ltx_s, ltx_s, nI_1]
        exact ih (m8_mixed s (m7_valueOfKind f (nI k) (nI i))) trivial
    exact z
  have z : ∃ y, m8_mixedKinds_L5 N N x (nI 0) f = some y ∧ m9_digest_L44 N N x (nI 0) r = some y := by
    refine loop_i (σ := Int64) (fun n i s => ∃ y, m8_mixedKinds_L5 N n s (nI i) f = some y ∧ m9_digest_L44 N n s (nI i) r = some y) (fun _ _ => True) K ?_ ?_ N 0 x (by omega) (by omega) trivial
    · intro n s _
      refine ⟨s, ?_, ?_⟩
      · rw [m8_mixedKinds_L5, e0, if_pos (Int32.le_refl _)]
      · rw [m9_digest_L44, c9_2, h9_2, RG_i0 hR, e0, if_pos (Int32.le_refl _)]
    · intro n i s hi _ ih
      obtain ⟨y, y1, y2⟩ := inner i hi s
      rw [m8_mixedKinds_L5, m9_digest_L44, c9_2, h9_2, RG_i0 hR, e0, if_neg (nI_ge hi (by omega)), if_neg (nI_ge hi (by omega)), y1, y2, ob1_s, ob1_s, ltx_s, ltx_s, nI_1]
      exact ih y trivial
  obtain ⟨y, y1, y2⟩ := z
  have y1' : m8_mixedKinds_L5 N N x 0 f = some y := y1
  refine ⟨y, ?_, y2⟩
  unfold m8_mixedKinds
  rw [y1', ob1_s]
theorem D_houses {f : bkA} {r : Nat → Int32} {K H D t T N : Nat} {ls : List Nat} (h : SIM f r K H D ls t T) (hT : T ≤ 200000) (hN : 100 < N) (x : Int64) (ow : Nat → Int32) (rs : Nat → Int64) : ∃ y ow' rs', m8_mixedHouses N f x = some y ∧ m9_digest_L95 N N x 0 r ow rs = some (y, ow', rs') := by
  have hR := h.2.1
  have e1 := h.1.1.2.1
  have e2 := h.1.1.2.2.1
  have hH : H ≤ 8 := h.1.1.2.2.2.2.2.2.2.1
  have hD : D ≤ 16 := h.1.1.2.2.2.2.2.2.2.2.1
  have inner : ∀ k, k < H → ∀ x : Int64, ∃ y, m8_mixedHouses_L23 N N x (nI k) 0 f = some y ∧ m9_digest_L108 N N x (nI k) 0 r = some y := by
    intro k hk x
    have z : ∃ y, m8_mixedHouses_L23 N N x (nI k) (nI 0) f = some y ∧ m9_digest_L108 N N x (nI k) (nI 0) r = some y := by
      refine loop_i (σ := Int64) (fun n i s => ∃ y, m8_mixedHouses_L23 N n s (nI k) (nI i) f = some y ∧ m9_digest_L108 N n s (nI k) (nI i) r = some y) (fun _ _ => True) 7 ?_ ?_ N 0 x (by omega) (by omega) trivial
      · intro n s _
        refine ⟨s, ?_, ?_⟩
        · rw [m8_mixedHouses_L23, if_pos (by decide)]
        · rw [m9_digest_L108, if_pos (by decide)]
      · intro n i s hi _ ih
        have n5 : ¬ (7 : Int32) ≤ nI i := nI_ge hi (by decide)
        obtain ⟨v, v1, v2⟩ := S_houseVal (N := N) (b := k) (w := i) hR e2 hD (by omega) hi hN
        rw [m8_mixedHouses_L23, m9_digest_L108, if_neg n5, if_neg n5, v1, v2, ob1_s, ob1_s, lt1_s, ltx_s, ltx_s, ltx_s, nI_1]
        exact ih (m8_mixed s v) trivial
    exact z
  have z : ∃ y ow' rs', m8_mixedHouses_L5 N N x (nI 0) f = some y ∧ m9_digest_L95 N N x (nI 0) r ow rs = some (y, ow', rs') := by
    refine loop_i (σ := Int64 × (Nat → Int32) × (Nat → Int64)) (fun n i s => ∃ y ow' rs', m8_mixedHouses_L5 N n s.1 (nI i) f = some y ∧ m9_digest_L95 N n s.1 (nI i) r s.2.1 s.2.2 = some (y, ow', rs')) (fun _ _ => True) H ?_ ?_ N 0 (x, ow, rs) (by omega) (by omega) trivial
    · intro n s _
      refine ⟨s.1, s.2.1, s.2.2, ?_, ?_⟩
      · rw [m8_mixedHouses_L5, e1, if_pos (Int32.le_refl _)]
      · rw [m9_digest_L95, c9_3, h9_3, RG_i1 hR, e1, if_pos (Int32.le_refl _)]
    · intro n i s hi _ ih
      obtain ⟨s, ow0, rs0⟩ := s
      obtain ⟨y, y1, y2⟩ := inner i hi s
      obtain ⟨v, ow1, rs1, v1, v2⟩ := S_owesNow (N := N) h hi hT hN ow0 rs0
      dsimp only
      rw [m8_mixedHouses_L5, m9_digest_L95, c9_3, h9_3, RG_i1 hR, e1, if_neg (nI_ge hi (by omega)), if_neg (nI_ge hi (by omega)), y1, y2, ob1_s, ob1_s, v1, v2, ob1_s, ob3_s, lt1_s, ltx_s, ltx_s, ltx_s, nI_1]
      exact ih (m8_mixed y v, ow1, rs1) trivial
  obtain ⟨y, ow', rs', y1, y2⟩ := z
  have y1' : m8_mixedHouses_L5 N N x 0 f = some y := y1
  refine ⟨y, ow', rs', ?_, y2⟩
  unfold m8_mixedHouses
  rw [y1', ob1_s]
theorem D_doughs {f : bkA} {r : Nat → Int32} {K H D t T N : Nat} {ls : List Nat} (h : SIM f r K H D ls t T) (hN : 100 < N) (x : Int64) : ∃ y, m8_mixedDoughs N f x = some y ∧ m9_digest_L157 N N x 0 r = some y := by
  have hR := h.2.1
  have e2 := h.1.1.2.2.1
  have hD : D ≤ 16 := h.1.1.2.2.2.2.2.2.2.2.1
  have inner : ∀ k, k < D → ∀ x : Int64, ∃ y, m8_mixedDoughs_L23 N N x (nI k) 0 f = some y ∧ m9_digest_L170 N N x (nI k) 0 r = some y := by
    intro k hk x
    have z : ∃ y, m8_mixedDoughs_L23 N N x (nI k) (nI 0) f = some y ∧ m9_digest_L170 N N x (nI k) (nI 0) r = some y := by
      refine loop_i (σ := Int64) (fun n i s => ∃ y, m8_mixedDoughs_L23 N n s (nI k) (nI i) f = some y ∧ m9_digest_L170 N n s (nI k) (nI i) r = some y) (fun _ _ => True) 10 ?_ ?_ N 0 x (by omega) (by omega) trivial
      · intro n s _
        refine ⟨s, ?_, ?_⟩
        · rw [m8_mixedDoughs_L23, if_pos (by decide)]
        · rw [m9_digest_L170, if_pos (by decide)]
      · intro n i s hi _ ih
        have n5 : ¬ (10 : Int32) ≤ nI i := nI_ge hi (by decide)
        obtain ⟨v, v1, v2⟩ := S_doughVal (N := N) (d := k) (w := i) h hk hi hN
        rw [m8_mixedDoughs_L23, m9_digest_L170, if_neg n5, if_neg n5, v1, v2, ob1_s, ob1_s, lt1_s, ltx_s, ltx_s, ltx_s, nI_1]
        exact ih (m8_mixed s v) trivial
    exact z
  have z : ∃ y, m8_mixedDoughs_L5 N N x (nI 0) f = some y ∧ m9_digest_L157 N N x (nI 0) r = some y := by
    refine loop_i (σ := Int64) (fun n i s => ∃ y, m8_mixedDoughs_L5 N n s (nI i) f = some y ∧ m9_digest_L157 N n s (nI i) r = some y) (fun _ _ => True) D ?_ ?_ N 0 x (by omega) (by omega) trivial
    · intro n s _
      refine ⟨s, ?_, ?_⟩
      · rw [m8_mixedDoughs_L5, e2, if_pos (Int32.le_refl _)]
      · rw [m9_digest_L157, c9_4, h9_4, RG_i2 hR, e2, if_pos (Int32.le_refl _)]
    · intro n i s hi _ ih
      obtain ⟨y, y1, y2⟩ := inner i hi s
      obtain ⟨v, v1, v2⟩ := S_reasonNow (N := N) h hi hN
      rw [m8_mixedDoughs_L5, m9_digest_L157, c9_4, h9_4, RG_i2 hR, e2, if_neg (nI_ge hi (by omega)), if_neg (nI_ge hi (by omega)), y1, y2, ob1_s, ob1_s, v1, v2, ob1_s, ob1_s, lt1_s, ltx_s, ltx_s, ltx_s, nI_1]
      exact ih (m8_mixed y v) trivial
  obtain ⟨y, y1, y2⟩ := z
  have y1' : m8_mixedDoughs_L5 N N x 0 f = some y := y1
  refine ⟨y, ?_, y2⟩
  unfold m8_mixedDoughs
  rw [y1', ob1_s]
theorem D_places {f : bkA} {r : Nat → Int32} {K H D t T N : Nat} {ls : List Nat} (h : SIM f r K H D ls t T) (hN : 100 < N) (x : Int64) : ∃ y y2, m8_mixedPlaces N f x = some y ∧ m9_digest_L219 N N x 0 r = some y2 ∧ m9_digest_L263 N N y2 0 r = some y := by
  have hle := IV_len h.1
  obtain ⟨⟨⟨e0, e1, e2, e3, e4, e5, hK, hH, hD, ht⟩, hd, hl, hp, hh, hn⟩, hR, hL⟩ := h
  have inner : ∀ k, k < 12 → ∀ x : Int64, ∃ y, m8_mixedPlaces_L15 N N x (nI k) 0 f = some y ∧ m9_digest_L228 N N x (nI k) 0 r = some y := by
    intro k hk x
    have z : ∃ y, m8_mixedPlaces_L15 N N x (nI k) (nI 0) f = some y ∧ m9_digest_L228 N N x (nI k) (nI 0) r = some y := by
      refine loop_i (σ := Int64) (fun n i s => ∃ y, m8_mixedPlaces_L15 N n s (nI k) (nI i) f = some y ∧ m9_digest_L228 N n s (nI k) (nI i) r = some y) (fun _ _ => True) 4 ?_ ?_ N 0 x (by omega) (by omega) trivial
      · intro n s _
        refine ⟨s, ?_, ?_⟩
        · rw [m8_mixedPlaces_L15, if_pos (by decide)]
        · rw [m9_digest_L228, if_pos (by decide)]
      · intro n i s hi _ ih
        have n5 : ¬ (4 : Int32) ≤ nI i := nI_ge hi (by decide)
        rw [m8_mixedPlaces_L15, m9_digest_L228, if_neg n5, if_neg n5, S_placeVal hR e4 ht hk hi, ob1_s, lt1_s, lt1_s, ltx_s, ltx_s, ltx_s, nI_1]
        exact ih (m8_mixed s (m7_valueOfPlace f (nI k) (nI i))) trivial
    exact z
  have z : ∃ y, m8_mixedPlaces_L5 N N x (nI 0) f = some y ∧ m9_digest_L219 N N x (nI 0) r = some y := by
    refine loop_i (σ := Int64) (fun n i s => ∃ y, m8_mixedPlaces_L5 N n s (nI i) f = some y ∧ m9_digest_L219 N n s (nI i) r = some y) (fun _ _ => True) 12 ?_ ?_ N 0 x (by omega) (by omega) trivial
    · intro n s _
      refine ⟨s, ?_, ?_⟩
      · rw [m8_mixedPlaces_L5, if_pos (by decide)]
      · rw [m9_digest_L219, if_pos (by decide)]
    · intro n i s hi _ ih
      have n5 : ¬ (12 : Int32) ≤ nI i := nI_ge hi (by decide)
      obtain ⟨y, y1, y2⟩ := inner i hi s
      rw [m8_mixedPlaces_L5, m9_digest_L219, if_neg n5, if_neg n5, y1, y2, ob1_s, ob1_s, ltx_s, ltx_s, nI_1]
      exact ih y trivial
  obtain ⟨y2, y1, y3⟩ := z
  have w : ∃ y, m8_mixedPlaces_L52 N N y2 (nI 0) f = some y ∧ m9_digest_L263 N N y2 (nI 0) r = some y := by
    refine loop_i (σ := Int64) (fun n i s => ∃ y, m8_mixedPlaces_L52 N n s (nI i) f = some y ∧ m9_digest_L263 N n s (nI i) r = some y) (fun _ _ => True) ls.length ?_ ?_ N 0 y2 (by omega) (by omega) trivial
    · intro n s _
      refine ⟨s, ?_, ?_⟩
      · rw [m8_mixedPlaces_L52, e3, if_pos (Int32.le_refl _)]
      · rw [m9_digest_L263, c9_5, h9_5, RG_i3 hR, e3, if_pos (Int32.le_refl _)]
    · intro n i s hi _ ih
      have hi16 : i < 16 := by omega
      obtain ⟨pre, z, suf, es, ep⟩ := split_at hi
      have hl1 := hl.1
      rw [es] at hl1 hL
      have a1 := (LN_mid hl1).2.1
      have a2 := (LN_mid hL).2.1
      rw [Nat.zero_add, ep] at a1
      rw [ep] at a2
      have ed : m7_doughInLine f (nI i) = nI z := by
        unfold m7_doughInLine
        rw [if_neg (nI_pos (by omega)), e3, if_neg (nI_ge hi (by omega)), rat_nI hi16 (by decide), a1]
      rw [m8_mixedPlaces_L52, m9_digest_L263, c9_5, h9_5, RG_i3 hR, e3, if_neg (nI_ge hi (by omega)), if_neg (nI_ge hi (by omega)), ed, e9_L hi16, k9_22 hi16, q9_22 hi16, pos_l hi16, a2, lt1_s, lt1_s, ltx_s, ltx_s, ltx_s, nI_1]
      exact ih (m8_mixed s (nI z)) trivial
  obtain ⟨y, w1, w2⟩ := w
  have y1' : m8_mixedPlaces_L5 N N x 0 f = some y2 := y1
  have w1' : m8_mixedPlaces_L52 N N y2 0 f = some y := w1
  refine ⟨y, y2, ?_, y3, w2⟩
  unfold m8_mixedPlaces
  rw [y1', ob1_s, w1', ob1_s]
theorem S_digest {f g c : bkA} {r u q o : Nat → Int32} {K H D t T N : Nat} {ls : List Nat} (h : SIM f r K H D ls t T) (hT : T ≤ 200000) (hN : 300 < N) (hc : c 2 0 = q 2) (ho : o 1 = q 1) (ow : Nat → Int32) (rs : Nat → Int64) : ∃ x g' u' ow' rs', m8_digest N f g c o = some (x, g') ∧ m9_digest N r u ow rs q = some (x, u', ow', rs', upd q 0 0) := by
  have hc' : c 2 0 = upd q 0 0 2 := by rw [pk_un (by decide)]; exact hc
  have ho' : o 1 = upd q 0 0 1 := by rw [pk_un (by decide)]; exact ho
  obtain ⟨x1, a1, a2⟩ := D_whole (N := N) h hc' (by omega) (m8_mixed 43350 (o 1))
  obtain ⟨x2, b1, b2⟩ := D_kinds (N := N) h (by omega) x1
  obtain ⟨x3, ow', rs', d1, d2⟩ := D_houses (N := N) h hT (by omega) x2 ow rs
  obtain ⟨x4, e1, e2⟩ := D_doughs (N := N) h (by omega) x3
  obtain ⟨x5, x6, f1, f2, f3⟩ := D_places (N := N) h (by omega) x4
  obtain ⟨x7, g', u', g1, g2⟩ := S_heatAfter (N := N) (g := g) (u := u) (m := 10) h (by omega) (by omega) hN
  have g1' : m8_heatAfter N f g 10 = some (x7, g') := g1
  have g2' : m9_heatBehind N r u 10 = some (x7, u') := g2
  refine ⟨m8_mixed x5 x7, g', u', ow', rs', ?_, ?_⟩
  · unfold m8_digest m2_size
    rw [lt1_s, lt1_s, a1, ob1_s, b1, ob1_s, d1, ob1_s, e1, ob1_s, f1, ob1_s, g1', ob2_s, lt1_s]
  · have e0 : (1343850 : Int64) + (upd q 0 0 1).toInt64 = m8_mixed 43350 (o 1) := by
      rw [ho']
      rfl
    unfold m9_digest
    rw [ltx_s, ltx_s, e0, a2, ob1_s, b2, ob1_s, d2, ob3_s, e2, ob1_s, f2, ob1_s, f3, ob1_s, g2', ob2_s]
    rfl
