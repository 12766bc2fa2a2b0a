/-! p29: the sums over the households are right -/
theorem sum_one {H h0 : Nat} (h : h0 < H) : sumN (fun i => if i = h0 then 1 else 0) H = 1 := by
  have q := sumN_inc (a := fun _ => 0) h
  rw [sumN_0 (a := fun _ => 0) (fun _ _ => rfl)] at q
  exact q
theorem sum_cnt {f : bkA} {H : Nat} (hH : H ≤ 8) : ∀ {D : Nat}, (∀ d, d < D → ∃ h, h < H ∧ f 11 d = nI h) → sumN (fun h => cn (fun d => decide (f 11 d = nI h)) D) H = D
  | 0, _ => sumN_0 (fun _ _ => rfl)
  | D+1, hd => by
    obtain ⟨h0, h1, h2⟩ := hd D (by omega)
    have e : sumN (fun h => cn (fun d => decide (f 11 d = nI h)) (D+1)) H = sumN (fun h => cn (fun d => decide (f 11 d = nI h)) D + (if h = h0 then 1 else 0)) H := by
      refine sumN_congr (fun h hh => ?_)
      by_cases c : h = h0
      · rw [if_pos c, cn_t (P := fun d => decide (f 11 d = nI h)) (decide_eq_true (by rw [h2, c]))]
      · rw [if_neg c, cn_f (P := fun d => decide (f 11 d = nI h)) (fun z => c (by
          have z := of_decide_eq_true z
          rw [h2] at z
          exact ((nI_eq (by omega) (by omega)).mp z).symm))]
        rfl
    rw [e, sumN_add (a := fun h => cn (fun d => decide (f 11 d = nI h)) D), sum_cnt hH (fun d hd' => hd d (by omega)), sum_one h1]
theorem addsUp_true {f c : bkA} {r : Nat → Int32} {K H D t T N : Nat} {σ : Int32} {ls : List Nat} (h : SIM f r K H D ls t T) (hx : IX9 f K D T σ) (hT : T ≤ 200000) (hN : 100 < N) : mL_addsUp N f c σ = some 1 := by
  have hs := h
  obtain ⟨⟨⟨e0, e1, e2, e3, e4, e5, hK, hH, hD, ht⟩, hd, hl, hp, hh, ⟨u, lb, a, n1, n2, n3, n4, n5, n6⟩⟩, hR, hL⟩ := h
  obtain ⟨q1, q2, q3, q4, q5, q6, s1, s2, s3, s4, s5⟩ := hx
  have hu := bounds ht hT n3 n4
  have hS : sumN a H < 2^28 := by
    have q := sumN_mono (a := a) hH
    omega
  have z5 : sI (f 5) 8 = sI (f 5) H := sI_ext hH (fun i h1 h2 => hh 5 i (by decide) (by decide) h1 h2)
  have z7 : sI (f 7) 8 = sI (f 7) H := sI_ext hH (fun i h1 h2 => hh 7 i (by decide) (by decide) h1 h2)
  have z8 : sI (f 8) 8 = sI (f 8) H := sI_ext hH (fun i h1 h2 => hh 8 i (by decide) (by decide) h1 h2)
  have z9 : sI (f 9) 8 = sI (f 9) H := sI_ext hH (fun i h1 h2 => hh 9 i (by decide) (by decide) h1 h2)
  rw [z5, z7] at s1
  rw [z8] at s2
  rw [z7] at s3
  rw [z9] at s5
  have hU := U7_useOfAll (N := N) e1 hH n5 hN
  have hc := sum_cnt (f := f) hH (fun d hdD => (hd d hdD).1)
  unfold mL_addsUp
  have q : mL_addsUp_L22 N N σ (sI (f 5) 0) (sI (f 7) 0) (nI (sumN a 0)) (nI (sumN (owv u a H) 0)) (sI (f 8) 0) (nI (sumN (fun h => cn (fun d => decide (f 11 d = nI h)) D) 0)) (sI (f 9) 0) (nI 0) f c = some 1 := by
    refine loop_i (σ := Unit) (fun n i _ => mL_addsUp_L22 N n σ (sI (f 5) i) (sI (f 7) i) (nI (sumN a i)) (nI (sumN (owv u a H) i)) (sI (f 8) i) (nI (sumN (fun h => cn (fun d => decide (f 11 d = nI h)) D) i)) (sI (f 9) i) (nI i) f c = some 1) (fun _ _ => True) H ?_ ?_ N 0 () (by omega) (by omega) trivial
    · intro n s _
      rw [mL_addsUp_L22, w_1, e1, ob1_s, if_pos (Int32.le_refl _), w_10, ob1_s, if_pos s1, ob1_s, if_pos s2, w_7, ob1_s, if_pos s3, w_8 hU, ob1_s, if_pos rfl, w_9, ob1_s, ob1_s, if_pos s4, w_2, w_12]
      have hO : nI (sumN (owv u a H) H) = if nI (sumN a H) ≤ 0 then 0 else sI (f 7) H := by
        by_cases c0 : sumN a H = 0
        · rw [c0, if_pos (show nI 0 ≤ 0 from Int32.le_refl 0), sumN_0 (a := owv u a H)]
          · rfl
          · intro i hi
            unfold owv
            rw [if_pos c0]
        · rw [if_neg (nI_nle (by omega) (by omega)), owv_sum c0, s3, n1]
      rw [lt1_s, if_pos hO, ob1_s, hc, if_pos e2.symm, ob1_s, if_pos s5]
    · intro n i s hi _ ih
      have i8 : i < 8 := by omega
      obtain ⟨ua, ub, u1, u2, u3, u4⟩ := q6 i i8
      have ow := ow_s (N := N) hs hi n1 n5 hu hS hN
      have nlt : ¬ f 9 i < f 10 i := by
        rw [u3, u4]
        exact nI_nlt u1 (by omega)
      have nx := ih () trivial
      have a5 : sI (f 5) i + f 5 i = sI (f 5) (i+1) := rfl
      have a7 : sI (f 7) i + f 7 i = sI (f 7) (i+1) := rfl
      have a8 : sI (f 8) i + f 8 i = sI (f 8) (i+1) := rfl
      have a9 : sI (f 9) i + f 9 i = sI (f 9) (i+1) := rfl
      have a6 : nI (sumN a i) + nI (a i) = nI (sumN a (i+1)) := nI_add _ _
      have aO : nI (sumN (owv u a H) i) + nI (owv u a H i) = nI (sumN (owv u a H) (i+1)) := nI_add _ _
      have aD : nI (sumN (fun h => cn (fun d => decide (f 11 d = nI h)) D) i) + nI (cn (fun d => decide (f 11 d = nI i)) D) = nI (sumN (fun h => cn (fun d => decide (f 11 d = nI h)) D) (i+1)) := nI_add _ _
      rw [mL_addsUp_L22, w_1, e1, ob1_s, if_neg (nI_ge hi (by omega)), h_0 hs hi, ob1_s, ltx_s, h_1 hs hi, ob1_s, ltx_s, h_2 hs hi, ob1_s, ltx_s, h_3 hs hi, ob1_s, ltx_s, h_4 hs hi hN, ob1_s, ltx_s, h_5 hs hi, ob1_s, ltx_s, ow, ob1_s, ltx_s, h_6 hs hi, ob1_s, ob1_s, if_neg nlt, ob1_s, n5 i i8, a5, a6, a7, a8, a9, aO, aD]
      by_cases c0 : nI (owv u a H i) ≤ 0
      · rw [if_pos c0, ltx_s, nI_1]
        exact nx
      · have ha : ¬ a i = 0 := fun e => c0 (by rw [owv_0 e]; exact Int32.le_refl 0)
        have hai := sumN_mem (a := a) hi
        rw [if_neg c0, ob1_s, if_neg (nI_ne0 (by omega) (by omega)), ltx_s, nI_1]
        exact nx
  exact q
