/-! p29: what the calls of values answer -/
section VALS
variable {f c : bkA} {r : Nat → Int32} {K H D t T N : Nat} {ls : List Nat}
theorem rv_1 {w n : Nat} (hw : w < n) (hn : n < 100) : m8_refusalOfValue 1 (nI w) (nI n) = 0 := by
  unfold m8_refusalOfValue
  rw [if_neg n10, if_neg (nI_pos (by omega)), if_pos (nI_lt hw (by omega))]
theorem v_wh {w : Nat} {v : Int32} (hw : w < 14) (h : m7_valueOfWholeHouse N f (nI w) = some v) : m8_whole N f c (nI w) = some v := by
  have e : m8_refusalOfValue 1 (nI w) 15 = 0 := rv_1 (n := 15) (by omega) (by decide)
  have n14 : ¬ nI w = 14 := fun q => by
    have q2 : nI w = nI 14 := q
    have := (nI_eq (by omega) (by decide)).mp q2
    omega
  unfold m8_whole
  rw [e, lt1_s, ckp_t (by decide)]
  unfold m8_valueOfWhole
  rw [if_neg n14, h]
  rfl
theorem w_0 : m8_whole N f c 0 = some (f 23 0) := v_wh (w := 0) (by decide) rfl
theorem w_1 : m8_whole N f c 1 = some (f 23 1) := v_wh (w := 1) (by decide) rfl
theorem w_2 : m8_whole N f c 2 = some (f 23 2) := v_wh (w := 2) (by decide) rfl
theorem w_3 : m8_whole N f c 3 = some (f 23 4) := v_wh (w := 3) (by decide) rfl
theorem w_5 : m8_whole N f c 5 = some (f 23 3) := v_wh (w := 5) (by decide) rfl
theorem w_6 (hN : 100 < N) : m8_whole N f c 6 = some (nI (cn (fr f) 12)) := v_wh (w := 6) (by decide) (by
  show ob1 (m5_countFree N f) _ = _
  rw [countFree7 hN]
  rfl)
theorem w_7 : m8_whole N f c 7 = some (f 23 6) := v_wh (w := 7) (by decide) rfl
theorem w_8 {v : Int32} (h : m7_useOfAll N f = some v) : m8_whole N f c 8 = some v := v_wh (w := 8) (by decide) (by
  show ob1 (m7_useOfAll N f) _ = _
  rw [h]
  rfl)
theorem w_9 : m8_whole N f c 9 = some (f 23 7) := v_wh (w := 9) (by decide) rfl
theorem w_10 : m8_whole N f c 10 = some (f 23 8) := v_wh (w := 10) (by decide) rfl
theorem w_12 : m8_whole N f c 12 = some (f 23 10) := v_wh (w := 12) (by decide) rfl
theorem v_ho {h w : Nat} {v : Int32} (hs : SIM f r K H D ls t T) (hh : h < H) (hw : w < 7) (hv : m7_valueOfHouse N f (nI h) (nI w) = some v) : m8_house N f (nI h) (nI w) = some v := by
  have hH : H ≤ 8 := hs.1.1.2.2.2.2.2.2.2.1
  unfold m8_house
  rw [(S_isHouse hs _).1, isN_1 (by omega) hh, lt1_s, show m8_refusalOfValue 1 (nI w) 7 = 0 from rv_1 (n := 7) (by omega) (by decide), lt1_s, ckp_t (by decide), hv]
  rfl
theorem h_0 {h : Nat} (hs : SIM f r K H D ls t T) (hh : h < H) : m8_house N f (nI h) 0 = some (f 5 h) := v_ho (w := 0) hs hh (by decide) (by
  have hH : H ≤ 8 := hs.1.1.2.2.2.2.2.2.2.1
  show some (rat 8 (f 5) (nI h)) = _
  rw [rat_nI (by omega) (by decide)])
theorem h_1 {h : Nat} (hs : SIM f r K H D ls t T) (hh : h < H) : m8_house N f (nI h) 1 = some (f 6 h) := v_ho (w := 1) hs hh (by decide) (by
  have hH : H ≤ 8 := hs.1.1.2.2.2.2.2.2.2.1
  show some (rat 8 (f 6) (nI h)) = _
  rw [rat_nI (by omega) (by decide)])
theorem h_2 {h : Nat} (hs : SIM f r K H D ls t T) (hh : h < H) : m8_house N f (nI h) 2 = some (f 7 h) := v_ho (w := 2) hs hh (by decide) (by
  have hH : H ≤ 8 := hs.1.1.2.2.2.2.2.2.2.1
  show some (rat 8 (f 7) (nI h)) = _
  rw [rat_nI (by omega) (by decide)])
theorem h_3 {h : Nat} (hs : SIM f r K H D ls t T) (hh : h < H) : m8_house N f (nI h) 3 = some (f 8 h) := v_ho (w := 3) hs hh (by decide) (by
  have hH : H ≤ 8 := hs.1.1.2.2.2.2.2.2.2.1
  show some (rat 8 (f 8) (nI h)) = _
  rw [rat_nI (by omega) (by decide)])
theorem countD {x : Int32} (e2 : f 23 2 = nI D) (hD : D ≤ 16) (hN : 100 < N) : m7_countDoughsOf N f x = some (nI (cn (fun d => decide (f 11 d = x)) D)) := by
  unfold m7_countDoughsOf
  have q : m7_countDoughsOf_L4 N N x (nI 0) (nI 0) f = some (nI (cn (fun d => decide (f 11 d = x)) D)) := by
    refine loop_i (σ := Int32) (fun n i s => m7_countDoughsOf_L4 N n x s (nI i) f = some (nI (cn (fun d => decide (f 11 d = x)) D))) (fun i s => s = nI (cn (fun d => decide (f 11 d = x)) i)) D ?_ ?_ N 0 (nI 0) (by omega) (by omega) rfl
    · intro n s hs
      rw [m7_countDoughsOf_L4, e2, if_pos (Int32.le_refl _), hs]
    · intro n i s hi hs ih
      rw [m7_countDoughsOf_L4, e2, if_neg (nI_ge hi (by omega)), rat_nI (by omega) (by decide), lt1_s, ltx_s, ltx_s, nI_1]
      refine ih _ ?_
      rw [hs]
      by_cases q : f 11 i = x
      · rw [if_pos q, cn_t (P := fun d => decide (f 11 d = x)) (decide_eq_true q), nI_1]
      · rw [if_neg q, cn_f (P := fun d => decide (f 11 d = x)) (fun z => q (of_decide_eq_true z))]
  have q' : m7_countDoughsOf_L4 N N x 0 0 f = _ := q
  rw [q', ob1_s]
theorem h_4 {h : Nat} (hs : SIM f r K H D ls t T) (hh : h < H) (hN : 100 < N) : m8_house N f (nI h) 4 = some (nI (cn (fun d => decide (f 11 d = nI h)) D)) := v_ho (w := 4) hs hh (by decide) (by
  show ob1 (m7_countDoughsOf N f (nI h)) _ = _
  rw [countD hs.1.1.2.2.1 hs.1.1.2.2.2.2.2.2.2.2.1 hN]
  rfl)
theorem h_5 {h : Nat} (hs : SIM f r K H D ls t T) (hh : h < H) : m8_house N f (nI h) 5 = some (f 9 h) := v_ho (w := 5) hs hh (by decide) (by
  have hH : H ≤ 8 := hs.1.1.2.2.2.2.2.2.2.1
  show some (rat 8 (f 9) (nI h)) = _
  rw [rat_nI (by omega) (by decide)])
theorem h_6 {h : Nat} (hs : SIM f r K H D ls t T) (hh : h < H) : m8_house N f (nI h) 6 = some (f 10 h) := v_ho (w := 6) hs hh (by decide) (by
  have hH : H ≤ 8 := hs.1.1.2.2.2.2.2.2.2.1
  show some (rat 8 (f 10) (nI h)) = _
  rw [rat_nI (by omega) (by decide)])
theorem v_do {d w : Nat} {v : Int32} (hs : SIM f r K H D ls t T) (hd : d < D) (hw : w < 10) (hv : m7_valueOfDough N f (nI d) (nI w) = some v) : m8_dough N f (nI d) (nI w) = some v := by
  have hD : D ≤ 16 := hs.1.1.2.2.2.2.2.2.2.2.1
  unfold m8_dough
  rw [(S_isDough hs _).1, isN_1 (by omega) hd, lt1_s, show m8_refusalOfValue 1 (nI w) 10 = 0 from rv_1 (n := 10) (by omega) (by decide), lt1_s, ckp_t (by decide), hv]
  rfl
theorem d_2 {d : Nat} (hs : SIM f r K H D ls t T) (hd : d < D) : m8_dough N f (nI d) 2 = some (f 13 d) := v_do (w := 2) hs hd (by decide) (by
  have hD : D ≤ 16 := hs.1.1.2.2.2.2.2.2.2.2.1
  show some (rat 16 (f 13) (nI d)) = _
  rw [rat_nI (by omega) (by decide)])
theorem d_4 {d : Nat} (hs : SIM f r K H D ls t T) (hd : d < D) : m8_dough N f (nI d) 4 = some (f 15 d) := v_do (w := 4) hs hd (by decide) (by
  have hD : D ≤ 16 := hs.1.1.2.2.2.2.2.2.2.2.1
  show some (rat 16 (f 15) (nI d)) = _
  rw [rat_nI (by omega) (by decide)])
theorem d_6 {d : Nat} (hs : SIM f r K H D ls t T) (hd : d < D) : m8_dough N f (nI d) 6 = some (f 17 d) := v_do (w := 6) hs hd (by decide) (by
  have hD : D ≤ 16 := hs.1.1.2.2.2.2.2.2.2.2.1
  show some (rat 16 (f 17) (nI d)) = _
  rw [rat_nI (by omega) (by decide)])
theorem d_7 {d : Nat} (hs : SIM f r K H D ls t T) (hd : d < D) (hN : 100 < N) : m8_dough N f (nI d) 7 = some (ixOf d ls 0) := v_do (w := 7) hs hd (by decide) (by
  have hD : D ≤ 16 := hs.1.1.2.2.2.2.2.2.2.2.1
  show ob1 (m7_placeInLine N f (nI d)) _ = _
  rw [U7_place hs.1.1.2.2.2.1 hs.1.2.2.1.1 hs.1.2.2.1.2.1 (IV_16 hs.1) (by omega) hN]
  rfl)
theorem setPl {x : Int32} (hN : 100 < N) : m7_setOfPlaces N f x = some (sb (fun p => decide (f 19 p = x)) 12) := by
  unfold m7_setOfPlaces
  have q : m7_setOfPlaces_L4 N N x (nI 0) (nI 0) f = some (sb (fun p => decide (f 19 p = x)) 12) := by
    refine loop_i (σ := Int32) (fun n i s => m7_setOfPlaces_L4 N n x s (nI i) f = some (sb (fun p => decide (f 19 p = x)) 12)) (fun i s => s = sb (fun p => decide (f 19 p = x)) i) 12 ?_ ?_ N 0 (nI 0) (by omega) (by omega) rfl
    · intro n s hs
      rw [m7_setOfPlaces_L4, if_pos (by decide), hs]
    · intro n i s hi hs ih
      rw [m7_setOfPlaces_L4, if_neg (show ¬ (12 : Int32) ≤ nI i from nI_ge hi (by decide)), rat_nI hi (by decide), lt1_s, ltx_s, ltx_s, nI_1]
      refine ih _ ?_
      rw [hs]
      show _ = if decide (f 19 i = x) = true then _ else _
      by_cases c : f 19 i = x
      · rw [if_pos c, if_pos (decide_eq_true c)]
      · rw [if_neg c, if_neg (by rw [decide_eq_false c]; decide)]
  have q' : m7_setOfPlaces_L4 N N x 0 0 f = _ := q
  rw [q', ob1_s]
theorem d_8 {d : Nat} (hs : SIM f r K H D ls t T) (hd : d < D) (hN : 100 < N) : m8_dough N f (nI d) 8 = some (sb (fun p => decide (f 19 p = nI d)) 12) := v_do (w := 8) hs hd (by decide) (by
  show ob1 (m7_setOfPlaces N f (nI d)) _ = _
  rw [setPl hN]
  rfl)
theorem d_9 {d : Nat} (hs : SIM f r K H D ls t T) (hd : d < D) : m8_dough N f (nI d) 9 = some (f 18 d) := v_do (w := 9) hs hd (by decide) (by
  have hD : D ≤ 16 := hs.1.1.2.2.2.2.2.2.2.2.1
  show some (rat 16 (f 18) (nI d)) = _
  rw [rat_nI (by omega) (by decide)])
theorem v_li {i : Nat} (hi : i < 2^31) : m8_line f (nI i) = some (if nI ls.length ≤ nI i then -1 else rat 16 (f 22) (nI i)) ∨ ¬ f 23 3 = nI ls.length := by
  by_cases e : f 23 3 = nI ls.length
  · left
    unfold m8_line
    rw [if_pos (nI_pos' hi), lt1_s, ckp_t (by decide)]
    unfold m7_doughInLine
    rw [if_neg (nI_pos hi), e, lt1_s]
  · exact Or.inr e
theorem li_out (hs : SIM f r K H D ls t T) : m8_line f (nI ls.length) = some (-1) := by
  have hle := IV_len hs.1
  have hD : D ≤ 16 := hs.1.1.2.2.2.2.2.2.2.2.1
  rcases v_li (f := f) (ls := ls) (i := ls.length) (by omega) with q | q
  · rw [q, if_pos (Int32.le_refl _)]
  · exact absurd hs.1.1.2.2.2.1 q
theorem li_at {pre suf : List Nat} {d : Nat} (hs : SIM f r K H D (pre ++ d :: suf) t T) : m8_line f (nI pre.length) = some (nI d) := by
  have hle := IV_len hs.1
  have hD : D ≤ 16 := hs.1.1.2.2.2.2.2.2.2.2.1
  have hl := len_mid (pre := pre) (suf := suf) (x := d)
  rcases v_li (f := f) (ls := pre ++ d :: suf) (i := pre.length) (by omega) with q | q
  · have m := (LN_mid hs.1.2.2.1.1).2.1
    rw [Nat.zero_add] at m
    rw [q, if_neg (nI_ge (by omega) (by omega)), rat_nI (by omega) (by decide), m]
  · exact absurd hs.1.1.2.2.2.1 q
theorem v_pl {p w : Nat} (hp : p < 12) (hw : w < 4) : m8_place f (nI p) (nI w) = some (m7_valueOfPlace f (nI p) (nI w)) := by
  unfold m8_place
  rw [if_neg (nI_pos (by omega)), if_neg (show ¬ (12 : Int32) ≤ nI p from nI_ge hp (by decide)), lt1_s, show m8_refusalOfValue 1 (nI w) 4 = 0 from rv_1 (n := 4) (by omega) (by decide), lt1_s, ckp_t (by decide)]
  rfl
theorem p_0 {p : Nat} (hs : SIM f r K H D ls t T) (hp : p < 12) : m8_place f (nI p) 0 = some (nI (t - 20 * (p / 4))) := by
  have ht : t ≤ 400 := hs.1.1.2.2.2.2.2.2.2.2.2
  have q := v_pl (f := f) (w := 0) hp (by decide)
  have e : m7_valueOfPlace f (nI p) (nI 0) = nI (t - 20 * (p / 4)) := by
    unfold m7_valueOfPlace
    rw [if_pos (show nI 0 = 0 from rfl), hs.1.1.2.2.2.2.1, warm7 ht hp, lt1_s]
  rw [e] at q
  exact q
theorem p_w {p w : Nat} {v : Int32} (hp : p < 12) (hw : w < 4) (h0 : ¬ w = 0) (hv : (if nI w = 1 then rat 12 (f 19) (nI p) else if nI w = 2 then rat 12 (f 20) (nI p) else rat 12 (f 21) (nI p)) = v) : m8_place f (nI p) (nI w) = some (if f 19 p = iM then iM else v) := by
  have q := v_pl (f := f) hp hw
  have e : m7_valueOfPlace f (nI p) (nI w) = if f 19 p = iM then iM else v := by
    unfold m7_valueOfPlace
    rw [if_neg (nI_ne0 (by omega) (by omega)), isFree5 hp, lt1_s, hv]
    unfold fr
    by_cases c : f 19 p = iM
    · rw [if_pos c, decide_eq_true (show f 19 p = -1 from c), if_pos rfl, z1]
      rfl
    · rw [if_neg c, decide_eq_false (show ¬ f 19 p = -1 from c), if_neg (show ¬ (false = true) by decide), z0]
  rw [e] at q
  exact q
theorem p_1 {p : Nat} (hp : p < 12) : m8_place f (nI p) 1 = some (f 19 p) := by
  have q := p_w (f := f) (w := 1) (v := f 19 p) hp (by decide) (by decide) (by rw [if_pos (show nI 1 = 1 from rfl), rat_nI hp (by decide)])
  have e : (if f 19 p = iM then iM else f 19 p) = f 19 p := by
    by_cases c : f 19 p = iM
    · rw [if_pos c, c]
    · rw [if_neg c]
  rw [e] at q
  exact q
theorem p_2 {p : Nat} (hp : p < 12) : m8_place f (nI p) 2 = some (if f 19 p = iM then iM else f 20 p) := p_w (w := 2) hp (by decide) (by decide) (by rw [if_neg (by decide), if_pos (show nI 2 = 2 from rfl), rat_nI hp (by decide)])
theorem p_3 {p : Nat} (hp : p < 12) : m8_place f (nI p) 3 = some (if f 19 p = iM then iM else f 21 p) := p_w (w := 3) hp (by decide) (by decide) (by rw [if_neg (by decide), if_neg (by decide), rat_nI hp (by decide)])
/-- the reasons are what they are -/
theorem reasonX {d : Nat} (hs : SIM f r K H D ls t T) (hd : d < D) (hN : 100 < N) {t' : Nat} (ht : t' ≤ 400) : ∃ w, w ≤ 5 ∧ m7_reasonAt N f (nI d) (nI t') = some (nI w) := by
  have hD : D ≤ 16 := hs.1.1.2.2.2.2.2.2.2.2.1
  have hK : K ≤ 5 := hs.1.1.2.2.2.2.2.2.1
  obtain ⟨_, ⟨k, k1, k2⟩, _⟩ := hs.1.2.1 d hd
  unfold m7_reasonAt
  rw [rat_nI (by omega) (by decide), ltx_s, k2, reason7 ht (by omega) hN, ob3_s, ltx_s]
  split
  · split
    · split
      · split
        · exact ⟨0, by decide, rfl⟩
        · exact ⟨5, by decide, rfl⟩
      · exact ⟨4, by decide, rfl⟩
    · exact ⟨3, by decide, rfl⟩
  · exact ⟨2, by decide, rfl⟩
theorem re_w {d : Nat} (hs : SIM f r K H D ls t T) (hd : d < D) (hN : 100 < N) (h0 : f 15 d = nI 0) : ∃ w, w ≤ 5 ∧ m7_reasonAt N f (nI d) (nI t) = some (nI w) ∧ m8_reason N f (nI d) = some (nI w) := by
  have hD : D ≤ 16 := hs.1.1.2.2.2.2.2.2.2.2.1
  have ht : t ≤ 400 := hs.1.1.2.2.2.2.2.2.2.2.2
  obtain ⟨w, w1, w2⟩ := reasonX hs hd hN ht
  refine ⟨w, w1, w2, ?_⟩
  unfold m8_reason m7_reasonNow
  rw [(S_isDough hs _).1, isN_1 (by omega) hd, lt1_s, z1, lt1_s, ckp_t (by decide), S_isWaiting hs hd, if_pos (show f 15 d = 0 from h0), lt1_s, z1, hs.1.1.2.2.2.2.1, w2]
  rfl
theorem re_n {d : Nat} (hs : SIM f r K H D ls t T) (hd : d < D) (h0 : ¬ f 15 d = nI 0) : m8_reason N f (nI d) = some iM := by
  have hD : D ≤ 16 := hs.1.1.2.2.2.2.2.2.2.2.1
  unfold m8_reason m7_reasonNow
  rw [(S_isDough hs _).1, isN_1 (by omega) hd, lt1_s, z1, lt1_s, ckp_t (by decide), S_isWaiting hs hd, if_neg (show ¬ f 15 d = 0 from h0), lt1_s, z0]
  rfl
theorem ow_s {h u : Nat} {a : Nat → Nat} (hs : SIM f r K H D ls t T) (hh : h < H) (e6 : f 23 6 = nI u) (ha : ∀ h, h < 8 → f 6 h = nI (a h)) (hu : u < 2^28) (hS : sumN a H < 2^28) (hN : 100 < N) : m8_owes N f (nI h) = some (nI (owv u a H h)) := by
  have hH : H ≤ 8 := hs.1.1.2.2.2.2.2.2.2.1
  unfold m8_owes
  rw [(S_isHouse hs _).1, isN_1 (by omega) hh, lt1_s, z1, lt1_s, ckp_t (by decide), O7 hs.1.1.2.1 hH e6 ha hu hS hh hN]
  rfl
end VALS
