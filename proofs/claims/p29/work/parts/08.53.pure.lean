/-! p29: the law answers 1 -/
theorem lg_refl {a : Int64} : lg_cmp a a = 0 := by
  unfold lg_cmp
  simp
theorem cell_ok {L i : Nat} {xs : Nat → Int32} (hL : L ≤ 260) (hi : i < 1000) : ∃ x, mL_cell L xs (nI i) = some x := by
  unfold mL_cell
  by_cases c : L ≤ i
  · rw [if_pos (show Int32.ofNat L ≤ nI i from nI_le c (by omega))]
    exact ⟨_, rfl⟩
  · rw [if_neg (show ¬ Int32.ofNat L ≤ nI i from nI_ge (by omega) (by omega)), ck_nI (by omega) (by omega)]
    exact ⟨_, rfl⟩
theorem dg_g {N : Nat} {f g g' c : bkA} {o : Nat → Int32} : m8_digest N f g c o = m8_digest N f g' c o := by
  unfold m8_digest m8_heatAfter
  rfl
theorem dg_ok {f c : bkA} {r o : Nat → Int32} {K H D t T N : Nat} {ls : List Nat} (h : SIM f r K H D ls t T) (hT : T ≤ 200000) (hN : 300 < N) : ∃ x g', ∀ g, m8_digest N f g c o = some (x, g') := by
  obtain ⟨x, g', _, _, _, a1, _⟩ := S_digest (g := f) (u := r) (c := c) (o := o) (q := fun k => if k = 1 then o 1 else c 2 0) (N := N) h hT hN rfl rfl (fun _ => 0) (fun _ => 0)
  exact ⟨x, g', fun g => by rw [← a1]; exact dg_g⟩
theorem law_loopT {L N : Nat} {xs : Nat → Int32} {v : Int32} {c : bkA} (hL : L ≤ 260) (hN : 400 < N) : ∀ (k i n : Nat) (f g : bkA) (y : Nat → bkA) (o : Nat → Int32) (K H T a : Nat) (σ : Int32), i + k = 16 → k < n → GS f K H T σ → 1 ≤ K → 1 ≤ H → T ≤ 9 * i → HC a 4 o → mL_law_L103 N L xs n v 4 σ (nI i) f g c y o = some 1 := by
  intro k
  induction k with
  | zero =>
    intro i n f g y o K H T a σ hi hn hG hK hH hT hC
    obtain ⟨n, rfl⟩ : ∃ z, n = z + 1 := ⟨n - 1, by omega⟩
    have e : i = 16 := by omega
    subst e
    obtain ⟨D, r, ls, t, h, hx⟩ := hG
    obtain ⟨m, m1, m2⟩ := low_ok (v >>> (9 &&& 31)) (n := 9) (by decide) (by decide)
    obtain ⟨o', s1, s2⟩ := save_4 (f := f) (y := y) hC
    obtain ⟨g', c1⟩ := comes_true (g := g) (c := c) (m := 1 + m) h hx (by omega) (show 200 < N by omega) (by omega) (by omega) s1
    obtain ⟨r', ls', t', a1, a2, _, _⟩ := its_ok h hx (show 200 < N by omega) (1 + m) (by omega)
    rw [mL_law_L103, if_pos (by decide), show mL_low (v >>> (9 &&& 31)) 9 = _ from m2, ob1_s, show (1 : Int32) + nI m = nI (1 + m) from nI_add 1 m, c1, ob5_s, if_neg n10, hearth_true a1 a2 (by omega) (by omega), ob1_s, if_neg n10, addsUp_true a1 a2 (by omega) (by omega), ob1_s, if_neg n10]
  | succ k ih =>
    intro i n f g y o K H T a σ hi hn hG hK hH hT hC
    obtain ⟨n, rfl⟩ : ∃ z, n = z + 1 := ⟨n - 1, by omega⟩
    have tl : ∀ (f1 g1 : bkA) (y1 : Nat → bkA) (o1 : Nat → Int32) (K' H' T' a' : Nat) (σ' : Int32), GS f1 K' H' T' σ' → 1 ≤ K' → 1 ≤ H' → T' ≤ 9 * (i + 1) → HC a' 4 o1 → (ob1 (mL_addsUp N f1 c σ') fun x95 => if x95 = 0 then some 0 else if (nI i &&& 1) = 0 then ob1 (mL_isHearthRight N f1 c) fun x100 => if x100 = 0 then some 0 else lt_ (nI i + 1) fun x103 => mL_law_L103 N L xs n v 4 σ' x103 f1 g1 c y1 o1 else lt_ (nI i + 1) fun x99 => mL_law_L103 N L xs n v 4 σ' x99 f1 g1 c y1 o1) = some 1 := by
      intro f1 g1 y1 o1 K' H' T' a' σ' hG' hK' hH' hT' hC'
      have nx := ih (i+1) n f1 g1 y1 o1 K' H' T' a' σ' (by omega) (by omega) hG' hK' hH' hT' hC'
      obtain ⟨D, r, ls, t, h, hx⟩ := hG'
      rw [addsUp_true h hx (by omega) (by omega), ob1_s, if_neg n10]
      by_cases q : nI i &&& 1 = 0
      · rw [if_pos q, hearth_true h hx (by omega) (by omega), ob1_s, if_neg n10, ltx_s, nI_1]
        exact nx
      · rw [if_neg q, ltx_s, nI_1]
        exact nx
    have hG0 := hG
    obtain ⟨D, r, ls, t, h, hx⟩ := hG
    obtain ⟨x, x1⟩ := cell_ok (xs := xs) hL (show i < 1000 by omega)
    obtain ⟨dx, dg, d1⟩ := dg_ok (c := c) (o := o) h (by omega) (show 300 < N by omega)
    obtain ⟨u, S, su, sU, sS, sA⟩ := act_ok (c := c) h hx hK hH (by omega) (show 200 < N by omega) x
    have e70 : (if nI S ≤ 0 then some (0 : Int32) else ob1 (m8_whole N f c 7) fun x72 => some x72) = some (if S = 0 then 0 else nI u) := by
      by_cases z : S = 0
      · rw [z, if_pos (show nI 0 ≤ 0 from Int32.le_refl 0), if_pos rfl]
      · rw [if_neg (nI_nle (by omega) (by omega)), w_7, ob1_s, if_neg z, su]
    rw [mL_law_L103, if_neg (show ¬ (16 : Int32) ≤ nI i from nI_ge (b := 16) (by omega) (by decide)), x1, ob1_s, d1, ob2_s, w_8 sU, ob1_s, e70, ob1_s]
    rcases sA with sA | ⟨f1, ⟨K', H', T', hK', hH', hT', hG'⟩, sA⟩
    · rw [sA, ob4_s]
      simp only [if_true, d1, ob2_s, lg_refl, lt1_s]
      exact tl f dg y o K H T a σ hG0 hK hH (by omega) hC
    · obtain ⟨o', s1, s2⟩ := save_4 (f := f) (y := y) hC
      rw [sA y o _ o' s1, ob4_s]
      have h44 : (4 : Int32) ≤ 4 := by decide
      simp only [if_neg n10, if_pos h44, lt1_s, ltx_s]
      obtain ⟨m, m1, m2⟩ := low_ok (x >>> (24 &&& 31)) (n := 4) (by decide) (by decide)
      rw [show mL_low (x >>> (24 &&& 31)) 4 = _ from m2, ob1_s]
      by_cases z : nI m = 0
      · rw [if_pos z]
        have ea : ((a + 1) % 4 + 3) % 4 = a := by
          have := hC.1
          omega
        obtain ⟨o2, u1, u2⟩ := undo_ok (f := f1) (y := ur y a f) (c := 3) s2
        rw [ea, ur_s] at u1
        obtain ⟨o3, v1, v2⟩ := save_c (f := f) (y := ur y a f) u2 (by decide)
        rw [u1, ob3_s, if_pos (show nI 3 = (4 : Int32) - 1 by decide), sA _ o2 _ o3 v1, ob4_s, if_neg n10, show (4 : Int32) + (-1) + 1 = 4 by decide]
        exact tl f1 dg _ o3 K' H' T' _ _ hG' (by omega) (by omega) (by omega) v2
      · rw [if_neg z]
        exact tl f1 dg _ o' K' H' T' _ _ hG' (by omega) (by omega) (by omega) s2
theorem newHouse_5 {f f' : bkA} {x : Int32} (e : m7_newHouse f = (x, f')) : f' 5 = f 5 := by
  unfold m7_newHouse at e
  simp only [ltx_s] at e
  rw [← (Prod.mk.inj e).2, ur_n (by decide)]
theorem c_addHouse5 {f : bkA} {r : Nat → Int32} {K H D t T : Nat} {σ : Int32} {ls : List Nat} (h : SIM f r K H D ls t T) (hx : IX9 f K D T σ) (hH : H < 8) : ∃ x f', f' 5 = f 5 ∧ GS f' K (H+1) T σ ∧ ∀ y o y' o', m2_save f y o = some (y', o') → m8_addHouse f y o = some (x, f', y', o') := by
  obtain ⟨f', r', a1, _, S⟩ := S_newHouse (N := 101) h hH (by decide)
  obtain ⟨f2, a2, X⟩ := X_newHouse (H := H) hx h.1.1.2.1
  rw [a1] at a2
  have e := (Prod.mk.inj a2).2
  rw [← e] at X
  refine ⟨nI H, f', newHouse_5 a1, ⟨D, r', ls, t, S, X⟩, ?_⟩
  intro y o y' o' hsv
  have er : m7_refusalOfHouse f = 0 := by
    unfold m7_refusalOfHouse
    rw [h.1.1.2.1, if_pos (show nI H < 8 from nI_lt (b := 8) hH (by decide))]
  unfold m8_addHouse
  rw [er, lt1_s, ckp_t (by decide), hsv, ob2_s, a1, lt2_s]
theorem law_true {L N : Nat} {xs : Nat → Int32} {f0 g0 c0 : bkA} {y0 : Nat → bkA} {o0 r : Nat → Int32} (hL : L ≤ 260) (hN : 400 < N) (h : SIM f0 r 0 0 0 [] 0 0) (hx : IX9 f0 0 0 0 0) (hC : HC 0 0 o0) : mL_law N L xs f0 g0 c0 y0 o0 = some 1 := by
  obtain ⟨v, v1⟩ := cell_ok (xs := xs) (i := 0) hL (by decide)
  have v1' : mL_cell L xs 0 = some v := v1
  obtain ⟨n1, n1a, n1b⟩ := low_ok v (n := 100) (by decide) (by decide)
  obtain ⟨n2, n2a, n2b⟩ := low_ok (v >>> (7 &&& 31)) (n := 200) (by decide) (by decide)
  obtain ⟨n3, n3a, n3b⟩ := low_ok (v >>> (15 &&& 31)) (n := 5) (by decide) (by decide)
  obtain ⟨n4, n4a, n4b⟩ := low_ok (v >>> (18 &&& 31)) (n := 3) (by decide) (by decide)
  obtain ⟨n5, n5a, n5b⟩ := low_ok (v >>> (20 &&& 31)) (n := 20) (by decide) (by decide)
  obtain ⟨n6, n6a, n6b⟩ := low_ok (v >>> (4 &&& 31)) (n := 2) (by decide) (by decide)
  obtain ⟨q1, f1, ⟨D1, r1, ls1, t1, h1, x1⟩, A1⟩ := c_addKind h hx (b1 := 50 + n1) (b2 := 160 + n2) (b3 := 1 + n3) (b4 := n4) (b5 := 3 + n5) (by omega) (by omega) (by omega) (by omega) (by omega) (by omega) (by omega) (by omega) (by omega) (by omega)
  obtain ⟨q2, f2, e2, ⟨D2, r2, ls2, t2, h2, x2⟩, A2⟩ := c_addHouse5 h1 x1 (by decide)
  obtain ⟨q3, f3, e3, ⟨D3, r3, ls3, t3, h3, x3⟩, A3⟩ := c_addHouse5 h2 x2 (by decide)
  have b5 : f3 5 n6 = nI 0 := by
    rw [e3, e2]
    exact h1.1.2.2.2.2.1 5 n6 (by decide) (by decide) (Nat.zero_le _) (by omega)
  have hb : f3 5 n6 + nI 40 ≤ 999 := by
    rw [b5]
    decide
  obtain ⟨q4, f4, G4, A4⟩ := c_bring h3 x3 (b1 := n6) (b2 := 40) (by omega) (by decide) (by decide) hb
  obtain ⟨o1, s1, s1'⟩ := save_c (f := f0) (y := y0) hC (by decide)
  obtain ⟨o2, s2, s2'⟩ := save_c (f := f1) (y := ur y0 ((0 + 0) % 4) f0) s1' (by decide)
  obtain ⟨o3, s3, s3'⟩ := save_c (f := f2) (y := ur (ur y0 ((0 + 0) % 4) f0) ((0 + (0 + 1)) % 4) f1) s2' (by decide)
  obtain ⟨o4, s4, s4'⟩ := save_c (f := f3) (y := ur (ur (ur y0 ((0 + 0) % 4) f0) ((0 + (0 + 1)) % 4) f1) ((0 + (0 + 1 + 1)) % 4) f2) s3' (by decide)
  unfold mL_law
  rw [v1', ob1_s, show mL_low v 100 = _ from n1b, ob1_s, show mL_low (v >>> (7 &&& 31)) 200 = _ from n2b, ob1_s, show mL_low (v >>> (15 &&& 31)) 5 = _ from n3b, ob1_s, show mL_low (v >>> (18 &&& 31)) 3 = _ from n4b, ob1_s, show mL_low (v >>> (20 &&& 31)) 20 = _ from n5b, ob1_s, show (50 : Int32) + nI n1 = nI (50 + n1) from nI_add 50 n1, show (160 : Int32) + nI n2 = nI (160 + n2) from nI_add 160 n2, show (1 : Int32) + nI n3 = nI (1 + n3) from nI_add 1 n3, show (3 : Int32) + nI n5 = nI (3 + n5) from nI_add 3 n5, A1 _ _ _ _ s1, ob4_s, A2 _ _ _ _ s2, ob4_s, A3 _ _ _ _ s3, ob4_s, show mL_low (v >>> (4 &&& 31)) 2 = _ from n6b, ob1_s, show m8_bring f3 _ _ (nI n6) 40 = _ from A4 _ _ _ _ s4, ob4_s]
  exact law_loopT hL hN 15 1 N f4 g0 _ o4 1 2 0 0 0 (by omega) (by omega) G4 (by decide) (by decide) (by decide) s4'
