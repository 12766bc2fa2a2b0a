/-! the law's loop answers 1, call by call -/
def LI (f c : bkA) (y : Nat → bkA) (o s sv tx q : Nat → Int32) : Prop := SIMX f s ∧ HS y o sv q ∧ CM c tx q
/-- what the loop does behind the i-th call -/
def LG (N L : Nat) (xs : Nat → Int32) (n i : Nat) : Prop := ∀ (f g c : bkA) (y : Nat → bkA) (o : Nat → Int32) (z : Nat → Int64) (s u sv tx ow : Nat → Int32) (rs : Nat → Int64) (rn nu q : Nat → Int32), LI f c y o s sv tx q → mL_law_L23 N L xs n (nI (6 * (i + 1))) f g c y o z s u sv tx ow rs rn nu q = some 1
theorem CM_q {c : bkA} {tx q q' : Nat → Int32} (h : CM c tx q) (e : q' 2 = q 2) : CM c tx q' := CM_KT h KT_refl e
theorem lg_refl {a : Int64} : lg_cmp a a = 0 := by
  unfold lg_cmp
  simp
theorem vL0 {z : Nat → Int64} {v : Int64} : vp_updL z 0 v (0 : Int32).toNatClampNeg = v := by
  rw [tc0]
  simp [vp_updL]
theorem tailc {yc x33 x9 : Int32} {z : Nat → Int64} {B : Option Int32} (h1 : yc = x33) (h2 : x33 = 0 → z (0 : Int32).toNatClampNeg = x9.toInt64) : (if yc = x33 then if x33 = 0 then ck 0 1 <| if (lg_cmp (z (0 : Int32).toNatClampNeg) (x9.toInt64)) = 0 then B else some 0 else B else some 0) = B := by
  rw [if_pos h1]
  by_cases h : x33 = 0
  · rw [if_pos h, (show ∀ k : Option Int32, ck 0 1 k = k from fun k => ck_nI (d := 0) (by decide) (by decide)), h2 h, lg_refl, if_pos rfl]
  · rw [if_neg h]
section LAWK
variable {N L : Nat} {xs : Nat → Int32} {n i : Nat}
theorem lk (h : 6 * i + 6 ≤ L) (hL : L ≤ 3072) : (∀ k : Option Int32, ck (nI (6 * i)) L k = k) ∧ (∀ k : Option Int32, ck (nI (6 * i) + 1) L k = k) ∧ (∀ k : Option Int32, ck (nI (6 * i) + 2) L k = k) ∧ (∀ k : Option Int32, ck (nI (6 * i) + 3) L k = k) ∧ (∀ k : Option Int32, ck (nI (6 * i) + 4) L k = k) ∧ ∀ k : Option Int32, ck (nI (6 * i) + 5) L k = k := by
  refine ⟨fun k => ck_nI (by omega) (by omega), fun k => ?_, fun k => ?_, fun k => ?_, fun k => ?_, fun k => ?_⟩
  · rw [l_1, nI_add]
    exact ck_nI (by omega) (by omega)
  · rw [l_2, nI_add]
    exact ck_nI (by omega) (by omega)
  · rw [l_3, nI_add]
    exact ck_nI (by omega) (by omega)
  · rw [l_4, nI_add]
    exact ck_nI (by omega) (by omega)
  · rw [l_5, nI_add]
    exact ck_nI (by omega) (by omega)
theorem e6 : nI (6 * i) + 6 = nI (6 * (i + 1)) := by
  rw [l_6, nI_add]
  rfl
theorem ob7_s {α α2 α3 α4 α5 α6 α7 β : Type} {a : α} {b : α2} {c : α3} {d : α4} {e : α5} {f : α6} {g : α7} {k : α → α2 → α3 → α4 → α5 → α6 → α7 → Option β} : ob7 (some (a, b, c, d, e, f, g)) k = k a b c d e f g := rfl
theorem LB_0 {f3 g4 c5 : bkA} {y6 : Nat → bkA} {o7 : Nat → Int32} {z8 : Nat → Int64} {s9 u10 sv11 tx12 ow13 : Nat → Int32} {rs14 : Nat → Int64} {rn15 nu16 q17 : Nat → Int32} (hI : LI f3 c5 y6 o7 s9 sv11 tx12 q17) (hi : 6 * i + 6 ≤ L) (hL : L ≤ 3072) (hN : 1100 < N) (ih : LG N L xs n i) : (
        ck ((nI (6 * i)) + 1) L <|
        ck ((nI (6 * i)) + 2) L <|
        ck ((nI (6 * i)) + 3) L <|
        ck ((nI (6 * i)) + 4) L <|
        ck ((nI (6 * i)) + 5) L <|
        ob5 (m8_addKind f3 y6 o7 (xs ((nI (6 * i)) + 1).toNatClampNeg) (xs ((nI (6 * i)) + 2).toNatClampNeg) (xs ((nI (6 * i)) + 3).toNatClampNeg) (xs ((nI (6 * i)) + 4).toNatClampNeg) (xs ((nI (6 * i)) + 5).toNatClampNeg)) fun k25 x26 f27 y28 o29 =>
        ckp (k25 = 0 ∨ k25 = 2 ∨ k25 = 3) <|
        lt_ ((if k25 = 0 then vp_updL z8 0 x26.toInt64 else z8)) fun z32 =>
        lt_ ((if k25 = 0 then (0 : Int32) else if k25 = 2 then 1 else 2)) fun x33 =>
        ck ((nI (6 * i)) + 1) L <|
        ck ((nI (6 * i)) + 2) L <|
        ck ((nI (6 * i)) + 3) L <|
        ck ((nI (6 * i)) + 4) L <|
        ck ((nI (6 * i)) + 5) L <|
        ob4 (m9_addKind N s9 sv11 q17 (xs ((nI (6 * i)) + 1).toNatClampNeg) (xs ((nI (6 * i)) + 2).toNatClampNeg) (xs ((nI (6 * i)) + 3).toNatClampNeg) (xs ((nI (6 * i)) + 4).toNatClampNeg) (xs ((nI (6 * i)) + 5).toNatClampNeg)) fun x39 s40 sv41 q42 =>
        lt1 (m9_thrown q42) fun x44 =>
        if x44 = x33 then
          if x33 = 0 then
            ck 0 1 <|
            if (lg_cmp (z32 (0 : Int32).toNatClampNeg) (x39.toInt64)) = 0 then
              lt_ ((nI (6 * i)) + 6) fun x51 =>
              mL_law_L23 N L xs n x51 f27 g4 c5 y28 o29 z32 s40 u10 sv41 tx12 ow13 rs14 rn15 nu16 q42
            else
              some 0
          else
            lt_ ((nI (6 * i)) + 6) fun x48 =>
            mL_law_L23 N L xs n x48 f27 g4 c5 y28 o29 z32 s40 u10 sv41 tx12 ow13 rs14 rn15 nu16 q42
        else
          some 0
      ) = some 1 := by
  obtain ⟨k0, k1, k2, k3, k4, k5⟩ := lk hi hL
  obtain ⟨k, x, f', y', o', x9, s', sv', q', h1, h2, hC, hx, hS, hH, hq⟩ := P_addKind (N := N) hI.1 hI.2.1 hN (xs (nI (6 * i) + 1).toNatClampNeg) (xs (nI (6 * i) + 2).toNatClampNeg) (xs (nI (6 * i) + 3).toNatClampNeg) (xs (nI (6 * i) + 4).toNatClampNeg) (xs (nI (6 * i) + 5).toNatClampNeg)
  simp only [k1, k2, k3, k4, k5]
  rcases hC with ⟨k0, y0⟩ | ⟨k1, y1⟩ | ⟨k2, y2⟩
  · subst k0
    rw [h1, ob5_s, ckp_t (by decide), ltx_s, ltx_s, h2, ob4_s, lt1_s]
    rw [tailc (by unfold m9_thrown; rw [y0]; rfl) (fun _ => by rw [if_pos rfl, vL0, hx rfl]), ltx_s, e6]
    exact ih _ _ _ _ _ _ _ _ _ _ _ _ _ _ _ ⟨hS, hH, CM_q hI.2.2 hq⟩
  · subst k1
    rw [h1, ob5_s, ckp_t (by decide), ltx_s, ltx_s, h2, ob4_s, lt1_s]
    rw [tailc (by unfold m9_thrown; rw [y1]; rfl) (fun h => absurd h (by decide)), ltx_s, e6]
    exact ih _ _ _ _ _ _ _ _ _ _ _ _ _ _ _ ⟨hS, hH, CM_q hI.2.2 hq⟩
  · subst k2
    rw [h1, ob5_s, ckp_t (by decide), ltx_s, ltx_s, h2, ob4_s, lt1_s]
    rw [tailc (by unfold m9_thrown; rw [y2]; rfl) (fun h => absurd h (by decide)), ltx_s, e6]
    exact ih _ _ _ _ _ _ _ _ _ _ _ _ _ _ _ ⟨hS, hH, CM_q hI.2.2 hq⟩
theorem LB_1 {f3 g4 c5 : bkA} {y6 : Nat → bkA} {o7 : Nat → Int32} {z8 : Nat → Int64} {s9 u10 sv11 tx12 ow13 : Nat → Int32} {rs14 : Nat → Int64} {rn15 nu16 q17 : Nat → Int32} (hI : LI f3 c5 y6 o7 s9 sv11 tx12 q17) (hi : 6 * i + 6 ≤ L) (hL : L ≤ 3072) (hN : 1100 < N) (ih : LG N L xs n i) : (
        ob5 (m8_addHouse f3 y6 o7) fun k52 x53 f54 y55 o56 =>
        ckp (k52 = 0 ∨ k52 = 3) <|
        lt_ ((if k52 = 0 then vp_updL z8 0 x53.toInt64 else z8)) fun z59 =>
        lt_ ((if k52 = 0 then (0 : Int32) else 1)) fun x60 =>
        ob4 (m9_addHouse N s9 sv11 q17) fun x61 s62 sv63 q64 =>
        lt1 (m9_thrown q64) fun x66 =>
        if x66 = x60 then
          if x60 = 0 then
            ck 0 1 <|
            if (lg_cmp (z59 (0 : Int32).toNatClampNeg) (x61.toInt64)) = 0 then
              lt_ ((nI (6 * i)) + 6) fun x73 =>
              mL_law_L23 N L xs n x73 f54 g4 c5 y55 o56 z59 s62 u10 sv63 tx12 ow13 rs14 rn15 nu16 q64
            else
              some 0
          else
            lt_ ((nI (6 * i)) + 6) fun x70 =>
            mL_law_L23 N L xs n x70 f54 g4 c5 y55 o56 z59 s62 u10 sv63 tx12 ow13 rs14 rn15 nu16 q64
        else
          some 0
      ) = some 1 := by
  obtain ⟨k0, k1, k2, k3, k4, k5⟩ := lk hi hL
  obtain ⟨k, x, f', y', o', x9, s', sv', q', h1, h2, hC, hx, hS, hH, hq⟩ := P_addHouse (N := N) hI.1 hI.2.1 hN 
  rcases hC with ⟨k0, y0⟩ | ⟨k1, y1⟩
  · subst k0
    rw [h1, ob5_s, ckp_t (by decide), ltx_s, ltx_s, h2, ob4_s, lt1_s]
    rw [tailc (by unfold m9_thrown; rw [y0]; rfl) (fun _ => by rw [if_pos rfl, vL0, hx rfl]), ltx_s, e6]
    exact ih _ _ _ _ _ _ _ _ _ _ _ _ _ _ _ ⟨hS, hH, CM_q hI.2.2 hq⟩
  · subst k1
    rw [h1, ob5_s, ckp_t (by decide), ltx_s, ltx_s, h2, ob4_s, lt1_s]
    rw [tailc (by unfold m9_thrown; rw [y1]; rfl) (fun h => absurd h (by decide)), ltx_s, e6]
    exact ih _ _ _ _ _ _ _ _ _ _ _ _ _ _ _ ⟨hS, hH, CM_q hI.2.2 hq⟩
theorem LB_2 {f3 g4 c5 : bkA} {y6 : Nat → bkA} {o7 : Nat → Int32} {z8 : Nat → Int64} {s9 u10 sv11 tx12 ow13 : Nat → Int32} {rs14 : Nat → Int64} {rn15 nu16 q17 : Nat → Int32} (hI : LI f3 c5 y6 o7 s9 sv11 tx12 q17) (hi : 6 * i + 6 ≤ L) (hL : L ≤ 3072) (hN : 1100 < N) (ih : LG N L xs n i) : (
        ck ((nI (6 * i)) + 1) L <|
        ck ((nI (6 * i)) + 2) L <|
        ck ((nI (6 * i)) + 3) L <|
        ob5 (m8_addDough f3 y6 o7 (xs ((nI (6 * i)) + 1).toNatClampNeg) (xs ((nI (6 * i)) + 2).toNatClampNeg) (xs ((nI (6 * i)) + 3).toNatClampNeg)) fun k77 x78 f79 y80 o81 =>
        ckp (k77 = 0 ∨ k77 = 1 ∨ k77 = 2 ∨ k77 = 3) <|
        lt_ ((if k77 = 0 then vp_updL z8 0 x78.toInt64 else z8)) fun z84 =>
        lt_ ((if k77 = 0 then (0 : Int32) else if k77 = 1 then 1 else if k77 = 2 then 2 else 3)) fun x85 =>
        ck ((nI (6 * i)) + 1) L <|
        ck ((nI (6 * i)) + 2) L <|
        ck ((nI (6 * i)) + 3) L <|
        ob4 (m9_addDough N s9 sv11 q17 (xs ((nI (6 * i)) + 1).toNatClampNeg) (xs ((nI (6 * i)) + 2).toNatClampNeg) (xs ((nI (6 * i)) + 3).toNatClampNeg)) fun x89 s90 sv91 q92 =>
        lt1 (m9_thrown q92) fun x94 =>
        if x94 = x85 then
          if x85 = 0 then
            ck 0 1 <|
            if (lg_cmp (z84 (0 : Int32).toNatClampNeg) (x89.toInt64)) = 0 then
              lt_ ((nI (6 * i)) + 6) fun x101 =>
              mL_law_L23 N L xs n x101 f79 g4 c5 y80 o81 z84 s90 u10 sv91 tx12 ow13 rs14 rn15 nu16 q92
            else
              some 0
          else
            lt_ ((nI (6 * i)) + 6) fun x98 =>
            mL_law_L23 N L xs n x98 f79 g4 c5 y80 o81 z84 s90 u10 sv91 tx12 ow13 rs14 rn15 nu16 q92
        else
          some 0
      ) = some 1 := by
  obtain ⟨k0, k1, k2, k3, k4, k5⟩ := lk hi hL
  obtain ⟨k, x, f', y', o', x9, s', sv', q', h1, h2, hC, hx, hS, hH, hq⟩ := P_addDough (N := N) hI.1 hI.2.1 hN (xs (nI (6 * i) + 1).toNatClampNeg) (xs (nI (6 * i) + 2).toNatClampNeg) (xs (nI (6 * i) + 3).toNatClampNeg)
  simp only [k1, k2, k3, k4, k5]
  rcases hC with ⟨k0, y0⟩ | ⟨k1, y1⟩ | ⟨k2, y2⟩ | ⟨k3, y3⟩
  · subst k0
    rw [h1, ob5_s, ckp_t (by decide), ltx_s, ltx_s, h2, ob4_s, lt1_s]
    rw [tailc (by unfold m9_thrown; rw [y0]; rfl) (fun _ => by rw [if_pos rfl, vL0, hx rfl]), ltx_s, e6]
    exact ih _ _ _ _ _ _ _ _ _ _ _ _ _ _ _ ⟨hS, hH, CM_q hI.2.2 hq⟩
  · subst k1
    rw [h1, ob5_s, ckp_t (by decide), ltx_s, ltx_s, h2, ob4_s, lt1_s]
    rw [tailc (by unfold m9_thrown; rw [y1]; rfl) (fun h => absurd h (by decide)), ltx_s, e6]
    exact ih _ _ _ _ _ _ _ _ _ _ _ _ _ _ _ ⟨hS, hH, CM_q hI.2.2 hq⟩
  · subst k2
    rw [h1, ob5_s, ckp_t (by decide), ltx_s, ltx_s, h2, ob4_s, lt1_s]
    rw [tailc (by unfold m9_thrown; rw [y2]; rfl) (fun h => absurd h (by decide)), ltx_s, e6]
    exact ih _ _ _ _ _ _ _ _ _ _ _ _ _ _ _ ⟨hS, hH, CM_q hI.2.2 hq⟩
  · subst k3
    rw [h1, ob5_s, ckp_t (by decide), ltx_s, ltx_s, h2, ob4_s, lt1_s]
    rw [tailc (by unfold m9_thrown; rw [y3]; rfl) (fun h => absurd h (by decide)), ltx_s, e6]
    exact ih _ _ _ _ _ _ _ _ _ _ _ _ _ _ _ ⟨hS, hH, CM_q hI.2.2 hq⟩
theorem LB_3 {f3 g4 c5 : bkA} {y6 : Nat → bkA} {o7 : Nat → Int32} {z8 : Nat → Int64} {s9 u10 sv11 tx12 ow13 : Nat → Int32} {rs14 : Nat → Int64} {rn15 nu16 q17 : Nat → Int32} (hI : LI f3 c5 y6 o7 s9 sv11 tx12 q17) (hi : 6 * i + 6 ≤ L) (hL : L ≤ 3072) (hN : 1100 < N) (ih : LG N L xs n i) : (
        ob4 (m8_clearDoughs N f3 y6 o7) fun x102 f103 y104 o105 =>
        ob5 (m9_clearDoughs N s9 sv11 rn15 q17) fun x107 s108 sv109 rn110 q111 =>
        if x102 = x107 then
          lt_ ((nI (6 * i)) + 6) fun x114 =>
          mL_law_L23 N L xs n x114 f103 g4 c5 y104 o105 z8 s108 u10 sv109 tx12 ow13 rs14 rn110 nu16 q111
        else
          some 0
      ) = some 1 := by
  obtain ⟨k0, k1, k2, k3, k4, k5⟩ := lk hi hL
  obtain ⟨x, f', y', o', s', sv', rn', q', h1, h2, hS, hH, hq⟩ := P_clear (rn := rn15) (N := N) hI.1 hI.2.1 hN
  rw [h1, ob4_s, h2, ob5_s, if_pos rfl, ltx_s, e6]
  exact ih _ _ _ _ _ _ _ _ _ _ _ _ _ _ _ ⟨hS, hH, CM_q hI.2.2 hq⟩
theorem LB_4 {f3 g4 c5 : bkA} {y6 : Nat → bkA} {o7 : Nat → Int32} {z8 : Nat → Int64} {s9 u10 sv11 tx12 ow13 : Nat → Int32} {rs14 : Nat → Int64} {rn15 nu16 q17 : Nat → Int32} (hI : LI f3 c5 y6 o7 s9 sv11 tx12 q17) (hi : 6 * i + 6 ≤ L) (hL : L ≤ 3072) (hN : 1100 < N) (ih : LG N L xs n i) : (
        ck ((nI (6 * i)) + 1) L <|
        ck ((nI (6 * i)) + 2) L <|
        ob5 (m8_swap N f3 y6 o7 (xs ((nI (6 * i)) + 1).toNatClampNeg) (xs ((nI (6 * i)) + 2).toNatClampNeg)) fun k117 x118 f119 y120 o121 =>
        ckp (k117 = 0 ∨ k117 = 1 ∨ k117 = 2 ∨ k117 = 3) <|
        lt_ ((if k117 = 0 then vp_updL z8 0 x118.toInt64 else z8)) fun z124 =>
        lt_ ((if k117 = 0 then (0 : Int32) else if k117 = 1 then 1 else if k117 = 2 then 2 else 3)) fun x125 =>
        ck ((nI (6 * i)) + 1) L <|
        ck ((nI (6 * i)) + 2) L <|
        ob4 (m9_swap N s9 sv11 q17 (xs ((nI (6 * i)) + 1).toNatClampNeg) (xs ((nI (6 * i)) + 2).toNatClampNeg)) fun x128 s129 sv130 q131 =>
        lt1 (m9_thrown q131) fun x133 =>
        if x133 = x125 then
          if x125 = 0 then
            ck 0 1 <|
            if (lg_cmp (z124 (0 : Int32).toNatClampNeg) (x128.toInt64)) = 0 then
              lt_ ((nI (6 * i)) + 6) fun x140 =>
              mL_law_L23 N L xs n x140 f119 g4 c5 y120 o121 z124 s129 u10 sv130 tx12 ow13 rs14 rn15 nu16 q131
            else
              some 0
          else
            lt_ ((nI (6 * i)) + 6) fun x137 =>
            mL_law_L23 N L xs n x137 f119 g4 c5 y120 o121 z124 s129 u10 sv130 tx12 ow13 rs14 rn15 nu16 q131
        else
          some 0
      ) = some 1 := by
  obtain ⟨k0, k1, k2, k3, k4, k5⟩ := lk hi hL
  obtain ⟨k, x, f', y', o', x9, s', sv', q', h1, h2, hC, hx, hS, hH, hq⟩ := P_swap (N := N) hI.1 hI.2.1 hN (xs (nI (6 * i) + 1).toNatClampNeg) (xs (nI (6 * i) + 2).toNatClampNeg)
  simp only [k1, k2, k3, k4, k5]
  rcases hC with ⟨k0, y0⟩ | ⟨k1, y1⟩ | ⟨k2, y2⟩ | ⟨k3, y3⟩
  · subst k0
    rw [h1, ob5_s, ckp_t (by decide), ltx_s, ltx_s, h2, ob4_s, lt1_s]
    rw [tailc (by unfold m9_thrown; rw [y0]; rfl) (fun _ => by rw [if_pos rfl, vL0, hx rfl]), ltx_s, e6]
    exact ih _ _ _ _ _ _ _ _ _ _ _ _ _ _ _ ⟨hS, hH, CM_q hI.2.2 hq⟩
  · subst k1
    rw [h1, ob5_s, ckp_t (by decide), ltx_s, ltx_s, h2, ob4_s, lt1_s]
    rw [tailc (by unfold m9_thrown; rw [y1]; rfl) (fun h => absurd h (by decide)), ltx_s, e6]
    exact ih _ _ _ _ _ _ _ _ _ _ _ _ _ _ _ ⟨hS, hH, CM_q hI.2.2 hq⟩
  · subst k2
    rw [h1, ob5_s, ckp_t (by decide), ltx_s, ltx_s, h2, ob4_s, lt1_s]
    rw [tailc (by unfold m9_thrown; rw [y2]; rfl) (fun h => absurd h (by decide)), ltx_s, e6]
    exact ih _ _ _ _ _ _ _ _ _ _ _ _ _ _ _ ⟨hS, hH, CM_q hI.2.2 hq⟩
  · subst k3
    rw [h1, ob5_s, ckp_t (by decide), ltx_s, ltx_s, h2, ob4_s, lt1_s]
    rw [tailc (by unfold m9_thrown; rw [y3]; rfl) (fun h => absurd h (by decide)), ltx_s, e6]
    exact ih _ _ _ _ _ _ _ _ _ _ _ _ _ _ _ ⟨hS, hH, CM_q hI.2.2 hq⟩
theorem LB_5 {f3 g4 c5 : bkA} {y6 : Nat → bkA} {o7 : Nat → Int32} {z8 : Nat → Int64} {s9 u10 sv11 tx12 ow13 : Nat → Int32} {rs14 : Nat → Int64} {rn15 nu16 q17 : Nat → Int32} (hI : LI f3 c5 y6 o7 s9 sv11 tx12 q17) (hi : 6 * i + 6 ≤ L) (hL : L ≤ 3072) (hN : 1100 < N) (ih : LG N L xs n i) : (
        ck ((nI (6 * i)) + 1) L <|
        ck ((nI (6 * i)) + 2) L <|
        ob5 (m8_bring f3 y6 o7 (xs ((nI (6 * i)) + 1).toNatClampNeg) (xs ((nI (6 * i)) + 2).toNatClampNeg)) fun k143 x144 f145 y146 o147 =>
        ckp (k143 = 0 ∨ k143 = 1 ∨ k143 = 2 ∨ k143 = 3) <|
        lt_ ((if k143 = 0 then vp_updL z8 0 x144.toInt64 else z8)) fun z150 =>
        lt_ ((if k143 = 0 then (0 : Int32) else if k143 = 1 then 1 else if k143 = 2 then 2 else 3)) fun x151 =>
        ck ((nI (6 * i)) + 1) L <|
        ck ((nI (6 * i)) + 2) L <|
        ob4 (m9_bring N s9 sv11 q17 (xs ((nI (6 * i)) + 1).toNatClampNeg) (xs ((nI (6 * i)) + 2).toNatClampNeg)) fun x154 s155 sv156 q157 =>
        lt1 (m9_thrown q157) fun x159 =>
        if x159 = x151 then
          if x151 = 0 then
            ck 0 1 <|
            if (lg_cmp (z150 (0 : Int32).toNatClampNeg) (x154.toInt64)) = 0 then
              lt_ ((nI (6 * i)) + 6) fun x166 =>
              mL_law_L23 N L xs n x166 f145 g4 c5 y146 o147 z150 s155 u10 sv156 tx12 ow13 rs14 rn15 nu16 q157
            else
              some 0
          else
            lt_ ((nI (6 * i)) + 6) fun x163 =>
            mL_law_L23 N L xs n x163 f145 g4 c5 y146 o147 z150 s155 u10 sv156 tx12 ow13 rs14 rn15 nu16 q157
        else
          some 0
      ) = some 1 := by
  obtain ⟨k0, k1, k2, k3, k4, k5⟩ := lk hi hL
  obtain ⟨k, x, f', y', o', x9, s', sv', q', h1, h2, hC, hx, hS, hH, hq⟩ := P_bring (N := N) hI.1 hI.2.1 hN (xs (nI (6 * i) + 1).toNatClampNeg) (xs (nI (6 * i) + 2).toNatClampNeg)
  simp only [k1, k2, k3, k4, k5]
  rcases hC with ⟨k0, y0⟩ | ⟨k1, y1⟩ | ⟨k2, y2⟩ | ⟨k3, y3⟩
  · subst k0
    rw [h1, ob5_s, ckp_t (by decide), ltx_s, ltx_s, h2, ob4_s, lt1_s]
    rw [tailc (by unfold m9_thrown; rw [y0]; rfl) (fun _ => by rw [if_pos rfl, vL0, hx rfl]), ltx_s, e6]
    exact ih _ _ _ _ _ _ _ _ _ _ _ _ _ _ _ ⟨hS, hH, CM_q hI.2.2 hq⟩
  · subst k1
    rw [h1, ob5_s, ckp_t (by decide), ltx_s, ltx_s, h2, ob4_s, lt1_s]
    rw [tailc (by unfold m9_thrown; rw [y1]; rfl) (fun h => absurd h (by decide)), ltx_s, e6]
    exact ih _ _ _ _ _ _ _ _ _ _ _ _ _ _ _ ⟨hS, hH, CM_q hI.2.2 hq⟩
  · subst k2
    rw [h1, ob5_s, ckp_t (by decide), ltx_s, ltx_s, h2, ob4_s, lt1_s]
    rw [tailc (by unfold m9_thrown; rw [y2]; rfl) (fun h => absurd h (by decide)), ltx_s, e6]
    exact ih _ _ _ _ _ _ _ _ _ _ _ _ _ _ _ ⟨hS, hH, CM_q hI.2.2 hq⟩
  · subst k3
    rw [h1, ob5_s, ckp_t (by decide), ltx_s, ltx_s, h2, ob4_s, lt1_s]
    rw [tailc (by unfold m9_thrown; rw [y3]; rfl) (fun h => absurd h (by decide)), ltx_s, e6]
    exact ih _ _ _ _ _ _ _ _ _ _ _ _ _ _ _ ⟨hS, hH, CM_q hI.2.2 hq⟩
theorem LB_6 {f3 g4 c5 : bkA} {y6 : Nat → bkA} {o7 : Nat → Int32} {z8 : Nat → Int64} {s9 u10 sv11 tx12 ow13 : Nat → Int32} {rs14 : Nat → Int64} {rn15 nu16 q17 : Nat → Int32} (hI : LI f3 c5 y6 o7 s9 sv11 tx12 q17) (hi : 6 * i + 6 ≤ L) (hL : L ≤ 3072) (hN : 1100 < N) (ih : LG N L xs n i) : (
        ck ((nI (6 * i)) + 1) L <|
        ck ((nI (6 * i)) + 2) L <|
        ob5 (m8_stoke f3 y6 o7 (xs ((nI (6 * i)) + 1).toNatClampNeg) (xs ((nI (6 * i)) + 2).toNatClampNeg)) fun k169 x170 f171 y172 o173 =>
        ckp (k169 = 0 ∨ k169 = 1 ∨ k169 = 2 ∨ k169 = 3) <|
        lt_ ((if k169 = 0 then vp_updL z8 0 x170.toInt64 else z8)) fun z176 =>
        lt_ ((if k169 = 0 then (0 : Int32) else if k169 = 1 then 1 else if k169 = 2 then 2 else 3)) fun x177 =>
        ck ((nI (6 * i)) + 1) L <|
        ck ((nI (6 * i)) + 2) L <|
        ob4 (m9_stoke N s9 sv11 q17 (xs ((nI (6 * i)) + 1).toNatClampNeg) (xs ((nI (6 * i)) + 2).toNatClampNeg)) fun x180 s181 sv182 q183 =>
        lt1 (m9_thrown q183) fun x185 =>
        if x185 = x177 then
          if x177 = 0 then
            ck 0 1 <|
            if (lg_cmp (z176 (0 : Int32).toNatClampNeg) (x180.toInt64)) = 0 then
              lt_ ((nI (6 * i)) + 6) fun x192 =>
              mL_law_L23 N L xs n x192 f171 g4 c5 y172 o173 z176 s181 u10 sv182 tx12 ow13 rs14 rn15 nu16 q183
            else
              some 0
          else
            lt_ ((nI (6 * i)) + 6) fun x189 =>
            mL_law_L23 N L xs n x189 f171 g4 c5 y172 o173 z176 s181 u10 sv182 tx12 ow13 rs14 rn15 nu16 q183
        else
          some 0
      ) = some 1 := by
  obtain ⟨k0, k1, k2, k3, k4, k5⟩ := lk hi hL
  obtain ⟨k, x, f', y', o', x9, s', sv', q', h1, h2, hC, hx, hS, hH, hq⟩ := P_stoke (N := N) hI.1 hI.2.1 hN (xs (nI (6 * i) + 1).toNatClampNeg) (xs (nI (6 * i) + 2).toNatClampNeg)
  simp only [k1, k2, k3, k4, k5]
  rcases hC with ⟨k0, y0⟩ | ⟨k1, y1⟩ | ⟨k2, y2⟩ | ⟨k3, y3⟩
  · subst k0
    rw [h1, ob5_s, ckp_t (by decide), ltx_s, ltx_s, h2, ob4_s, lt1_s]
    rw [tailc (by unfold m9_thrown; rw [y0]; rfl) (fun _ => by rw [if_pos rfl, vL0, hx rfl]), ltx_s, e6]
    exact ih _ _ _ _ _ _ _ _ _ _ _ _ _ _ _ ⟨hS, hH, CM_q hI.2.2 hq⟩
  · subst k1
    rw [h1, ob5_s, ckp_t (by decide), ltx_s, ltx_s, h2, ob4_s, lt1_s]
    rw [tailc (by unfold m9_thrown; rw [y1]; rfl) (fun h => absurd h (by decide)), ltx_s, e6]
    exact ih _ _ _ _ _ _ _ _ _ _ _ _ _ _ _ ⟨hS, hH, CM_q hI.2.2 hq⟩
  · subst k2
    rw [h1, ob5_s, ckp_t (by decide), ltx_s, ltx_s, h2, ob4_s, lt1_s]
    rw [tailc (by unfold m9_thrown; rw [y2]; rfl) (fun h => absurd h (by decide)), ltx_s, e6]
    exact ih _ _ _ _ _ _ _ _ _ _ _ _ _ _ _ ⟨hS, hH, CM_q hI.2.2 hq⟩
  · subst k3
    rw [h1, ob5_s, ckp_t (by decide), ltx_s, ltx_s, h2, ob4_s, lt1_s]
    rw [tailc (by unfold m9_thrown; rw [y3]; rfl) (fun h => absurd h (by decide)), ltx_s, e6]
    exact ih _ _ _ _ _ _ _ _ _ _ _ _ _ _ _ ⟨hS, hH, CM_q hI.2.2 hq⟩
theorem LB_7 {f3 g4 c5 : bkA} {y6 : Nat → bkA} {o7 : Nat → Int32} {z8 : Nat → Int64} {s9 u10 sv11 tx12 ow13 : Nat → Int32} {rs14 : Nat → Int64} {rn15 nu16 q17 : Nat → Int32} (hI : LI f3 c5 y6 o7 s9 sv11 tx12 q17) (hi : 6 * i + 6 ≤ L) (hL : L ≤ 3072) (hN : 1100 < N) (ih : LG N L xs n i) : (
        ob4 (m8_settle N f3 y6 o7) fun x193 f194 y195 o196 =>
        ob6 (m9_settle N s9 sv11 ow13 rs14 q17) fun x198 s199 sv200 ow201 rs202 q203 =>
        if x193 = x198 then
          lt_ ((nI (6 * i)) + 6) fun x206 =>
          mL_law_L23 N L xs n x206 f194 g4 c5 y195 o196 z8 s199 u10 sv200 tx12 ow201 rs202 rn15 nu16 q203
        else
          some 0
      ) = some 1 := by
  obtain ⟨k0, k1, k2, k3, k4, k5⟩ := lk hi hL
  obtain ⟨x, f', y', o', s', sv', ow', rs', q', h1, h2, hS, hH, hq⟩ := P_settle (ow := ow13) (rs := rs14) (N := N) hI.1 hI.2.1 hN
  rw [h1, ob4_s, h2, ob6_s, if_pos rfl, ltx_s, e6]
  exact ih _ _ _ _ _ _ _ _ _ _ _ _ _ _ _ ⟨hS, hH, CM_q hI.2.2 hq⟩
theorem LB_8 {f3 g4 c5 : bkA} {y6 : Nat → bkA} {o7 : Nat → Int32} {z8 : Nat → Int64} {s9 u10 sv11 tx12 ow13 : Nat → Int32} {rs14 : Nat → Int64} {rn15 nu16 q17 : Nat → Int32} (hI : LI f3 c5 y6 o7 s9 sv11 tx12 q17) (hi : 6 * i + 6 ≤ L) (hL : L ≤ 3072) (hN : 1100 < N) (ih : LG N L xs n i) : (
        ck ((nI (6 * i)) + 1) L <|
        ob5 (m8_pass N f3 y6 o7 (xs ((nI (6 * i)) + 1).toNatClampNeg)) fun k208 x209 f210 y211 o212 =>
        ckp (k208 = 0 ∨ k208 = 2 ∨ k208 = 3) <|
        lt_ ((if k208 = 0 then vp_updL z8 0 x209.toInt64 else z8)) fun z215 =>
        lt_ ((if k208 = 0 then (0 : Int32) else if k208 = 2 then 1 else 2)) fun x216 =>
        ck ((nI (6 * i)) + 1) L <|
        ob4 (m9_pass N s9 sv11 q17 (xs ((nI (6 * i)) + 1).toNatClampNeg)) fun x218 s219 sv220 q221 =>
        lt1 (m9_thrown q221) fun x223 =>
        if x223 = x216 then
          if x216 = 0 then
            ck 0 1 <|
            if (lg_cmp (z215 (0 : Int32).toNatClampNeg) (x218.toInt64)) = 0 then
              lt_ ((nI (6 * i)) + 6) fun x230 =>
              mL_law_L23 N L xs n x230 f210 g4 c5 y211 o212 z215 s219 u10 sv220 tx12 ow13 rs14 rn15 nu16 q221
            else
              some 0
          else
            lt_ ((nI (6 * i)) + 6) fun x227 =>
            mL_law_L23 N L xs n x227 f210 g4 c5 y211 o212 z215 s219 u10 sv220 tx12 ow13 rs14 rn15 nu16 q221
        else
          some 0
      ) = some 1 := by
  obtain ⟨k0, k1, k2, k3, k4, k5⟩ := lk hi hL
  obtain ⟨k, x, f', y', o', x9, s', sv', q', h1, h2, hC, hx, hS, hH, hq⟩ := P_pass (N := N) hI.1 hI.2.1 hN (xs (nI (6 * i) + 1).toNatClampNeg)
  simp only [k1, k2, k3, k4, k5]
  rcases hC with ⟨k0, y0⟩ | ⟨k1, y1⟩ | ⟨k2, y2⟩
  · subst k0
    rw [h1, ob5_s, ckp_t (by decide), ltx_s, ltx_s, h2, ob4_s, lt1_s]
    rw [tailc (by unfold m9_thrown; rw [y0]; rfl) (fun _ => by rw [if_pos rfl, vL0, hx rfl]), ltx_s, e6]
    exact ih _ _ _ _ _ _ _ _ _ _ _ _ _ _ _ ⟨hS, hH, CM_q hI.2.2 hq⟩
  · subst k1
    rw [h1, ob5_s, ckp_t (by decide), ltx_s, ltx_s, h2, ob4_s, lt1_s]
    rw [tailc (by unfold m9_thrown; rw [y1]; rfl) (fun h => absurd h (by decide)), ltx_s, e6]
    exact ih _ _ _ _ _ _ _ _ _ _ _ _ _ _ _ ⟨hS, hH, CM_q hI.2.2 hq⟩
  · subst k2
    rw [h1, ob5_s, ckp_t (by decide), ltx_s, ltx_s, h2, ob4_s, lt1_s]
    rw [tailc (by unfold m9_thrown; rw [y2]; rfl) (fun h => absurd h (by decide)), ltx_s, e6]
    exact ih _ _ _ _ _ _ _ _ _ _ _ _ _ _ _ ⟨hS, hH, CM_q hI.2.2 hq⟩
theorem LB_9 {f3 g4 c5 : bkA} {y6 : Nat → bkA} {o7 : Nat → Int32} {z8 : Nat → Int64} {s9 u10 sv11 tx12 ow13 : Nat → Int32} {rs14 : Nat → Int64} {rn15 nu16 q17 : Nat → Int32} (hI : LI f3 c5 y6 o7 s9 sv11 tx12 q17) (hi : 6 * i + 6 ≤ L) (hL : L ≤ 3072) (hN : 1100 < N) (ih : LG N L xs n i) : (
        ck ((nI (6 * i)) + 1) L <|
        ck ((nI (6 * i)) + 2) L <|
        ob2 (m8_kind f3 (xs ((nI (6 * i)) + 1).toNatClampNeg) (xs ((nI (6 * i)) + 2).toNatClampNeg)) fun k233 x234 =>
        ckp (k233 = 0 ∨ k233 = 1 ∨ k233 = 2) <|
        lt_ ((if k233 = 0 then vp_updL z8 0 x234.toInt64 else z8)) fun z237 =>
        lt_ ((if k233 = 0 then (0 : Int32) else if k233 = 1 then 1 else 2)) fun x238 =>
        ck ((nI (6 * i)) + 1) L <|
        ck ((nI (6 * i)) + 2) L <|
        ob2 (m9_kind s9 q17 (xs ((nI (6 * i)) + 1).toNatClampNeg) (xs ((nI (6 * i)) + 2).toNatClampNeg)) fun x241 q242 =>
        lt1 (m9_thrown q242) fun x244 =>
        if x244 = x238 then
          if x238 = 0 then
            ck 0 1 <|
            if (lg_cmp (z237 (0 : Int32).toNatClampNeg) (x241.toInt64)) = 0 then
              lt_ ((nI (6 * i)) + 6) fun x251 =>
              mL_law_L23 N L xs n x251 f3 g4 c5 y6 o7 z237 s9 u10 sv11 tx12 ow13 rs14 rn15 nu16 q242
            else
              some 0
          else
            lt_ ((nI (6 * i)) + 6) fun x248 =>
            mL_law_L23 N L xs n x248 f3 g4 c5 y6 o7 z237 s9 u10 sv11 tx12 ow13 rs14 rn15 nu16 q242
        else
          some 0
      ) = some 1 := by
  obtain ⟨k0, k1, k2, k3, k4, k5⟩ := lk hi hL
  obtain ⟨k, x, x9, q', h1, h2, hC, hx, hq⟩ := P_kind (q := q17) hI.1 (xs (nI (6 * i) + 1).toNatClampNeg) (xs (nI (6 * i) + 2).toNatClampNeg)
  simp only [k1, k2, k3, k4, k5]
  rcases hC with ⟨k0, y0⟩ | ⟨k1, y1⟩ | ⟨k2, y2⟩
  · subst k0
    rw [h1, ob2_s, ckp_t (by decide), ltx_s, ltx_s, h2, ob2_s, lt1_s]
    rw [tailc (by unfold m9_thrown; rw [y0]; rfl) (fun _ => by rw [if_pos rfl, vL0, hx rfl]), ltx_s, e6]
    exact ih _ _ _ _ _ _ _ _ _ _ _ _ _ _ _ ⟨hI.1, HS_q hI.2.1 (hq 1 (by decide)), CM_q hI.2.2 (hq 2 (by decide))⟩
  · subst k1
    rw [h1, ob2_s, ckp_t (by decide), ltx_s, ltx_s, h2, ob2_s, lt1_s]
    rw [tailc (by unfold m9_thrown; rw [y1]; rfl) (fun h => absurd h (by decide)), ltx_s, e6]
    exact ih _ _ _ _ _ _ _ _ _ _ _ _ _ _ _ ⟨hI.1, HS_q hI.2.1 (hq 1 (by decide)), CM_q hI.2.2 (hq 2 (by decide))⟩
  · subst k2
    rw [h1, ob2_s, ckp_t (by decide), ltx_s, ltx_s, h2, ob2_s, lt1_s]
    rw [tailc (by unfold m9_thrown; rw [y2]; rfl) (fun h => absurd h (by decide)), ltx_s, e6]
    exact ih _ _ _ _ _ _ _ _ _ _ _ _ _ _ _ ⟨hI.1, HS_q hI.2.1 (hq 1 (by decide)), CM_q hI.2.2 (hq 2 (by decide))⟩
theorem LB_10 {f3 g4 c5 : bkA} {y6 : Nat → bkA} {o7 : Nat → Int32} {z8 : Nat → Int64} {s9 u10 sv11 tx12 ow13 : Nat → Int32} {rs14 : Nat → Int64} {rn15 nu16 q17 : Nat → Int32} (hI : LI f3 c5 y6 o7 s9 sv11 tx12 q17) (hi : 6 * i + 6 ≤ L) (hL : L ≤ 3072) (hN : 1100 < N) (ih : LG N L xs n i) : (
        ck ((nI (6 * i)) + 1) L <|
        ck ((nI (6 * i)) + 2) L <|
        ob2 (m8_house N f3 (xs ((nI (6 * i)) + 1).toNatClampNeg) (xs ((nI (6 * i)) + 2).toNatClampNeg)) fun k254 x255 =>
        ckp (k254 = 0 ∨ k254 = 1 ∨ k254 = 2) <|
        lt_ ((if k254 = 0 then vp_updL z8 0 x255.toInt64 else z8)) fun z258 =>
        lt_ ((if k254 = 0 then (0 : Int32) else if k254 = 1 then 1 else 2)) fun x259 =>
        ck ((nI (6 * i)) + 1) L <|
        ck ((nI (6 * i)) + 2) L <|
        ob2 (m9_house N s9 q17 (xs ((nI (6 * i)) + 1).toNatClampNeg) (xs ((nI (6 * i)) + 2).toNatClampNeg)) fun x262 q263 =>
        lt1 (m9_thrown q263) fun x265 =>
        if x265 = x259 then
          if x259 = 0 then
            ck 0 1 <|
            if (lg_cmp (z258 (0 : Int32).toNatClampNeg) (x262.toInt64)) = 0 then
              lt_ ((nI (6 * i)) + 6) fun x272 =>
              mL_law_L23 N L xs n x272 f3 g4 c5 y6 o7 z258 s9 u10 sv11 tx12 ow13 rs14 rn15 nu16 q263
            else
              some 0
          else
            lt_ ((nI (6 * i)) + 6) fun x269 =>
            mL_law_L23 N L xs n x269 f3 g4 c5 y6 o7 z258 s9 u10 sv11 tx12 ow13 rs14 rn15 nu16 q263
        else
          some 0
      ) = some 1 := by
  obtain ⟨k0, k1, k2, k3, k4, k5⟩ := lk hi hL
  obtain ⟨k, x, x9, q', h1, h2, hC, hx, hq⟩ := P_house (q := q17) (N := N) hI.1 (by omega) (xs (nI (6 * i) + 1).toNatClampNeg) (xs (nI (6 * i) + 2).toNatClampNeg)
  simp only [k1, k2, k3, k4, k5]
  rcases hC with ⟨k0, y0⟩ | ⟨k1, y1⟩ | ⟨k2, y2⟩
  · subst k0
    rw [h1, ob2_s, ckp_t (by decide), ltx_s, ltx_s, h2, ob2_s, lt1_s]
    rw [tailc (by unfold m9_thrown; rw [y0]; rfl) (fun _ => by rw [if_pos rfl, vL0, hx rfl]), ltx_s, e6]
    exact ih _ _ _ _ _ _ _ _ _ _ _ _ _ _ _ ⟨hI.1, HS_q hI.2.1 (hq 1 (by decide)), CM_q hI.2.2 (hq 2 (by decide))⟩
  · subst k1
    rw [h1, ob2_s, ckp_t (by decide), ltx_s, ltx_s, h2, ob2_s, lt1_s]
    rw [tailc (by unfold m9_thrown; rw [y1]; rfl) (fun h => absurd h (by decide)), ltx_s, e6]
    exact ih _ _ _ _ _ _ _ _ _ _ _ _ _ _ _ ⟨hI.1, HS_q hI.2.1 (hq 1 (by decide)), CM_q hI.2.2 (hq 2 (by decide))⟩
  · subst k2
    rw [h1, ob2_s, ckp_t (by decide), ltx_s, ltx_s, h2, ob2_s, lt1_s]
    rw [tailc (by unfold m9_thrown; rw [y2]; rfl) (fun h => absurd h (by decide)), ltx_s, e6]
    exact ih _ _ _ _ _ _ _ _ _ _ _ _ _ _ _ ⟨hI.1, HS_q hI.2.1 (hq 1 (by decide)), CM_q hI.2.2 (hq 2 (by decide))⟩
theorem LB_11 {f3 g4 c5 : bkA} {y6 : Nat → bkA} {o7 : Nat → Int32} {z8 : Nat → Int64} {s9 u10 sv11 tx12 ow13 : Nat → Int32} {rs14 : Nat → Int64} {rn15 nu16 q17 : Nat → Int32} (hI : LI f3 c5 y6 o7 s9 sv11 tx12 q17) (hi : 6 * i + 6 ≤ L) (hL : L ≤ 3072) (hN : 1100 < N) (ih : LG N L xs n i) : (
        ck ((nI (6 * i)) + 1) L <|
        ck ((nI (6 * i)) + 2) L <|
        ob2 (m8_dough N f3 (xs ((nI (6 * i)) + 1).toNatClampNeg) (xs ((nI (6 * i)) + 2).toNatClampNeg)) fun k275 x276 =>
        ckp (k275 = 0 ∨ k275 = 1 ∨ k275 = 2) <|
        lt_ ((if k275 = 0 then vp_updL z8 0 x276.toInt64 else z8)) fun z279 =>
        lt_ ((if k275 = 0 then (0 : Int32) else if k275 = 1 then 1 else 2)) fun x280 =>
        ck ((nI (6 * i)) + 1) L <|
        ck ((nI (6 * i)) + 2) L <|
        ob2 (m9_dough N s9 q17 (xs ((nI (6 * i)) + 1).toNatClampNeg) (xs ((nI (6 * i)) + 2).toNatClampNeg)) fun x283 q284 =>
        lt1 (m9_thrown q284) fun x286 =>
        if x286 = x280 then
          if x280 = 0 then
            ck 0 1 <|
            if (lg_cmp (z279 (0 : Int32).toNatClampNeg) (x283.toInt64)) = 0 then
              lt_ ((nI (6 * i)) + 6) fun x293 =>
              mL_law_L23 N L xs n x293 f3 g4 c5 y6 o7 z279 s9 u10 sv11 tx12 ow13 rs14 rn15 nu16 q284
            else
              some 0
          else
            lt_ ((nI (6 * i)) + 6) fun x290 =>
            mL_law_L23 N L xs n x290 f3 g4 c5 y6 o7 z279 s9 u10 sv11 tx12 ow13 rs14 rn15 nu16 q284
        else
          some 0
      ) = some 1 := by
  obtain ⟨k0, k1, k2, k3, k4, k5⟩ := lk hi hL
  obtain ⟨k, x, x9, q', h1, h2, hC, hx, hq⟩ := P_dough (q := q17) (N := N) hI.1 (by omega) (xs (nI (6 * i) + 1).toNatClampNeg) (xs (nI (6 * i) + 2).toNatClampNeg)
  simp only [k1, k2, k3, k4, k5]
  rcases hC with ⟨k0, y0⟩ | ⟨k1, y1⟩ | ⟨k2, y2⟩
  · subst k0
    rw [h1, ob2_s, ckp_t (by decide), ltx_s, ltx_s, h2, ob2_s, lt1_s]
    rw [tailc (by unfold m9_thrown; rw [y0]; rfl) (fun _ => by rw [if_pos rfl, vL0, hx rfl]), ltx_s, e6]
    exact ih _ _ _ _ _ _ _ _ _ _ _ _ _ _ _ ⟨hI.1, HS_q hI.2.1 (hq 1 (by decide)), CM_q hI.2.2 (hq 2 (by decide))⟩
  · subst k1
    rw [h1, ob2_s, ckp_t (by decide), ltx_s, ltx_s, h2, ob2_s, lt1_s]
    rw [tailc (by unfold m9_thrown; rw [y1]; rfl) (fun h => absurd h (by decide)), ltx_s, e6]
    exact ih _ _ _ _ _ _ _ _ _ _ _ _ _ _ _ ⟨hI.1, HS_q hI.2.1 (hq 1 (by decide)), CM_q hI.2.2 (hq 2 (by decide))⟩
  · subst k2
    rw [h1, ob2_s, ckp_t (by decide), ltx_s, ltx_s, h2, ob2_s, lt1_s]
    rw [tailc (by unfold m9_thrown; rw [y2]; rfl) (fun h => absurd h (by decide)), ltx_s, e6]
    exact ih _ _ _ _ _ _ _ _ _ _ _ _ _ _ _ ⟨hI.1, HS_q hI.2.1 (hq 1 (by decide)), CM_q hI.2.2 (hq 2 (by decide))⟩
theorem LB_12 {f3 g4 c5 : bkA} {y6 : Nat → bkA} {o7 : Nat → Int32} {z8 : Nat → Int64} {s9 u10 sv11 tx12 ow13 : Nat → Int32} {rs14 : Nat → Int64} {rn15 nu16 q17 : Nat → Int32} (hI : LI f3 c5 y6 o7 s9 sv11 tx12 q17) (hi : 6 * i + 6 ≤ L) (hL : L ≤ 3072) (hN : 1100 < N) (ih : LG N L xs n i) : (
        ck ((nI (6 * i)) + 1) L <|
        ck ((nI (6 * i)) + 2) L <|
        ob2 (m8_place f3 (xs ((nI (6 * i)) + 1).toNatClampNeg) (xs ((nI (6 * i)) + 2).toNatClampNeg)) fun k296 x297 =>
        ckp (k296 = 0 ∨ k296 = 1 ∨ k296 = 2) <|
        lt_ ((if k296 = 0 then vp_updL z8 0 x297.toInt64 else z8)) fun z300 =>
        lt_ ((if k296 = 0 then (0 : Int32) else if k296 = 1 then 1 else 2)) fun x301 =>
        ck ((nI (6 * i)) + 1) L <|
        ck ((nI (6 * i)) + 2) L <|
        ob2 (m9_place s9 q17 (xs ((nI (6 * i)) + 1).toNatClampNeg) (xs ((nI (6 * i)) + 2).toNatClampNeg)) fun x304 q305 =>
        lt1 (m9_thrown q305) fun x307 =>
        if x307 = x301 then
          if x301 = 0 then
            ck 0 1 <|
            if (lg_cmp (z300 (0 : Int32).toNatClampNeg) (x304.toInt64)) = 0 then
              lt_ ((nI (6 * i)) + 6) fun x314 =>
              mL_law_L23 N L xs n x314 f3 g4 c5 y6 o7 z300 s9 u10 sv11 tx12 ow13 rs14 rn15 nu16 q305
            else
              some 0
          else
            lt_ ((nI (6 * i)) + 6) fun x311 =>
            mL_law_L23 N L xs n x311 f3 g4 c5 y6 o7 z300 s9 u10 sv11 tx12 ow13 rs14 rn15 nu16 q305
        else
          some 0
      ) = some 1 := by
  obtain ⟨k0, k1, k2, k3, k4, k5⟩ := lk hi hL
  obtain ⟨k, x, x9, q', h1, h2, hC, hx, hq⟩ := P_place (q := q17) hI.1 (xs (nI (6 * i) + 1).toNatClampNeg) (xs (nI (6 * i) + 2).toNatClampNeg)
  simp only [k1, k2, k3, k4, k5]
  rcases hC with ⟨k0, y0⟩ | ⟨k1, y1⟩ | ⟨k2, y2⟩
  · subst k0
    rw [h1, ob2_s, ckp_t (by decide), ltx_s, ltx_s, h2, ob2_s, lt1_s]
    rw [tailc (by unfold m9_thrown; rw [y0]; rfl) (fun _ => by rw [if_pos rfl, vL0, hx rfl]), ltx_s, e6]
    exact ih _ _ _ _ _ _ _ _ _ _ _ _ _ _ _ ⟨hI.1, HS_q hI.2.1 (hq 1 (by decide)), CM_q hI.2.2 (hq 2 (by decide))⟩
  · subst k1
    rw [h1, ob2_s, ckp_t (by decide), ltx_s, ltx_s, h2, ob2_s, lt1_s]
    rw [tailc (by unfold m9_thrown; rw [y1]; rfl) (fun h => absurd h (by decide)), ltx_s, e6]
    exact ih _ _ _ _ _ _ _ _ _ _ _ _ _ _ _ ⟨hI.1, HS_q hI.2.1 (hq 1 (by decide)), CM_q hI.2.2 (hq 2 (by decide))⟩
  · subst k2
    rw [h1, ob2_s, ckp_t (by decide), ltx_s, ltx_s, h2, ob2_s, lt1_s]
    rw [tailc (by unfold m9_thrown; rw [y2]; rfl) (fun h => absurd h (by decide)), ltx_s, e6]
    exact ih _ _ _ _ _ _ _ _ _ _ _ _ _ _ _ ⟨hI.1, HS_q hI.2.1 (hq 1 (by decide)), CM_q hI.2.2 (hq 2 (by decide))⟩
end LAWK
