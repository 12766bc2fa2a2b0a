/-! the law's loop answers 1, call by call (2) -/
section LAWK
variable {N L : Nat} {xs : Nat → Int32} {n i : Nat}
theorem LB_13 {f3 g4 c5 : bkA} {y6 : Nat → bkA} {o7 : Nat → Int32} {z8 : Nat → Int64} {s9 u10 sv11 tx12 ow13 : Nat → Int32} {rs14 : Nat → Int64} {rn15 nu16 q17 : Nat → Int32} (hI : LI f3 c5 y6 o7 s9 sv11 tx12 q17) (hi : 6 * i + 6 ≤ L) (hL : L ≤ 3072) (hN : 1100 < N) (ih : LG N L xs n i) : (
        ck ((nI (6 * i)) + 1) L <|
        ob2 (m8_whole N f3 c5 (xs ((nI (6 * i)) + 1).toNatClampNeg)) fun k316 x317 =>
        ckp (k316 = 0 ∨ k316 = 2) <|
        lt_ ((if k316 = 0 then vp_updL z8 0 x317.toInt64 else z8)) fun z320 =>
        lt_ ((if k316 = 0 then (0 : Int32) else 1)) fun x321 =>
        ck ((nI (6 * i)) + 1) L <|
        ob2 (m9_whole N s9 q17 (xs ((nI (6 * i)) + 1).toNatClampNeg)) fun x323 q324 =>
        lt1 (m9_thrown q324) fun x326 =>
        if x326 = x321 then
          if x321 = 0 then
            ck 0 1 <|
            if (lg_cmp (z320 (0 : Int32).toNatClampNeg) (x323.toInt64)) = 0 then
              lt_ ((nI (6 * i)) + 6) fun x333 =>
              mL_law_L23 N L xs n x333 f3 g4 c5 y6 o7 z320 s9 u10 sv11 tx12 ow13 rs14 rn15 nu16 q324
            else
              some 0
          else
            lt_ ((nI (6 * i)) + 6) fun x330 =>
            mL_law_L23 N L xs n x330 f3 g4 c5 y6 o7 z320 s9 u10 sv11 tx12 ow13 rs14 rn15 nu16 q324
        else
          some 0
      ) = some 1 := by
  obtain ⟨k0, k1, k2, k3, k4, k5⟩ := lk hi hL
  obtain ⟨k, x, x9, q', h1, h2, hC, hx, hq⟩ := P_whole (q := q17) (N := N) hI.1 hI.2.2 (by omega) (xs (nI (6 * i) + 1).toNatClampNeg)
  simp only [k1, k2, k3, k4, k5]
  rcases hC with ⟨k0, y0⟩ | ⟨k1, y1⟩
  · subst k0
    rw [h1, ob2_s, ckp_t (by decide), ltx_s, ltx_s, h2, ob2_s, lt1_s]
    rw [tailc (by unfold m9_thrown; rw [y0]; rfl) (fun _ => by rw [if_pos rfl, vL0, hx rfl]), ltx_s, e6]
    exact ih _ _ _ _ _ _ _ _ _ _ _ _ _ _ _ ⟨hI.1, HS_q hI.2.1 (hq 1 (by decide)), CM_q hI.2.2 (hq 2 (by decide))⟩
  · subst k1
    rw [h1, ob2_s, ckp_t (by decide), ltx_s, ltx_s, h2, ob2_s, lt1_s]
    rw [tailc (by unfold m9_thrown; rw [y1]; rfl) (fun h => absurd h (by decide)), ltx_s, e6]
    exact ih _ _ _ _ _ _ _ _ _ _ _ _ _ _ _ ⟨hI.1, HS_q hI.2.1 (hq 1 (by decide)), CM_q hI.2.2 (hq 2 (by decide))⟩
theorem LB_14 {f3 g4 c5 : bkA} {y6 : Nat → bkA} {o7 : Nat → Int32} {z8 : Nat → Int64} {s9 u10 sv11 tx12 ow13 : Nat → Int32} {rs14 : Nat → Int64} {rn15 nu16 q17 : Nat → Int32} (hI : LI f3 c5 y6 o7 s9 sv11 tx12 q17) (hi : 6 * i + 6 ≤ L) (hL : L ≤ 3072) (hN : 1100 < N) (ih : LG N L xs n i) : (
        ck ((nI (6 * i)) + 1) L <|
        ob2 (m8_line f3 (xs ((nI (6 * i)) + 1).toNatClampNeg)) fun k335 x336 =>
        ckp (k335 = 0 ∨ k335 = 2) <|
        lt_ ((if k335 = 0 then vp_updL z8 0 x336.toInt64 else z8)) fun z339 =>
        lt_ ((if k335 = 0 then (0 : Int32) else 1)) fun x340 =>
        ck ((nI (6 * i)) + 1) L <|
        ob2 (m9_line s9 q17 (xs ((nI (6 * i)) + 1).toNatClampNeg)) fun x342 q343 =>
        lt1 (m9_thrown q343) fun x345 =>
        if x345 = x340 then
          if x340 = 0 then
            ck 0 1 <|
            if (lg_cmp (z339 (0 : Int32).toNatClampNeg) (x342.toInt64)) = 0 then
              lt_ ((nI (6 * i)) + 6) fun x352 =>
              mL_law_L23 N L xs n x352 f3 g4 c5 y6 o7 z339 s9 u10 sv11 tx12 ow13 rs14 rn15 nu16 q343
            else
              some 0
          else
            lt_ ((nI (6 * i)) + 6) fun x349 =>
            mL_law_L23 N L xs n x349 f3 g4 c5 y6 o7 z339 s9 u10 sv11 tx12 ow13 rs14 rn15 nu16 q343
        else
          some 0
      ) = some 1 := by
  obtain ⟨k0, k1, k2, k3, k4, k5⟩ := lk hi hL
  obtain ⟨k, x, x9, q', h1, h2, hC, hx, hq⟩ := P_line (q := q17) hI.1 (xs (nI (6 * i) + 1).toNatClampNeg)
  simp only [k1, k2, k3, k4, k5]
  rcases hC with ⟨k0, y0⟩ | ⟨k1, y1⟩
  · subst k0
    rw [h1, ob2_s, ckp_t (by decide), ltx_s, ltx_s, h2, ob2_s, lt1_s]
    rw [tailc (by unfold m9_thrown; rw [y0]; rfl) (fun _ => by rw [if_pos rfl, vL0, hx rfl]), ltx_s, e6]
    exact ih _ _ _ _ _ _ _ _ _ _ _ _ _ _ _ ⟨hI.1, HS_q hI.2.1 (hq 1 (by decide)), CM_q hI.2.2 (hq 2 (by decide))⟩
  · subst k1
    rw [h1, ob2_s, ckp_t (by decide), ltx_s, ltx_s, h2, ob2_s, lt1_s]
    rw [tailc (by unfold m9_thrown; rw [y1]; rfl) (fun h => absurd h (by decide)), ltx_s, e6]
    exact ih _ _ _ _ _ _ _ _ _ _ _ _ _ _ _ ⟨hI.1, HS_q hI.2.1 (hq 1 (by decide)), CM_q hI.2.2 (hq 2 (by decide))⟩
theorem LB_15 {f3 g4 c5 : bkA} {y6 : Nat → bkA} {o7 : Nat → Int32} {z8 : Nat → Int64} {s9 u10 sv11 tx12 ow13 : Nat → Int32} {rs14 : Nat → Int64} {rn15 nu16 q17 : Nat → Int32} (hI : LI f3 c5 y6 o7 s9 sv11 tx12 q17) (hi : 6 * i + 6 ≤ L) (hL : L ≤ 3072) (hN : 1100 < N) (ih : LG N L xs n i) : (
        ck ((nI (6 * i)) + 1) L <|
        ob2 (m8_reason N f3 (xs ((nI (6 * i)) + 1).toNatClampNeg)) fun k354 x355 =>
        ckp (k354 = 0 ∨ k354 = 1) <|
        lt_ ((if k354 = 0 then vp_updL z8 0 x355.toInt64 else z8)) fun z358 =>
        lt_ ((if k354 = 0 then (0 : Int32) else 1)) fun x359 =>
        ck ((nI (6 * i)) + 1) L <|
        ob2 (m9_reason N s9 q17 (xs ((nI (6 * i)) + 1).toNatClampNeg)) fun x361 q362 =>
        lt1 (m9_thrown q362) fun x364 =>
        if x364 = x359 then
          if x359 = 0 then
            ck 0 1 <|
            if (lg_cmp (z358 (0 : Int32).toNatClampNeg) (x361.toInt64)) = 0 then
              lt_ ((nI (6 * i)) + 6) fun x371 =>
              mL_law_L23 N L xs n x371 f3 g4 c5 y6 o7 z358 s9 u10 sv11 tx12 ow13 rs14 rn15 nu16 q362
            else
              some 0
          else
            lt_ ((nI (6 * i)) + 6) fun x368 =>
            mL_law_L23 N L xs n x368 f3 g4 c5 y6 o7 z358 s9 u10 sv11 tx12 ow13 rs14 rn15 nu16 q362
        else
          some 0
      ) = some 1 := by
  obtain ⟨k0, k1, k2, k3, k4, k5⟩ := lk hi hL
  obtain ⟨k, x, x9, q', h1, h2, hC, hx, hq⟩ := P_reason (q := q17) (N := N) hI.1 (by omega) (xs (nI (6 * i) + 1).toNatClampNeg)
  simp only [k1, k2, k3, k4, k5]
  rcases hC with ⟨k0, y0⟩ | ⟨k1, y1⟩
  · subst k0
    rw [h1, ob2_s, ckp_t (by decide), ltx_s, ltx_s, h2, ob2_s, lt1_s]
    rw [tailc (by unfold m9_thrown; rw [y0]; rfl) (fun _ => by rw [if_pos rfl, vL0, hx rfl]), ltx_s, e6]
    exact ih _ _ _ _ _ _ _ _ _ _ _ _ _ _ _ ⟨hI.1, HS_q hI.2.1 (hq 1 (by decide)), CM_q hI.2.2 (hq 2 (by decide))⟩
  · subst k1
    rw [h1, ob2_s, ckp_t (by decide), ltx_s, ltx_s, h2, ob2_s, lt1_s]
    rw [tailc (by unfold m9_thrown; rw [y1]; rfl) (fun h => absurd h (by decide)), ltx_s, e6]
    exact ih _ _ _ _ _ _ _ _ _ _ _ _ _ _ _ ⟨hI.1, HS_q hI.2.1 (hq 1 (by decide)), CM_q hI.2.2 (hq 2 (by decide))⟩
theorem LB_16 {f3 g4 c5 : bkA} {y6 : Nat → bkA} {o7 : Nat → Int32} {z8 : Nat → Int64} {s9 u10 sv11 tx12 ow13 : Nat → Int32} {rs14 : Nat → Int64} {rn15 nu16 q17 : Nat → Int32} (hI : LI f3 c5 y6 o7 s9 sv11 tx12 q17) (hi : 6 * i + 6 ≤ L) (hL : L ≤ 3072) (hN : 1100 < N) (ih : LG N L xs n i) : (
        ck ((nI (6 * i)) + 1) L <|
        ob3 (m8_loadedIn N f3 g4 (xs ((nI (6 * i)) + 1).toNatClampNeg)) fun k373 x374 g375 =>
        ckp (k373 = 0 ∨ k373 = 1) <|
        lt_ ((if k373 = 0 then vp_updL z8 0 x374.toInt64 else z8)) fun z378 =>
        lt_ ((if k373 = 0 then (0 : Int32) else 1)) fun x379 =>
        ck ((nI (6 * i)) + 1) L <|
        ob3 (m9_loadedIn N s9 u10 q17 (xs ((nI (6 * i)) + 1).toNatClampNeg)) fun x381 u382 q383 =>
        lt1 (m9_thrown q383) fun x385 =>
        if x385 = x379 then
          if x379 = 0 then
            ck 0 1 <|
            if (lg_cmp (z378 (0 : Int32).toNatClampNeg) (x381.toInt64)) = 0 then
              lt_ ((nI (6 * i)) + 6) fun x392 =>
              mL_law_L23 N L xs n x392 f3 g375 c5 y6 o7 z378 s9 u382 sv11 tx12 ow13 rs14 rn15 nu16 q383
            else
              some 0
          else
            lt_ ((nI (6 * i)) + 6) fun x389 =>
            mL_law_L23 N L xs n x389 f3 g375 c5 y6 o7 z378 s9 u382 sv11 tx12 ow13 rs14 rn15 nu16 q383
        else
          some 0
      ) = some 1 := by
  obtain ⟨k0, k1, k2, k3, k4, k5⟩ := lk hi hL
  obtain ⟨k, x, g', x9, u', q', h1, h2, hC, hx, hq⟩ := P_loadedIn (q := q17) (g := g4) (u := u10) (N := N) hI.1 (by omega) (xs (nI (6 * i) + 1).toNatClampNeg)
  simp only [k1, k2, k3, k4, k5]
  rcases hC with ⟨k0, y0⟩ | ⟨k1, y1⟩
  · subst k0
    rw [h1, ob3_s, ckp_t (by decide), ltx_s, ltx_s, h2, ob3_s, lt1_s]
    rw [tailc (by unfold m9_thrown; rw [y0]; rfl) (fun _ => by rw [if_pos rfl, vL0, hx rfl]), ltx_s, e6]
    exact ih _ _ _ _ _ _ _ _ _ _ _ _ _ _ _ ⟨hI.1, HS_q hI.2.1 (hq 1 (by decide)), CM_q hI.2.2 (hq 2 (by decide))⟩
  · subst k1
    rw [h1, ob3_s, ckp_t (by decide), ltx_s, ltx_s, h2, ob3_s, lt1_s]
    rw [tailc (by unfold m9_thrown; rw [y1]; rfl) (fun h => absurd h (by decide)), ltx_s, e6]
    exact ih _ _ _ _ _ _ _ _ _ _ _ _ _ _ _ ⟨hI.1, HS_q hI.2.1 (hq 1 (by decide)), CM_q hI.2.2 (hq 2 (by decide))⟩
theorem LB_17 {f3 g4 c5 : bkA} {y6 : Nat → bkA} {o7 : Nat → Int32} {z8 : Nat → Int64} {s9 u10 sv11 tx12 ow13 : Nat → Int32} {rs14 : Nat → Int64} {rn15 nu16 q17 : Nat → Int32} (hI : LI f3 c5 y6 o7 s9 sv11 tx12 q17) (hi : 6 * i + 6 ≤ L) (hL : L ≤ 3072) (hN : 1100 < N) (ih : LG N L xs n i) : (
        ck ((nI (6 * i)) + 1) L <|
        ob2 (m8_neededLogs N f3 (xs ((nI (6 * i)) + 1).toNatClampNeg)) fun k394 x395 =>
        ckp (k394 = 0 ∨ k394 = 1) <|
        lt_ ((if k394 = 0 then vp_updL z8 0 x395.toInt64 else z8)) fun z398 =>
        lt_ ((if k394 = 0 then (0 : Int32) else 1)) fun x399 =>
        ck ((nI (6 * i)) + 1) L <|
        ob3 (m9_neededLogs N s9 u10 q17 (xs ((nI (6 * i)) + 1).toNatClampNeg)) fun x401 u402 q403 =>
        lt1 (m9_thrown q403) fun x405 =>
        if x405 = x399 then
          if x399 = 0 then
            ck 0 1 <|
            if (lg_cmp (z398 (0 : Int32).toNatClampNeg) (x401.toInt64)) = 0 then
              lt_ ((nI (6 * i)) + 6) fun x412 =>
              mL_law_L23 N L xs n x412 f3 g4 c5 y6 o7 z398 s9 u402 sv11 tx12 ow13 rs14 rn15 nu16 q403
            else
              some 0
          else
            lt_ ((nI (6 * i)) + 6) fun x409 =>
            mL_law_L23 N L xs n x409 f3 g4 c5 y6 o7 z398 s9 u402 sv11 tx12 ow13 rs14 rn15 nu16 q403
        else
          some 0
      ) = some 1 := by
  obtain ⟨k0, k1, k2, k3, k4, k5⟩ := lk hi hL
  obtain ⟨k, x, x9, u', q', h1, h2, hC, hx, hq⟩ := P_neededLogs (q := q17) (u := u10) (N := N) hI.1 (by omega) (xs (nI (6 * i) + 1).toNatClampNeg)
  simp only [k1, k2, k3, k4, k5]
  rcases hC with ⟨k0, y0⟩ | ⟨k1, y1⟩
  · subst k0
    rw [h1, ob2_s, ckp_t (by decide), ltx_s, ltx_s, h2, ob3_s, lt1_s]
    rw [tailc (by unfold m9_thrown; rw [y0]; rfl) (fun _ => by rw [if_pos rfl, vL0, hx rfl]), ltx_s, e6]
    exact ih _ _ _ _ _ _ _ _ _ _ _ _ _ _ _ ⟨hI.1, HS_q hI.2.1 (hq 1 (by decide)), CM_q hI.2.2 (hq 2 (by decide))⟩
  · subst k1
    rw [h1, ob2_s, ckp_t (by decide), ltx_s, ltx_s, h2, ob3_s, lt1_s]
    rw [tailc (by unfold m9_thrown; rw [y1]; rfl) (fun h => absurd h (by decide)), ltx_s, e6]
    exact ih _ _ _ _ _ _ _ _ _ _ _ _ _ _ _ ⟨hI.1, HS_q hI.2.1 (hq 1 (by decide)), CM_q hI.2.2 (hq 2 (by decide))⟩
theorem LB_18 {f3 g4 c5 : bkA} {y6 : Nat → bkA} {o7 : Nat → Int32} {z8 : Nat → Int64} {s9 u10 sv11 tx12 ow13 : Nat → Int32} {rs14 : Nat → Int64} {rn15 nu16 q17 : Nat → Int32} (hI : LI f3 c5 y6 o7 s9 sv11 tx12 q17) (hi : 6 * i + 6 ≤ L) (hL : L ≤ 3072) (hN : 1100 < N) (ih : LG N L xs n i) : (
        ck ((nI (6 * i)) + 1) L <|
        ob3 (m8_heatIn N f3 g4 (xs ((nI (6 * i)) + 1).toNatClampNeg)) fun k414 x415 g416 =>
        ckp (k414 = 0 ∨ k414 = 2) <|
        lt_ ((if k414 = 0 then vp_updL z8 0 x415.toInt64 else z8)) fun z419 =>
        lt_ ((if k414 = 0 then (0 : Int32) else 1)) fun x420 =>
        ck ((nI (6 * i)) + 1) L <|
        ob3 (m9_heatIn N s9 u10 q17 (xs ((nI (6 * i)) + 1).toNatClampNeg)) fun x422 u423 q424 =>
        lt1 (m9_thrown q424) fun x426 =>
        if x426 = x420 then
          if x420 = 0 then
            ck 0 1 <|
            if (lg_cmp (z419 (0 : Int32).toNatClampNeg) (x422.toInt64)) = 0 then
              lt_ ((nI (6 * i)) + 6) fun x433 =>
              mL_law_L23 N L xs n x433 f3 g416 c5 y6 o7 z419 s9 u423 sv11 tx12 ow13 rs14 rn15 nu16 q424
            else
              some 0
          else
            lt_ ((nI (6 * i)) + 6) fun x430 =>
            mL_law_L23 N L xs n x430 f3 g416 c5 y6 o7 z419 s9 u423 sv11 tx12 ow13 rs14 rn15 nu16 q424
        else
          some 0
      ) = some 1 := by
  obtain ⟨k0, k1, k2, k3, k4, k5⟩ := lk hi hL
  obtain ⟨k, x, g', x9, u', q', h1, h2, hC, hx, hq⟩ := P_heatIn (q := q17) (g := g4) (u := u10) (N := N) hI.1 (by omega) (xs (nI (6 * i) + 1).toNatClampNeg)
  simp only [k1, k2, k3, k4, k5]
  rcases hC with ⟨k0, y0⟩ | ⟨k1, y1⟩
  · subst k0
    rw [h1, ob3_s, ckp_t (by decide), ltx_s, ltx_s, h2, ob3_s, lt1_s]
    rw [tailc (by unfold m9_thrown; rw [y0]; rfl) (fun _ => by rw [if_pos rfl, vL0, hx rfl]), ltx_s, e6]
    exact ih _ _ _ _ _ _ _ _ _ _ _ _ _ _ _ ⟨hI.1, HS_q hI.2.1 (hq 1 (by decide)), CM_q hI.2.2 (hq 2 (by decide))⟩
  · subst k1
    rw [h1, ob3_s, ckp_t (by decide), ltx_s, ltx_s, h2, ob3_s, lt1_s]
    rw [tailc (by unfold m9_thrown; rw [y1]; rfl) (fun h => absurd h (by decide)), ltx_s, e6]
    exact ih _ _ _ _ _ _ _ _ _ _ _ _ _ _ _ ⟨hI.1, HS_q hI.2.1 (hq 1 (by decide)), CM_q hI.2.2 (hq 2 (by decide))⟩
theorem LB_19 {f3 g4 c5 : bkA} {y6 : Nat → bkA} {o7 : Nat → Int32} {z8 : Nat → Int64} {s9 u10 sv11 tx12 ow13 : Nat → Int32} {rs14 : Nat → Int64} {rn15 nu16 q17 : Nat → Int32} (hI : LI f3 c5 y6 o7 s9 sv11 tx12 q17) (hi : 6 * i + 6 ≤ L) (hL : L ≤ 3072) (hN : 1100 < N) (ih : LG N L xs n i) : (
        ck ((nI (6 * i)) + 1) L <|
        ob3 (m8_spoiledIn N f3 g4 (xs ((nI (6 * i)) + 1).toNatClampNeg)) fun k435 x436 g437 =>
        ckp (k435 = 0 ∨ k435 = 2) <|
        lt_ ((if k435 = 0 then vp_updL z8 0 x436.toInt64 else z8)) fun z440 =>
        lt_ ((if k435 = 0 then (0 : Int32) else 1)) fun x441 =>
        ck ((nI (6 * i)) + 1) L <|
        ob3 (m9_spoiledIn N s9 u10 q17 (xs ((nI (6 * i)) + 1).toNatClampNeg)) fun x443 u444 q445 =>
        lt1 (m9_thrown q445) fun x447 =>
        if x447 = x441 then
          if x441 = 0 then
            ck 0 1 <|
            if (lg_cmp (z440 (0 : Int32).toNatClampNeg) (x443.toInt64)) = 0 then
              lt_ ((nI (6 * i)) + 6) fun x454 =>
              mL_law_L23 N L xs n x454 f3 g437 c5 y6 o7 z440 s9 u444 sv11 tx12 ow13 rs14 rn15 nu16 q445
            else
              some 0
          else
            lt_ ((nI (6 * i)) + 6) fun x451 =>
            mL_law_L23 N L xs n x451 f3 g437 c5 y6 o7 z440 s9 u444 sv11 tx12 ow13 rs14 rn15 nu16 q445
        else
          some 0
      ) = some 1 := by
  obtain ⟨k0, k1, k2, k3, k4, k5⟩ := lk hi hL
  obtain ⟨k, x, g', x9, u', q', h1, h2, hC, hx, hq⟩ := P_spoiledIn (q := q17) (g := g4) (u := u10) (N := N) hI.1 (by omega) (xs (nI (6 * i) + 1).toNatClampNeg)
  simp only [k1, k2, k3, k4, k5]
  rcases hC with ⟨k0, y0⟩ | ⟨k1, y1⟩
  · subst k0
    rw [h1, ob3_s, ckp_t (by decide), ltx_s, ltx_s, h2, ob3_s, lt1_s]
    rw [tailc (by unfold m9_thrown; rw [y0]; rfl) (fun _ => by rw [if_pos rfl, vL0, hx rfl]), ltx_s, e6]
    exact ih _ _ _ _ _ _ _ _ _ _ _ _ _ _ _ ⟨hI.1, HS_q hI.2.1 (hq 1 (by decide)), CM_q hI.2.2 (hq 2 (by decide))⟩
  · subst k1
    rw [h1, ob3_s, ckp_t (by decide), ltx_s, ltx_s, h2, ob3_s, lt1_s]
    rw [tailc (by unfold m9_thrown; rw [y1]; rfl) (fun h => absurd h (by decide)), ltx_s, e6]
    exact ih _ _ _ _ _ _ _ _ _ _ _ _ _ _ _ ⟨hI.1, HS_q hI.2.1 (hq 1 (by decide)), CM_q hI.2.2 (hq 2 (by decide))⟩
theorem LB_20 {f3 g4 c5 : bkA} {y6 : Nat → bkA} {o7 : Nat → Int32} {z8 : Nat → Int64} {s9 u10 sv11 tx12 ow13 : Nat → Int32} {rs14 : Nat → Int64} {rn15 nu16 q17 : Nat → Int32} (hI : LI f3 c5 y6 o7 s9 sv11 tx12 q17) (hi : 6 * i + 6 ≤ L) (hL : L ≤ 3072) (hN : 1100 < N) (ih : LG N L xs n i) : (
        ck ((nI (6 * i)) + 1) L <|
        ob2 (m8_owes N f3 (xs ((nI (6 * i)) + 1).toNatClampNeg)) fun k456 x457 =>
        ckp (k456 = 0 ∨ k456 = 1) <|
        lt_ ((if k456 = 0 then vp_updL z8 0 x457.toInt64 else z8)) fun z460 =>
        lt_ ((if k456 = 0 then (0 : Int32) else 1)) fun x461 =>
        ck ((nI (6 * i)) + 1) L <|
        ob4 (m9_owes N s9 ow13 rs14 q17 (xs ((nI (6 * i)) + 1).toNatClampNeg)) fun x463 ow464 rs465 q466 =>
        lt1 (m9_thrown q466) fun x468 =>
        if x468 = x461 then
          if x461 = 0 then
            ck 0 1 <|
            if (lg_cmp (z460 (0 : Int32).toNatClampNeg) (x463.toInt64)) = 0 then
              lt_ ((nI (6 * i)) + 6) fun x475 =>
              mL_law_L23 N L xs n x475 f3 g4 c5 y6 o7 z460 s9 u10 sv11 tx12 ow464 rs465 rn15 nu16 q466
            else
              some 0
          else
            lt_ ((nI (6 * i)) + 6) fun x472 =>
            mL_law_L23 N L xs n x472 f3 g4 c5 y6 o7 z460 s9 u10 sv11 tx12 ow464 rs465 rn15 nu16 q466
        else
          some 0
      ) = some 1 := by
  obtain ⟨k0, k1, k2, k3, k4, k5⟩ := lk hi hL
  obtain ⟨k, x, x9, ow', rs', q', h1, h2, hC, hx, hq⟩ := P_owes (q := q17) (ow := ow13) (rs := rs14) (N := N) hI.1 (by omega) (xs (nI (6 * i) + 1).toNatClampNeg)
  simp only [k1, k2, k3, k4, k5]
  rcases hC with ⟨k0, y0⟩ | ⟨k1, y1⟩
  · subst k0
    rw [h1, ob2_s, ckp_t (by decide), ltx_s, ltx_s, h2, ob4_s, lt1_s]
    rw [tailc (by unfold m9_thrown; rw [y0]; rfl) (fun _ => by rw [if_pos rfl, vL0, hx rfl]), ltx_s, e6]
    exact ih _ _ _ _ _ _ _ _ _ _ _ _ _ _ _ ⟨hI.1, HS_q hI.2.1 (hq 1 (by decide)), CM_q hI.2.2 (hq 2 (by decide))⟩
  · subst k1
    rw [h1, ob2_s, ckp_t (by decide), ltx_s, ltx_s, h2, ob4_s, lt1_s]
    rw [tailc (by unfold m9_thrown; rw [y1]; rfl) (fun h => absurd h (by decide)), ltx_s, e6]
    exact ih _ _ _ _ _ _ _ _ _ _ _ _ _ _ _ ⟨hI.1, HS_q hI.2.1 (hq 1 (by decide)), CM_q hI.2.2 (hq 2 (by decide))⟩
theorem LB_21 {f3 g4 c5 : bkA} {y6 : Nat → bkA} {o7 : Nat → Int32} {z8 : Nat → Int64} {s9 u10 sv11 tx12 ow13 : Nat → Int32} {rs14 : Nat → Int64} {rn15 nu16 q17 : Nat → Int32} (hI : LI f3 c5 y6 o7 s9 sv11 tx12 q17) (hi : 6 * i + 6 ≤ L) (hL : L ≤ 3072) (hN : 1100 < N) (ih : LG N L xs n i) : (
        ck ((nI (6 * i)) + 1) L <|
        ob3 (m8_type c5 (xs ((nI (6 * i)) + 1).toNatClampNeg)) fun k477 x478 c479 =>
        ckp (k477 = 0 ∨ k477 = 2 ∨ k477 = 3) <|
        lt_ ((if k477 = 0 then vp_updL z8 0 x478.toInt64 else z8)) fun z482 =>
        lt_ ((if k477 = 0 then (0 : Int32) else if k477 = 2 then 1 else 2)) fun x483 =>
        ck ((nI (6 * i)) + 1) L <|
        ob3 (m9_type tx12 q17 (xs ((nI (6 * i)) + 1).toNatClampNeg)) fun x485 tx486 q487 =>
        lt1 (m9_thrown q487) fun x489 =>
        if x489 = x483 then
          if x483 = 0 then
            ck 0 1 <|
            if (lg_cmp (z482 (0 : Int32).toNatClampNeg) (x485.toInt64)) = 0 then
              lt_ ((nI (6 * i)) + 6) fun x496 =>
              mL_law_L23 N L xs n x496 f3 g4 c479 y6 o7 z482 s9 u10 sv11 tx486 ow13 rs14 rn15 nu16 q487
            else
              some 0
          else
            lt_ ((nI (6 * i)) + 6) fun x493 =>
            mL_law_L23 N L xs n x493 f3 g4 c479 y6 o7 z482 s9 u10 sv11 tx486 ow13 rs14 rn15 nu16 q487
        else
          some 0
      ) = some 1 := by
  obtain ⟨k0, k1, k2, k3, k4, k5⟩ := lk hi hL
  obtain ⟨k, x, c', x9, tx', q', h1, h2, hC, hx, hM, hq⟩ := P_type hI.2.2 (xs (nI (6 * i) + 1).toNatClampNeg)
  simp only [k1, k2, k3, k4, k5]
  rcases hC with ⟨k0, y0⟩ | ⟨k1, y1⟩ | ⟨k2, y2⟩
  · subst k0
    rw [h1, ob3_s, ckp_t (by decide), ltx_s, ltx_s, h2, ob3_s, lt1_s]
    rw [tailc (by unfold m9_thrown; rw [y0]; rfl) (fun _ => by rw [if_pos rfl, vL0, hx rfl]), ltx_s, e6]
    exact ih _ _ _ _ _ _ _ _ _ _ _ _ _ _ _ ⟨hI.1, HS_q hI.2.1 hq, hM⟩
  · subst k1
    rw [h1, ob3_s, ckp_t (by decide), ltx_s, ltx_s, h2, ob3_s, lt1_s]
    rw [tailc (by unfold m9_thrown; rw [y1]; rfl) (fun h => absurd h (by decide)), ltx_s, e6]
    exact ih _ _ _ _ _ _ _ _ _ _ _ _ _ _ _ ⟨hI.1, HS_q hI.2.1 hq, hM⟩
  · subst k2
    rw [h1, ob3_s, ckp_t (by decide), ltx_s, ltx_s, h2, ob3_s, lt1_s]
    rw [tailc (by unfold m9_thrown; rw [y2]; rfl) (fun h => absurd h (by decide)), ltx_s, e6]
    exact ih _ _ _ _ _ _ _ _ _ _ _ _ _ _ _ ⟨hI.1, HS_q hI.2.1 hq, hM⟩
theorem LB_22 {f3 g4 c5 : bkA} {y6 : Nat → bkA} {o7 : Nat → Int32} {z8 : Nat → Int64} {s9 u10 sv11 tx12 ow13 : Nat → Int32} {rs14 : Nat → Int64} {rn15 nu16 q17 : Nat → Int32} (hI : LI f3 c5 y6 o7 s9 sv11 tx12 q17) (hi : 6 * i + 6 ≤ L) (hL : L ≤ 3072) (hN : 1100 < N) (ih : LG N L xs n i) : (
        lt2 (m8_clearCommands c5) fun x497 c498 =>
        lt2 (m9_clearCommands q17) fun x500 q501 =>
        if x497 = x500 then
          lt_ ((nI (6 * i)) + 6) fun x504 =>
          mL_law_L23 N L xs n x504 f3 g4 c498 y6 o7 z8 s9 u10 sv11 tx12 ow13 rs14 rn15 nu16 q501
        else
          some 0
      ) = some 1 := by
  obtain ⟨k0, k1, k2, k3, k4, k5⟩ := lk hi hL
  obtain ⟨x, c', q', h1, h2, hM, hq⟩ := P_clearCommands hI.2.2
  rw [h1, lt2_s, h2, lt2_s, if_pos rfl, ltx_s, e6]
  exact ih _ _ _ _ _ _ _ _ _ _ _ _ _ _ _ ⟨hI.1, HS_q hI.2.1 hq, hM⟩
theorem LB_23 {f3 g4 c5 : bkA} {y6 : Nat → bkA} {o7 : Nat → Int32} {z8 : Nat → Int64} {s9 u10 sv11 tx12 ow13 : Nat → Int32} {rs14 : Nat → Int64} {rn15 nu16 q17 : Nat → Int32} (hI : LI f3 c5 y6 o7 s9 sv11 tx12 q17) (hi : 6 * i + 6 ≤ L) (hL : L ≤ 3072) (hN : 1100 < N) (ih : LG N L xs n i) : (
        ob5 (m8_runCommands N f3 c5 y6 o7) fun x505 f506 c507 y508 o509 =>
        ob7 (m9_runCommands N s9 sv11 tx12 ow13 rs14 nu16 q17) fun x511 s512 sv513 ow514 rs515 nu516 q517 =>
        if x505 = x511 then
          lt_ ((nI (6 * i)) + 6) fun x520 =>
          mL_law_L23 N L xs n x520 f506 g4 c507 y508 o509 z8 s512 u10 sv513 tx12 ow514 rs515 rn15 nu516 q517
        else
          some 0
      ) = some 1 := by
  obtain ⟨k0, k1, k2, k3, k4, k5⟩ := lk hi hL
  obtain ⟨x, f', c', y', o', s', sv', ow', rs', nu', q', h1, h2, hS, hM, hH⟩ := S_run (nu := nu16) (ow := ow13) (rs := rs14) (N := N) hI.1 hI.2.2 hI.2.1 hN
  rw [h1, ob5_s, h2, ob7_s, if_pos rfl, ltx_s, e6]
  exact ih _ _ _ _ _ _ _ _ _ _ _ _ _ _ _ ⟨hS, hH, hM⟩
theorem LB_24 {f3 g4 c5 : bkA} {y6 : Nat → bkA} {o7 : Nat → Int32} {z8 : Nat → Int64} {s9 u10 sv11 tx12 ow13 : Nat → Int32} {rs14 : Nat → Int64} {rn15 nu16 q17 : Nat → Int32} (hI : LI f3 c5 y6 o7 s9 sv11 tx12 q17) (hi : 6 * i + 6 ≤ L) (hL : L ≤ 3072) (hN : 1100 < N) (ih : LG N L xs n i) : (
        ob4 (m8_undo f3 y6 o7) fun k521 x522 f523 o524 =>
        ckp (k521 = 0 ∨ k521 = 3) <|
        lt_ ((if k521 = 0 then vp_updL z8 0 x522.toInt64 else z8)) fun z527 =>
        lt_ ((if k521 = 0 then (0 : Int32) else 1)) fun x528 =>
        ob3 (m9_undo N s9 sv11 q17) fun x529 s530 q531 =>
        lt1 (m9_thrown q531) fun x533 =>
        if x533 = x528 then
          if x528 = 0 then
            ck 0 1 <|
            if (lg_cmp (z527 (0 : Int32).toNatClampNeg) (x529.toInt64)) = 0 then
              lt_ ((nI (6 * i)) + 6) fun x540 =>
              mL_law_L23 N L xs n x540 f523 g4 c5 y6 o524 z527 s530 u10 sv11 tx12 ow13 rs14 rn15 nu16 q531
            else
              some 0
          else
            lt_ ((nI (6 * i)) + 6) fun x537 =>
            mL_law_L23 N L xs n x537 f523 g4 c5 y6 o524 z527 s530 u10 sv11 tx12 ow13 rs14 rn15 nu16 q531
        else
          some 0
      ) = some 1 := by
  obtain ⟨k0, k1, k2, k3, k4, k5⟩ := lk hi hL
  obtain ⟨k, x, f', o', x9, s', q', h1, h2, hC, hx, hS, hH, hq⟩ := P_undo (N := N) hI.1 hI.2.1 hN
  rcases hC with ⟨k0, y0⟩ | ⟨k1, y1⟩
  · subst k0
    rw [h1, ob4_s, ckp_t (by decide), ltx_s, ltx_s, h2, ob3_s, lt1_s]
    rw [tailc (by unfold m9_thrown; rw [y0]; rfl) (fun _ => by rw [if_pos rfl, vL0, hx rfl]), ltx_s, e6]
    exact ih _ _ _ _ _ _ _ _ _ _ _ _ _ _ _ ⟨hS, hH, CM_q hI.2.2 hq⟩
  · subst k1
    rw [h1, ob4_s, ckp_t (by decide), ltx_s, ltx_s, h2, ob3_s, lt1_s]
    rw [tailc (by unfold m9_thrown; rw [y1]; rfl) (fun h => absurd h (by decide)), ltx_s, e6]
    exact ih _ _ _ _ _ _ _ _ _ _ _ _ _ _ _ ⟨hS, hH, CM_q hI.2.2 hq⟩
theorem LB_25 {f3 g4 c5 : bkA} {y6 : Nat → bkA} {o7 : Nat → Int32} {z8 : Nat → Int64} {s9 u10 sv11 tx12 ow13 : Nat → Int32} {rs14 : Nat → Int64} {rn15 nu16 q17 : Nat → Int32} (hI : LI f3 c5 y6 o7 s9 sv11 tx12 q17) (hi : 6 * i + 6 ≤ L) (hL : L ≤ 3072) (hN : 1100 < N) (ih : LG N L xs n i) : (
        ob2 (m8_digest N f3 g4 c5 o7) fun x541 g542 =>
        ob5 (m9_digest N s9 u10 ow13 rs14 q17) fun x544 u545 ow546 rs547 q548 =>
        if (lg_cmp x541 x544) = 0 then
          lt_ ((nI (6 * i)) + 6) fun x551 =>
          mL_law_L23 N L xs n x551 f3 g542 c5 y6 o7 z8 s9 u545 sv11 tx12 ow546 rs547 rn15 nu16 q548
        else
          some 0
      ) = some 1 := by
  obtain ⟨k0, k1, k2, k3, k4, k5⟩ := lk hi hL
  obtain ⟨x, g', u', ow', rs', h1, h2⟩ := P_digest (g := g4) (u := u10) (ow := ow13) (rs := rs14) (N := N) hI.1 hI.2.1 hI.2.2 (by omega)
  rw [h1, ob2_s, h2, ob5_s, lg_refl, if_pos rfl, ltx_s, e6]
  exact ih _ _ _ _ _ _ _ _ _ _ _ _ _ _ _ ⟨hI.1, HS_q hI.2.1 (pk_un (by decide)), CM_q hI.2.2 (pk_un (by decide))⟩
theorem LB_26 {f3 g4 c5 : bkA} {y6 : Nat → bkA} {o7 : Nat → Int32} {z8 : Nat → Int64} {s9 u10 sv11 tx12 ow13 : Nat → Int32} {rs14 : Nat → Int64} {rn15 nu16 q17 : Nat → Int32} (hI : LI f3 c5 y6 o7 s9 sv11 tx12 q17) (hi : 6 * i + 6 ≤ L) (hL : L ≤ 3072) (hN : 1100 < N) (ih : LG N L xs n i) : (
        lt_ ((nI (6 * i)) + 6) fun x552 =>
        mL_law_L23 N L xs n x552 f3 g4 c5 y6 o7 z8 s9 u10 sv11 tx12 ow13 rs14 rn15 nu16 q17
      ) = some 1 := by
  obtain ⟨k0, k1, k2, k3, k4, k5⟩ := lk hi hL
  rw [ltx_s, e6]
  exact ih _ _ _ _ _ _ _ _ _ _ _ _ _ _ _ hI
end LAWK
theorem stop_t {L i : Nat} (hL : L ≤ 3072) (h : L < 6 * i + 6) (hi : 6 * i ≤ 4000) : (Int32.ofNat L) - 6 < nI (6 * i) := by
  show nI L - nI 6 < nI (6 * i)
  by_cases c : 6 ≤ L
  · rw [pk_sub c]
    exact nI_lt (by omega) (by omega)
  · rw [Int32.lt_iff_toInt_lt, nI_toInt (by omega)]
    have h5 : L = 0 ∨ L = 1 ∨ L = 2 ∨ L = 3 ∨ L = 4 ∨ L = 5 := by omega
    have hneg : (nI L - nI 6).toInt < 0 := by
      rcases h5 with e | e | e | e | e | e <;> subst e <;> decide
    omega
theorem stop_f {L i : Nat} (h : 6 * i + 6 ≤ L) (hL : L ≤ 3072) : ¬ (Int32.ofNat L) - 6 < nI (6 * i) := by
  show ¬ nI L - nI 6 < nI (6 * i)
  rw [pk_sub (by omega)]
  exact nI_nlt (by omega) (by omega)
/-- the whole loop -/
theorem law_true {N L : Nat} {xs : Nat → Int32} (hL : L ≤ 3072) (hN : 1100 < N) : ∀ (k i n : Nat), i + k = 513 → k < n → ∀ (f3 g4 c5 : bkA) (y6 : Nat → bkA) (o7 : Nat → Int32) (z8 : Nat → Int64) (s9 u10 sv11 tx12 ow13 : Nat → Int32) (rs14 : Nat → Int64) (rn15 nu16 q17 : Nat → Int32), LI f3 c5 y6 o7 s9 sv11 tx12 q17 → 6 * i ≤ L + 6 → mL_law_L23 N L xs n (nI (6 * i)) f3 g4 c5 y6 o7 z8 s9 u10 sv11 tx12 ow13 rs14 rn15 nu16 q17 = some 1 := by
  intro k
  induction k with
  | zero =>
    intro i n hi hn f3 g4 c5 y6 o7 z8 s9 u10 sv11 tx12 ow13 rs14 rn15 nu16 q17 hI hb
    cases n with
    | zero => omega
    | succ n =>
      rw [mL_law_L23, if_pos (stop_t (by omega) (by omega) (by omega))]
  | succ k ih =>
    intro i n hi hn f3 g4 c5 y6 o7 z8 s9 u10 sv11 tx12 ow13 rs14 rn15 nu16 q17 hI hb
    cases n with
    | zero => omega
    | succ n =>
      by_cases hs : L < 6 * i + 6
      · rw [mL_law_L23, if_pos (stop_t (by omega) hs (by omega))]
      · have hi6 : 6 * i + 6 ≤ L := by omega
        have hg : LG N L xs n i := fun f g c y o z s u sv tx ow rs rn nu q h => ih (i+1) n (by omega) (by omega) f g c y o z s u sv tx ow rs rn nu q h (by omega)
        rw [mL_law_L23, if_neg (stop_f hi6 (by omega)), ck_nI (by omega) (by omega)]
        by_cases h0 : ((xs (nI (6 * i)).toNatClampNeg) &&& 31) = 0
        · rw [if_pos h0]
          exact LB_0 hI hi6 hL hN hg
        rw [if_neg h0]
        by_cases h1 : ((xs (nI (6 * i)).toNatClampNeg) &&& 31) = 1
        · rw [if_pos h1]
          exact LB_1 hI hi6 hL hN hg
        rw [if_neg h1]
        by_cases h2 : ((xs (nI (6 * i)).toNatClampNeg) &&& 31) = 2
        · rw [if_pos h2]
          exact LB_2 hI hi6 hL hN hg
        rw [if_neg h2]
        by_cases h3 : ((xs (nI (6 * i)).toNatClampNeg) &&& 31) = 3
        · rw [if_pos h3]
          exact LB_3 hI hi6 hL hN hg
        rw [if_neg h3]
        by_cases h4 : ((xs (nI (6 * i)).toNatClampNeg) &&& 31) = 4
        · rw [if_pos h4]
          exact LB_4 hI hi6 hL hN hg
        rw [if_neg h4]
        by_cases h5 : ((xs (nI (6 * i)).toNatClampNeg) &&& 31) = 5
        · rw [if_pos h5]
          exact LB_5 hI hi6 hL hN hg
        rw [if_neg h5]
        by_cases h6 : ((xs (nI (6 * i)).toNatClampNeg) &&& 31) = 6
        · rw [if_pos h6]
          exact LB_6 hI hi6 hL hN hg
        rw [if_neg h6]
        by_cases h7 : ((xs (nI (6 * i)).toNatClampNeg) &&& 31) = 7
        · rw [if_pos h7]
          exact LB_7 hI hi6 hL hN hg
        rw [if_neg h7]
        by_cases h8 : ((xs (nI (6 * i)).toNatClampNeg) &&& 31) = 8
        · rw [if_pos h8]
          exact LB_8 hI hi6 hL hN hg
        rw [if_neg h8]
        by_cases h9 : ((xs (nI (6 * i)).toNatClampNeg) &&& 31) = 9
        · rw [if_pos h9]
          exact LB_9 hI hi6 hL hN hg
        rw [if_neg h9]
        by_cases h10 : ((xs (nI (6 * i)).toNatClampNeg) &&& 31) = 10
        · rw [if_pos h10]
          exact LB_10 hI hi6 hL hN hg
        rw [if_neg h10]
        by_cases h11 : ((xs (nI (6 * i)).toNatClampNeg) &&& 31) = 11
        · rw [if_pos h11]
          exact LB_11 hI hi6 hL hN hg
        rw [if_neg h11]
        by_cases h12 : ((xs (nI (6 * i)).toNatClampNeg) &&& 31) = 12
        · rw [if_pos h12]
          exact LB_12 hI hi6 hL hN hg
        rw [if_neg h12]
        by_cases h13 : ((xs (nI (6 * i)).toNatClampNeg) &&& 31) = 13
        · rw [if_pos h13]
          exact LB_13 hI hi6 hL hN hg
        rw [if_neg h13]
        by_cases h14 : ((xs (nI (6 * i)).toNatClampNeg) &&& 31) = 14
        · rw [if_pos h14]
          exact LB_14 hI hi6 hL hN hg
        rw [if_neg h14]
        by_cases h15 : ((xs (nI (6 * i)).toNatClampNeg) &&& 31) = 15
        · rw [if_pos h15]
          exact LB_15 hI hi6 hL hN hg
        rw [if_neg h15]
        by_cases h16 : ((xs (nI (6 * i)).toNatClampNeg) &&& 31) = 16
        · rw [if_pos h16]
          exact LB_16 hI hi6 hL hN hg
        rw [if_neg h16]
        by_cases h17 : ((xs (nI (6 * i)).toNatClampNeg) &&& 31) = 17
        · rw [if_pos h17]
          exact LB_17 hI hi6 hL hN hg
        rw [if_neg h17]
        by_cases h18 : ((xs (nI (6 * i)).toNatClampNeg) &&& 31) = 18
        · rw [if_pos h18]
          exact LB_18 hI hi6 hL hN hg
        rw [if_neg h18]
        by_cases h19 : ((xs (nI (6 * i)).toNatClampNeg) &&& 31) = 19
        · rw [if_pos h19]
          exact LB_19 hI hi6 hL hN hg
        rw [if_neg h19]
        by_cases h20 : ((xs (nI (6 * i)).toNatClampNeg) &&& 31) = 20
        · rw [if_pos h20]
          exact LB_20 hI hi6 hL hN hg
        rw [if_neg h20]
        by_cases h21 : ((xs (nI (6 * i)).toNatClampNeg) &&& 31) = 21
        · rw [if_pos h21]
          exact LB_21 hI hi6 hL hN hg
        rw [if_neg h21]
        by_cases h22 : ((xs (nI (6 * i)).toNatClampNeg) &&& 31) = 22
        · rw [if_pos h22]
          exact LB_22 hI hi6 hL hN hg
        rw [if_neg h22]
        by_cases h23 : ((xs (nI (6 * i)).toNatClampNeg) &&& 31) = 23
        · rw [if_pos h23]
          exact LB_23 hI hi6 hL hN hg
        rw [if_neg h23]
        by_cases h24 : ((xs (nI (6 * i)).toNatClampNeg) &&& 31) = 24
        · rw [if_pos h24]
          exact LB_24 hI hi6 hL hN hg
        rw [if_neg h24]
        by_cases h25 : ((xs (nI (6 * i)).toNatClampNeg) &&& 31) = 25
        · rw [if_pos h25]
          exact LB_25 hI hi6 hL hN hg
        rw [if_neg h25]
        exact LB_26 hI hi6 hL hN hg
