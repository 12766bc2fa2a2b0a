/-! the start: where the cells lie, and what they hold -/
def ro (r : Nat) : Nat := if r < 5 then 2 + 2 * r else if r < 11 then 13 + 2 * (r - 5) else if r < 19 then 26 + 2 * (r - 11) else if r < 22 then 43 + 2 * (r - 19) else 49
def ord (j : Nat) : Nat := if j = 0 then 0 else if j = 1 then 1 else if j = 2 then 12 else if j = 3 then 25 else if j = 4 then 42 else if j < 28 then ro (j - 5) else ro (j - 28) + 1
def sba (k : Nat) : Nat := if k = 0 then 1 else if k = 1 then 52 else if k = 2 then 105 else if k = 3 then 156 else if k = 4 then 207 else 258
def pa (i : Nat) : Nat := if i < 306 then sba (i / 51) + ord (i % 51) else if i = 306 then 0 else if i = 307 then 103 else if i = 308 then 104 else if i = 311 then 312 else if i = 312 then 311 else i
set_option maxRecDepth 100000 in
theorem pa_inj : ∀ i, i < 314 → ∀ j, j < 314 → pa i = pa j → i = j := by decide +kernel
theorem pa_st {k j : Nat} (hk : k < 6) (hj : j < 51) : pa (51 * k + j) = sba k + ord j := by
  unfold pa
  have e1 : (51 * k + j) / 51 = k := by omega
  have e2 : (51 * k + j) % 51 = j := by omega
  rw [if_pos (by omega), e1, e2]
def f00 : bkA := ur (fun _ => zF) 19 (rfill 12 zF (-1))
def c00 : bkA := ur (fun _ => zF) 2 (upd zF 3 (-1))
def w00 : bkW := pbt (fun _ => zF, fun _ => zL) f00 f00 c00 (fun _ => f00) zF
theorem P_c {D : va_G} {cl : List vw_C} {x : Nat × va_E} {B : va_W} {H : Heap} (h : va_P D cl (x :: B) H) : va_P D cl B H := fun k q hk => h (k + 1) q (by rw [List.getElem?_cons_succ]; exact hk)
theorem P_h {D : va_G} {cl : List vw_C} {x : Nat × va_E} {B : va_W} {H : Heap} (h : va_P D cl (x :: B) H) : va_P D cl [x] H := fun k q hk => by
  have hz : k < 1 := (List.getElem?_eq_some_iff.mp hk).1
  have e : k = 0 := by omega
  subst e
  exact h 0 q hk
theorem P_l {D : va_G} {cl : List vw_C} {A B : va_W} {H : Heap} (h : va_P D cl (A ++ B) H) : va_P D cl A H := fun k q hk => h k q (by rw [List.getElem?_append_left (List.getElem?_eq_some_iff.mp hk).1]; exact hk)
theorem P_r {D : va_G} {cl : List vw_C} {A B : va_W} {H : Heap} (h : va_P D cl (A ++ B) H) : va_P D cl B H := fun k q hk => h (A.length + k) q (by rw [List.getElem?_append_right (by omega), show A.length + k - A.length = k by omega]; exact hk)
set_option maxRecDepth 100000 in
set_option maxHeartbeats 4000000 in
theorem SW_at {X : bkX} {a k : Nat} {H : Heap} (hP : va_P (xD X) vwCl (SW X a) H) (hx : ∀ j, j < 51 → xa X (51 * k + j) = a + ord j) : ∀ j, j < 51 → va_at (xD X) vwCl (xa X (51 * k + j), embS X k f00 j) H := by
  have e0 : xa X (51 * k + 0) = a + 0 := hx 0 (by decide)
  have e1 : xa X (51 * k + 1) = a + 1 := hx 1 (by decide)
  have e2 : xa X (51 * k + 2) = a + 12 := hx 2 (by decide)
  have e3 : xa X (51 * k + 3) = a + 25 := hx 3 (by decide)
  have e4 : xa X (51 * k + 4) = a + 42 := hx 4 (by decide)
  have e5 : xa X (51 * k + 5) = a + 2 := hx 5 (by decide)
  have e6 : xa X (51 * k + 6) = a + 4 := hx 6 (by decide)
  have e7 : xa X (51 * k + 7) = a + 6 := hx 7 (by decide)
  have e8 : xa X (51 * k + 8) = a + 8 := hx 8 (by decide)
  have e9 : xa X (51 * k + 9) = a + 10 := hx 9 (by decide)
  have e10 : xa X (51 * k + 10) = a + 13 := hx 10 (by decide)
  have e11 : xa X (51 * k + 11) = a + 15 := hx 11 (by decide)
  have e12 : xa X (51 * k + 12) = a + 17 := hx 12 (by decide)
  have e13 : xa X (51 * k + 13) = a + 19 := hx 13 (by decide)
  have e14 : xa X (51 * k + 14) = a + 21 := hx 14 (by decide)
  have e15 : xa X (51 * k + 15) = a + 23 := hx 15 (by decide)
  have e16 : xa X (51 * k + 16) = a + 26 := hx 16 (by decide)
  have e17 : xa X (51 * k + 17) = a + 28 := hx 17 (by decide)
  have e18 : xa X (51 * k + 18) = a + 30 := hx 18 (by decide)
  have e19 : xa X (51 * k + 19) = a + 32 := hx 19 (by decide)
  have e20 : xa X (51 * k + 20) = a + 34 := hx 20 (by decide)
  have e21 : xa X (51 * k + 21) = a + 36 := hx 21 (by decide)
  have e22 : xa X (51 * k + 22) = a + 38 := hx 22 (by decide)
  have e23 : xa X (51 * k + 23) = a + 40 := hx 23 (by decide)
  have e24 : xa X (51 * k + 24) = a + 43 := hx 24 (by decide)
  have e25 : xa X (51 * k + 25) = a + 45 := hx 25 (by decide)
  have e26 : xa X (51 * k + 26) = a + 47 := hx 26 (by decide)
  have e27 : xa X (51 * k + 27) = a + 49 := hx 27 (by decide)
  have e28 : xa X (51 * k + 28) = a + 3 := hx 28 (by decide)
  have e29 : xa X (51 * k + 29) = a + 5 := hx 29 (by decide)
  have e30 : xa X (51 * k + 30) = a + 7 := hx 30 (by decide)
  have e31 : xa X (51 * k + 31) = a + 9 := hx 31 (by decide)
  have e32 : xa X (51 * k + 32) = a + 11 := hx 32 (by decide)
  have e33 : xa X (51 * k + 33) = a + 14 := hx 33 (by decide)
  have e34 : xa X (51 * k + 34) = a + 16 := hx 34 (by decide)
  have e35 : xa X (51 * k + 35) = a + 18 := hx 35 (by decide)
  have e36 : xa X (51 * k + 36) = a + 20 := hx 36 (by decide)
  have e37 : xa X (51 * k + 37) = a + 22 := hx 37 (by decide)
  have e38 : xa X (51 * k + 38) = a + 24 := hx 38 (by decide)
  have e39 : xa X (51 * k + 39) = a + 27 := hx 39 (by decide)
  have e40 : xa X (51 * k + 40) = a + 29 := hx 40 (by decide)
  have e41 : xa X (51 * k + 41) = a + 31 := hx 41 (by decide)
  have e42 : xa X (51 * k + 42) = a + 33 := hx 42 (by decide)
  have e43 : xa X (51 * k + 43) = a + 35 := hx 43 (by decide)
  have e44 : xa X (51 * k + 44) = a + 37 := hx 44 (by decide)
  have e45 : xa X (51 * k + 45) = a + 39 := hx 45 (by decide)
  have e46 : xa X (51 * k + 46) = a + 41 := hx 46 (by decide)
  have e47 : xa X (51 * k + 47) = a + 44 := hx 47 (by decide)
  have e48 : xa X (51 * k + 48) = a + 46 := hx 48 (by decide)
  have e49 : xa X (51 * k + 49) = a + 48 := hx 49 (by decide)
  have e50 : xa X (51 * k + 50) = a + 50 := hx 50 (by decide)
  have g0 : va_at (xD X) vwCl (xa X (51 * k + 0), .inr (7, stF X k f00)) H := by
    unfold stF
    rw [e0, e1, e2, e3, e4, e27]
    exact hP 0 _ rfl
  have g1 : va_at (xD X) vwCl (xa X (51 * k + 1), .inr (4, kiF X k f00)) H := by
    unfold kiF
    rw [e1, e5, e6, e7, e8, e9]
    exact hP 1 _ rfl
  have g2 : va_at (xD X) vwCl (xa X (51 * k + 2), .inr (3, hoF X k f00)) H := by
    unfold hoF
    rw [e2, e10, e11, e12, e13, e14, e15]
    exact hP 12 _ rfl
  have g3 : va_at (xD X) vwCl (xa X (51 * k + 3), .inr (1, doF X k f00)) H := by
    unfold doF
    rw [e3, e16, e17, e18, e19, e20, e21, e22, e23]
    exact hP 25 _ rfl
  have g4 : va_at (xD X) vwCl (xa X (51 * k + 4), .inr (5, plF X k)) H := by
    unfold plF
    rw [e4, e24, e25, e26]
    exact hP 42 _ rfl
  have g5 : va_at (xD X) vwCl (xa X (51 * k + 5), .inr (6, [.ref (xa X (51 * k + 28))])) H := by
    rw [e5, e28]
    exact hP 2 _ rfl
  have g6 : va_at (xD X) vwCl (xa X (51 * k + 6), .inr (6, [.ref (xa X (51 * k + 29))])) H := by
    rw [e6, e29]
    exact hP 4 _ rfl
  have g7 : va_at (xD X) vwCl (xa X (51 * k + 7), .inr (6, [.ref (xa X (51 * k + 30))])) H := by
    rw [e7, e30]
    exact hP 6 _ rfl
  have g8 : va_at (xD X) vwCl (xa X (51 * k + 8), .inr (6, [.ref (xa X (51 * k + 31))])) H := by
    rw [e8, e31]
    exact hP 8 _ rfl
  have g9 : va_at (xD X) vwCl (xa X (51 * k + 9), .inr (6, [.ref (xa X (51 * k + 32))])) H := by
    rw [e9, e32]
    exact hP 10 _ rfl
  have g10 : va_at (xD X) vwCl (xa X (51 * k + 10), .inr (6, [.ref (xa X (51 * k + 33))])) H := by
    rw [e10, e33]
    exact hP 13 _ rfl
  have g11 : va_at (xD X) vwCl (xa X (51 * k + 11), .inr (6, [.ref (xa X (51 * k + 34))])) H := by
    rw [e11, e34]
    exact hP 15 _ rfl
  have g12 : va_at (xD X) vwCl (xa X (51 * k + 12), .inr (6, [.ref (xa X (51 * k + 35))])) H := by
    rw [e12, e35]
    exact hP 17 _ rfl
  have g13 : va_at (xD X) vwCl (xa X (51 * k + 13), .inr (6, [.ref (xa X (51 * k + 36))])) H := by
    rw [e13, e36]
    exact hP 19 _ rfl
  have g14 : va_at (xD X) vwCl (xa X (51 * k + 14), .inr (6, [.ref (xa X (51 * k + 37))])) H := by
    rw [e14, e37]
    exact hP 21 _ rfl
  have g15 : va_at (xD X) vwCl (xa X (51 * k + 15), .inr (6, [.ref (xa X (51 * k + 38))])) H := by
    rw [e15, e38]
    exact hP 23 _ rfl
  have g16 : va_at (xD X) vwCl (xa X (51 * k + 16), .inr (6, [.ref (xa X (51 * k + 39))])) H := by
    rw [e16, e39]
    exact hP 26 _ rfl
  have g17 : va_at (xD X) vwCl (xa X (51 * k + 17), .inr (6, [.ref (xa X (51 * k + 40))])) H := by
    rw [e17, e40]
    exact hP 28 _ rfl
  have g18 : va_at (xD X) vwCl (xa X (51 * k + 18), .inr (6, [.ref (xa X (51 * k + 41))])) H := by
    rw [e18, e41]
    exact hP 30 _ rfl
  have g19 : va_at (xD X) vwCl (xa X (51 * k + 19), .inr (6, [.ref (xa X (51 * k + 42))])) H := by
    rw [e19, e42]
    exact hP 32 _ rfl
  have g20 : va_at (xD X) vwCl (xa X (51 * k + 20), .inr (6, [.ref (xa X (51 * k + 43))])) H := by
    rw [e20, e43]
    exact hP 34 _ rfl
  have g21 : va_at (xD X) vwCl (xa X (51 * k + 21), .inr (6, [.ref (xa X (51 * k + 44))])) H := by
    rw [e21, e44]
    exact hP 36 _ rfl
  have g22 : va_at (xD X) vwCl (xa X (51 * k + 22), .inr (6, [.ref (xa X (51 * k + 45))])) H := by
    rw [e22, e45]
    exact hP 38 _ rfl
  have g23 : va_at (xD X) vwCl (xa X (51 * k + 23), .inr (6, [.ref (xa X (51 * k + 46))])) H := by
    rw [e23, e46]
    exact hP 40 _ rfl
  have g24 : va_at (xD X) vwCl (xa X (51 * k + 24), .inr (6, [.ref (xa X (51 * k + 47))])) H := by
    rw [e24, e47]
    exact hP 43 _ rfl
  have g25 : va_at (xD X) vwCl (xa X (51 * k + 25), .inr (6, [.ref (xa X (51 * k + 48))])) H := by
    rw [e25, e48]
    exact hP 45 _ rfl
  have g26 : va_at (xD X) vwCl (xa X (51 * k + 26), .inr (6, [.ref (xa X (51 * k + 49))])) H := by
    rw [e26, e49]
    exact hP 47 _ rfl
  have g27 : va_at (xD X) vwCl (xa X (51 * k + 27), .inr (6, [.ref (xa X (51 * k + 50))])) H := by
    rw [e27, e50]
    exact hP 49 _ rfl
  have g28 : va_at (xD X) vwCl (xa X (51 * k + 28), .inl (xI X, 5, .inl (zF))) H := by
    rw [e28]
    exact hP 3 _ rfl
  have g29 : va_at (xD X) vwCl (xa X (51 * k + 29), .inl (xI X, 5, .inl (zF))) H := by
    rw [e29]
    exact hP 5 _ rfl
  have g30 : va_at (xD X) vwCl (xa X (51 * k + 30), .inl (xI X, 5, .inl (zF))) H := by
    rw [e30]
    exact hP 7 _ rfl
  have g31 : va_at (xD X) vwCl (xa X (51 * k + 31), .inl (xI X, 5, .inl (zF))) H := by
    rw [e31]
    exact hP 9 _ rfl
  have g32 : va_at (xD X) vwCl (xa X (51 * k + 32), .inl (xI X, 5, .inl (zF))) H := by
    rw [e32]
    exact hP 11 _ rfl
  have g33 : va_at (xD X) vwCl (xa X (51 * k + 33), .inl (xI X, 8, .inl (zF))) H := by
    rw [e33]
    exact hP 14 _ rfl
  have g34 : va_at (xD X) vwCl (xa X (51 * k + 34), .inl (xI X, 8, .inl (zF))) H := by
    rw [e34]
    exact hP 16 _ rfl
  have g35 : va_at (xD X) vwCl (xa X (51 * k + 35), .inl (xI X, 8, .inl (zF))) H := by
    rw [e35]
    exact hP 18 _ rfl
  have g36 : va_at (xD X) vwCl (xa X (51 * k + 36), .inl (xI X, 8, .inl (zF))) H := by
    rw [e36]
    exact hP 20 _ rfl
  have g37 : va_at (xD X) vwCl (xa X (51 * k + 37), .inl (xI X, 8, .inl (zF))) H := by
    rw [e37]
    exact hP 22 _ rfl
  have g38 : va_at (xD X) vwCl (xa X (51 * k + 38), .inl (xI X, 8, .inl (zF))) H := by
    rw [e38]
    exact hP 24 _ rfl
  have g39 : va_at (xD X) vwCl (xa X (51 * k + 39), .inl (xI X, 16, .inl (zF))) H := by
    rw [e39]
    exact hP 27 _ rfl
  have g40 : va_at (xD X) vwCl (xa X (51 * k + 40), .inl (xI X, 16, .inl (zF))) H := by
    rw [e40]
    exact hP 29 _ rfl
  have g41 : va_at (xD X) vwCl (xa X (51 * k + 41), .inl (xI X, 16, .inl (zF))) H := by
    rw [e41]
    exact hP 31 _ rfl
  have g42 : va_at (xD X) vwCl (xa X (51 * k + 42), .inl (xI X, 16, .inl (zF))) H := by
    rw [e42]
    exact hP 33 _ rfl
  have g43 : va_at (xD X) vwCl (xa X (51 * k + 43), .inl (xI X, 16, .inl (zF))) H := by
    rw [e43]
    exact hP 35 _ rfl
  have g44 : va_at (xD X) vwCl (xa X (51 * k + 44), .inl (xI X, 16, .inl (zF))) H := by
    rw [e44]
    exact hP 37 _ rfl
  have g45 : va_at (xD X) vwCl (xa X (51 * k + 45), .inl (xI X, 16, .inl (zF))) H := by
    rw [e45]
    exact hP 39 _ rfl
  have g46 : va_at (xD X) vwCl (xa X (51 * k + 46), .inl (xI X, 16, .inl (zF))) H := by
    rw [e46]
    exact hP 41 _ rfl
  have g47 : va_at (xD X) vwCl (xa X (51 * k + 47), .inl (xI X, 12, .inl (rfill 12 zF (-1)))) H := by
    rw [e47]
    exact hP 44 _ rfl
  have g48 : va_at (xD X) vwCl (xa X (51 * k + 48), .inl (xI X, 12, .inl (zF))) H := by
    rw [e48]
    exact hP 46 _ rfl
  have g49 : va_at (xD X) vwCl (xa X (51 * k + 49), .inl (xI X, 12, .inl (zF))) H := by
    rw [e49]
    exact hP 48 _ rfl
  have g50 : va_at (xD X) vwCl (xa X (51 * k + 50), .inl (xI X, 16, .inl (zF))) H := by
    rw [e50]
    exact hP 50 _ rfl
  intro j hj
  match j, hj with
  | 0, _ => exact g0
  | 1, _ => exact g1
  | 2, _ => exact g2
  | 3, _ => exact g3
  | 4, _ => exact g4
  | 5, _ => exact g5
  | 6, _ => exact g6
  | 7, _ => exact g7
  | 8, _ => exact g8
  | 9, _ => exact g9
  | 10, _ => exact g10
  | 11, _ => exact g11
  | 12, _ => exact g12
  | 13, _ => exact g13
  | 14, _ => exact g14
  | 15, _ => exact g15
  | 16, _ => exact g16
  | 17, _ => exact g17
  | 18, _ => exact g18
  | 19, _ => exact g19
  | 20, _ => exact g20
  | 21, _ => exact g21
  | 22, _ => exact g22
  | 23, _ => exact g23
  | 24, _ => exact g24
  | 25, _ => exact g25
  | 26, _ => exact g26
  | 27, _ => exact g27
  | 28, _ => exact g28
  | 29, _ => exact g29
  | 30, _ => exact g30
  | 31, _ => exact g31
  | 32, _ => exact g32
  | 33, _ => exact g33
  | 34, _ => exact g34
  | 35, _ => exact g35
  | 36, _ => exact g36
  | 37, _ => exact g37
  | 38, _ => exact g38
  | 39, _ => exact g39
  | 40, _ => exact g40
  | 41, _ => exact g41
  | 42, _ => exact g42
  | 43, _ => exact g43
  | 44, _ => exact g44
  | 45, _ => exact g45
  | 46, _ => exact g46
  | 47, _ => exact g47
  | 48, _ => exact g48
  | 49, _ => exact g49
  | 50, _ => exact g50
  | j + 51, hj => exact absurd hj (by omega)
theorem vp_cell_congr {cA : ClassId} {n : Nat} {f g : Nat → Option Nat} (h : ∀ j, j < n → f j = g j) : vp_cell cA (n, .inr (.inr (.inr (.inr f)))) = vp_cell cA (n, .inr (.inr (.inr (.inr g)))) := by
  rw [vp_cell_q, vp_cell_q]
  unfold arrV
  congr 2
  funext j
  show va_rf (f j.val) = va_rf (g j.val)
  rw [h j.val j.isLt]
theorem w00_st {k j : Nat} (hk : k < 6) (hj : j < 24) : w00.1 (24 * k + j) = f00 j := by
  unfold w00 pbt
  dsimp only
  have h1 : (24 * k + j) / 24 = k := by omega
  have h2 : (24 * k + j) % 24 = j := by omega
  rw [h1, h2]
  by_cases c0 : k = 0
  · rw [if_pos c0]
  · rw [if_neg c0]
    by_cases c1 : k = 1
    · rw [if_pos c1]
    · rw [if_neg c1, if_pos (by omega)]
set_option maxRecDepth 100000 in
set_option maxHeartbeats 4000000 in
theorem HW_start {X : bkX} {z : Nat} {H : Heap} (hx : ∀ i, xa X i = z + pa i) (hP : va_P (xD X) vwCl ([] ++ BtW X z) H) : HW X w00 H := by
  have hB : va_P (xD X) vwCl (BtW X z) H := hP
  have hC : va_P (xD X) vwCl (CmW X (z + 309)) H := P_r (P_c hB)
  have hH : va_P (xD X) vwCl (HiW X (z + 103)) H := P_r (P_l (P_c hB))
  have s1 : va_P (xD X) vwCl (SW X (z + 52)) H := P_r (P_l (P_l (P_c hB)))
  have s0 : va_P (xD X) vwCl (SW X (z + 1)) H := P_l (P_l (P_l (P_c hB)))
  have b0 : va_P (xD X) vwCl [(z, .inr (8, [.ref (z + 1), .ref (z + 52), .ref (z + 103), .ref (z + 309)]))] H := P_h hB
  have s5 : va_P (xD X) vwCl (SW X (z + 103 + 155)) H := P_r (P_c (P_c hH))
  have s4 : va_P (xD X) vwCl (SW X (z + 103 + 104)) H := P_r (P_l (P_c (P_c hH)))
  have s3 : va_P (xD X) vwCl (SW X (z + 103 + 53)) H := P_r (P_l (P_l (P_c (P_c hH))))
  have s2 : va_P (xD X) vwCl (SW X (z + 103 + 2)) H := P_l (P_l (P_l (P_c (P_c hH))))
  have hst : ∀ (k : Nat), k < 6 → ∀ j, j < 51 → va_at (xD X) vwCl (xa X (51 * k + j), embS X k f00 j) H := by
    intro k hk
    have h6 : k = 0 ∨ k = 1 ∨ k = 2 ∨ k = 3 ∨ k = 4 ∨ k = 5 := by omega
    have hxk : ∀ j, j < 51 → xa X (51 * k + j) = z + (sba k + ord j) := fun j hj => by rw [hx, pa_st hk hj]
    rcases h6 with e | e | e | e | e | e <;> subst e
    · exact SW_at s0 fun j hj => (hxk j hj).trans (Nat.add_assoc _ _ _).symm
    · exact SW_at s1 fun j hj => (hxk j hj).trans (Nat.add_assoc _ _ _).symm
    · exact SW_at s2 fun j hj => (hxk j hj).trans (Nat.add_assoc _ _ _).symm
    · exact SW_at s3 fun j hj => (hxk j hj).trans (Nat.add_assoc _ _ _).symm
    · exact SW_at s4 fun j hj => (hxk j hj).trans (Nat.add_assoc _ _ _).symm
    · exact SW_at s5 fun j hj => (hxk j hj).trans (Nat.add_assoc _ _ _).symm
  intro i q hq
  have hi : i < 314 := by
    by_cases hl : i < 314
    · exact hl
    · rw [List.getElem?_eq_none (by simp [wl]; omega)] at hq
      cases hq
  rw [wl_get hi] at hq
  cases hq
  by_cases h306 : i < 306
  · have hk : i / 51 < 6 := by omega
    have hj : i % 51 < 51 := by omega
    have h0 := hst (i / 51) hk (i % 51) hj
    have e1 : 51 * (i / 51) + i % 51 = i := by omega
    rw [e1] at h0
    have e2 : emb X w00 i = embS X (i / 51) f00 (i % 51) := by
      unfold emb
      rw [if_pos h306]
      exact embS_congr hj fun j hj => w00_st hk hj
    rw [e2]
    exact h0
  · have en : ¬ i < 306 := h306
    have e0 : xa X 0 = z + 1 := hx 0
    have e51 : xa X 51 = z + 52 := hx 51
    have e306 : xa X 306 = z + 0 := hx 306
    have e307 : xa X 307 = z + 103 := hx 307
    have e308 : xa X 308 = z + 104 := hx 308
    have e309 : xa X 309 = z + 309 := hx 309
    have e310 : xa X 310 = z + 310 := hx 310
    have e311 : xa X 311 = z + 312 := hx 311
    have e312 : xa X 312 = z + 311 := hx 312
    have e313 : xa X 313 = z + 313 := hx 313
    have g306 : va_at (xD X) vwCl (xa X 306, .inr (8, [.ref (xa X 0), .ref (xa X 51), .ref (xa X 307), .ref (xa X 309)])) H := by
      rw [e306, e0, e51, e307, e309]
      exact b0 0 _ rfl
    have g307 : va_at (xD X) vwCl (xa X 307, .inr (2, [.ref (xa X 308), .int 0, .int 0])) H := by
      rw [e307, e308]
      exact hH 0 _ rfl
    have g309 : va_at (xD X) vwCl (xa X 309, .inr (0, [.ref (xa X 310), .ref (xa X 311), .int 0, .int 0, .int 0, .int (-1)])) H := by
      rw [e309, e310, e311]
      exact hC 0 _ rfl
    have g310 : va_at (xD X) vwCl (xa X 310, .inr (6, [.ref (xa X 312)])) H := by
      rw [e310, e312]
      exact hC 1 _ rfl
    have g311 : va_at (xD X) vwCl (xa X 311, .inr (6, [.ref (xa X 313)])) H := by
      rw [e311, e313]
      exact hC 3 _ rfl
    have g312 : va_at (xD X) vwCl (xa X 312, .inl (xI X, 150, .inl zF)) H := by
      rw [e312]
      exact hC 2 _ rfl
    have g313 : va_at (xD X) vwCl (xa X 313, .inl (xI X, 5, .inl zF)) H := by
      rw [e313]
      exact hC 4 _ rfl
    have g308 : va_at (xD X) vwCl (xa X 308, .inl (xQ X, 4, .inr (.inr (.inr (.inr (fun j => some (xa X (51 * (2 + j)))))))) ) H := by
      have h0 := hH 1 _ rfl
      have x2 : xa X (51 * (2 + 0)) = z + 103 + 2 := hx 102
      have x3 : xa X (51 * (2 + 1)) = z + 103 + 53 := hx 153
      have x4 : xa X (51 * (2 + 2)) = z + 103 + 104 := hx 204
      have x5 : xa X (51 * (2 + 3)) = z + 103 + 155 := hx 255
      have ec := vp_cell_congr (cA := xQ X) (n := 4) (f := (va_up (va_up (va_up (va_up (fun _ => none) 0 (some (z + 103 + 2))) 1 (some (z + 103 + 53))) 2 (some (z + 103 + 104))) 3 (some (z + 103 + 155)))) (g := fun j => some (xa X (51 * (2 + j)))) (by
        intro j hj
        have h4 : j = 0 ∨ j = 1 ∨ j = 2 ∨ j = 3 := by omega
        rcases h4 with e | e | e | e <;> subst e
        · rw [x2]
          rfl
        · rw [x3]
          rfl
        · rw [x4]
          rfl
        · rw [x5]
          rfl)
      rw [e308]
      show H[z + 104]? = some (vp_cell _ _)
      rw [← ec]
      exact h0
    obtain ⟨d, ed⟩ : ∃ d, i = 306 + d := ⟨i - 306, by omega⟩
    subst ed
    have hd : d < 8 := by omega
    match d, hd with
    | 0, _ => exact g306
    | 1, _ => exact g307
    | 2, _ => exact g308
    | 3, _ => exact g309
    | 4, _ => exact g310
    | 5, _ => exact g311
    | 6, _ => exact g312
    | 7, _ => exact g313
    | d + 8, hd => exact absurd hd (by omega)
