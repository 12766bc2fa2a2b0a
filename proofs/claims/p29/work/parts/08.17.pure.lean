/-! the line is looked along -/
theorem c23w {f : bkA} {j i : Nat} {v w : Int32} {r : Nat → Int32} {o : Int32} (h : RGo (wr f 23 3 w) r o) (hj : j < 24) (h19 : 19 ≠ j) (h23 : j ≠ 23) : RGo (wr (wr f j i v) 23 3 w) (mr r j i v) o := by
  have q := RGo_wr (i := i) (v := v) h hj h19 h23
  rw [wr_c23 h23] at q
  exact q
theorem c23l {f : bkA} {i : Nat} {v w : Int32} {r : Nat → Int32} {o : Int32} (h : RGo (wr f 23 3 w) r o) : RGo (wr (wr f 22 i v) 23 3 w) r o := by
  have q := RGo_l1 (i := i) (v := v) h
  rw [wr_c23 (by decide)] at q
  exact q
theorem app1 {pre suf : List Nat} {y : Nat} : (pre ++ [y]) ++ suf = pre ++ y :: suf := by
  rw [List.append_assoc]
  rfl
theorem len1 {pre : List Nat} {y : Nat} : (pre ++ [y]).length = pre.length + 1 := by
  rw [List.length_append]
  rfl
theorem lookB {N l W : Nat} {o : Int32} (hl1 : 1 ≤ l) (hl4 : l ≤ 4) (hW : W ≤ 16) : ∀ (suf pre : List Nat) (n : Nat) (f1 : bkA) (r1 : Nat → Int32), suf.length < n → pre.length + suf.length + 1 = W → (∀ x, x ∈ pre ++ suf → x < 16) → LN (f1 22) 0 pre → LN (f1 22) (pre.length + 1) suf → LN r1 213 (pre ++ suf) → RGo (wr f1 23 3 (nI (W-1))) r1 o → ∃ f2 r2, m7_loadFirst_L12 N n (nI W) (nI pre.length) (nI l) (nI (pre.length + 1)) f1 = some (nI (W-1), nI l, f2) ∧ m9_lookAlong_L4 N n (nI l) (nI pre.length) r1 = some (nI l, r2) ∧ RGo (wr f2 23 3 (nI (W-1))) r2 o ∧ LN (f2 22) 0 (pre ++ suf) ∧ LN r2 213 (pre ++ suf) ∧ (∀ j, j ≠ 16 → j ≠ 22 → f2 j = f1 j)
  | [], pre, n, f1, r1, hn, hw, hx, h1, h2, h3, hR => by
    obtain ⟨n, rfl⟩ : ∃ m, n = m + 1 := ⟨n - 1, by have : 0 < n := hn; omega⟩
    have hw' : pre.length + 0 + 1 = W := hw
    have e3 : r1 (pos 23 3) = nI (W-1) := by rw [RGo_i3 hR, wr_s]
    have ew : W - 1 = pre.length := by omega
    refine ⟨f1, r1, ?_, ?_, hR, ?_, h3, fun _ _ _ => rfl⟩
    · rw [m7_loadFirst_L12, if_pos (nI_le (by omega) (by omega)), ew]
    · rw [m9_lookAlong_L4, c9_5, h9_5, e3, if_pos (nI_le (by omega) (by omega))]
    · rw [List.append_nil]
      exact h1
  | y :: suf, pre, n, f1, r1, hn, hw, hx, h1, h2, h3, hR => by
    have hl : (y :: suf).length = suf.length + 1 := rfl
    rw [hl] at hn hw
    obtain ⟨n, rfl⟩ : ∃ m, n = m + 1 := ⟨n - 1, by omega⟩
    have e3 : r1 (pos 23 3) = nI (W-1) := by rw [RGo_i3 hR, wr_s]
    have y16 : y < 16 := hx y (mem_mid.mpr (Or.inl rfl))
    have ey : f1 22 (pre.length + 1) = nI y := h2.1
    have er : r1 (pos 22 pre.length) = nI y := by
      rw [pos_l (by omega)]
      exact (LN_mid h3).2.1
    have nl : ¬ nI l ≤ 0 := nI_nle (by omega) (by omega)
    have hle2 : (pre ++ y :: suf).length ≤ 16 := by
      rw [len_mid]
      omega
    rw [m7_loadFirst_L12, m9_lookAlong_L4, if_neg (nI_ge (by omega) (by omega)), rat_nI (by omega) (by decide), ey, ltx_s, if_neg nl, ob1_s, if_neg n10, wr_put y16 (by decide), ltx_s, wr_put (by omega) (by decide), ltx_s, ltx_s, ob3_s, ltx_s, nI_1, nI_1, c9_5, h9_5, e3, if_neg (nI_ge (by omega) (by omega)), e9_L (by omega), k9_22 (by omega), q9_22 (by omega), er, ltx_s, if_neg nl, ob1_s, if_neg n10, a9_put5 y16, ob1_s, ltx_s, ob3_s]
    have g1 : LN (wr (wr f1 16 y 1) 22 pre.length (nI y) 22) 0 (pre ++ [y]) := by
      rw [wr_r, wr_n (by decide)]
      have q := LN_put (x := y) h1
      rw [Nat.zero_add] at q
      exact q
    have g2 : LN (wr (wr f1 16 y 1) 22 pre.length (nI y) 22) ((pre ++ [y]).length + 1) suf := by
      rw [wr_r, wr_n (by decide), len1]
      refine LN_congr ?_ h2.2
      intro i b1 b2
      exact pk_un (by omega)
    have g3 : LN (mr r1 16 y 1) 213 ((pre ++ [y]) ++ suf) := by
      rw [app1]
      exact LN_mr h3 hle2 (by decide) (by decide)
    obtain ⟨f2, r2, a1, a2, a3, a4, a5, a6⟩ := lookB (N := N) (o := o) hl1 hl4 hW suf (pre ++ [y]) n _ _ (by omega) (by rw [len1]; omega) (by rw [app1]; exact hx) g1 g2 g3 (c23l (c23w hR (by decide) (by decide) (by decide)))
    rw [len1] at a1 a2
    rw [app1] at a4 a5
    refine ⟨f2, r2, a1, a2, a3, a4, a5, ?_⟩
    intro j j1 j2
    rw [a6 j j1 j2, wr_n j2, wr_n j1]
def LOUT (f0 f2 : bkA) (ls ls2 : List Nat) (lo T : Nat) (o o2 : Int32) : Prop := (lo = 0 ∧ o2 = o ∧ ls2 = ls ∧ ∀ j, j ≠ 16 → j ≠ 22 → f2 j = f0 j) ∨ (1 ≤ lo ∧ lo ≤ 4 ∧ o2 = o + 1 ∧ ∃ A d B, ls = A ++ d :: B ∧ ls2 = A ++ B ∧ (∀ j, j ≠ 15 → j ≠ 16 → j ≠ 17 → j ≠ 19 → j ≠ 20 → j ≠ 21 → j ≠ 22 → f2 j = f0 j) ∧ f2 15 = upd (f0 15) d 1 ∧ f2 17 = upd (f0 17) d (nI T) ∧ ∀ p, f2 19 p = f0 19 p ∨ f2 19 p = nI d)
theorem lookA {f0 : bkA} {N W t T : Nat} {o : Int32} (hW : W ≤ 16) (ht : t ≤ 400) (e4 : f0 23 4 = nI t) (e5 : f0 23 5 = nI T) (hN : 100 < N) : ∀ (suf pre : List Nat) (n : Nat) (f1 : bkA) (r1 : Nat → Int32), suf.length < n → pre.length + suf.length = W → ND (pre ++ suf) → (∀ x, x ∈ pre ++ suf → x < 16 ∧ (∃ k, k < 5 ∧ f0 12 x = nI k) ∧ ∃ l, 1 ≤ l ∧ l ≤ 4 ∧ f0 13 x = nI l) → LN (f1 22) 0 (pre ++ suf) → LN r1 213 (pre ++ suf) → RGo (wr f1 23 3 (nI W)) r1 o → (∀ j, j ≠ 16 → j ≠ 22 → f1 j = f0 j) → ∃ f2 r2 ls2 lo o2, m7_loadFirst_L12 N n (nI W) (nI pre.length) 0 (nI pre.length) f1 = some (nI ls2.length, nI lo, f2) ∧ m9_lookAlong_L4 N n 0 (nI pre.length) r1 = some (nI lo, r2) ∧ RGo (wr f2 23 3 (nI ls2.length)) r2 o2 ∧ LN (f2 22) 0 ls2 ∧ LN r2 213 ls2 ∧ LOUT f0 f2 (pre ++ suf) ls2 lo T o o2
  | [], pre, n, f1, r1, hn, hw, hnd, hx, h1, h3, hR, hj => by
    obtain ⟨n, rfl⟩ : ∃ m, n = m + 1 := ⟨n - 1, by have : 0 < n := hn; omega⟩
    have ew : W = pre.length := by
      rw [← hw]
      rfl
    have e3 : r1 (pos 23 3) = nI W := by rw [RGo_i3 hR, wr_s]
    rw [List.append_nil] at h1 h3 ⊢
    refine ⟨f1, r1, pre, 0, o, ?_, ?_, ?_, h1, h3, Or.inl ⟨rfl, rfl, rfl, hj⟩⟩
    · rw [m7_loadFirst_L12, ew, if_pos (Int32.le_refl _)]
      rfl
    · rw [m9_lookAlong_L4, c9_5, h9_5, e3, ew, if_pos (Int32.le_refl _)]
      rfl
    · rw [← ew]
      exact hR
  | y :: suf, pre, n, f1, r1, hn, hw, hnd, hx, h1, h3, hR, hj => by
    have hl : (y :: suf).length = suf.length + 1 := rfl
    rw [hl] at hn hw
    obtain ⟨n, rfl⟩ : ∃ m, n = m + 1 := ⟨n - 1, by omega⟩
    have e3 : r1 (pos 23 3) = nI W := by rw [RGo_i3 hR, wr_s]
    obtain ⟨y16, ⟨k, k5, ek⟩, l, l1, l4, el⟩ := hx y (mem_mid.mpr (Or.inl rfl))
    obtain ⟨m1, m2, m3⟩ := LN_mid h1
    rw [Nat.zero_add] at m2 m3
    have er : r1 (pos 22 pre.length) = nI y := by
      rw [pos_l (by omega)]
      exact (LN_mid h3).2.1
    have hlm := len_mid (pre := pre) (suf := suf) (x := y)
    have la : (pre ++ suf).length = pre.length + suf.length := List.length_append
    have e4' : f1 23 4 = nI t := by rw [hj 23 (by decide) (by decide)]; exact e4
    have e5' : f1 23 5 = nI T := by rw [hj 23 (by decide) (by decide)]; exact e5
    have ek' : f1 12 y = nI k := by rw [hj 12 (by decide) (by decide)]; exact ek
    have el' : f1 13 y = nI l := by rw [hj 13 (by decide) (by decide)]; exact el
    have hRh : RGh f1 r1 t := by
      have q := RGo_h (t := t) hR (by rw [wr_i (by decide)]; exact e4')
      exact ⟨fun j i hj2 hi => (q.1 j i hj2 hi).trans (congrFun (wr_n (by omega)) i), q.2⟩
    obtain ⟨x, x1, x2⟩ := S_reason (N := N) (d := y) hRh ht y16 k5 ek' hN
    rw [m7_loadFirst_L12, m9_lookAlong_L4, if_neg (nI_ge (by omega) (by omega)), rat_nI (by omega) (by decide), m2, ltx_s, if_pos (Int32.le_refl 0), e4', x1, ob1_s, ob1_s, c9_5, h9_5, e3, if_neg (nI_ge (by omega) (by omega)), e9_L (by omega), k9_22 (by omega), q9_22 (by omega), er, ltx_s (a := nI y), if_pos (Int32.le_refl 0), x2, ob1_s, ob1_s]
    by_cases c : x = 0
    · obtain ⟨f2, r2, b1, b2, b3, b4, b5, b6, b7, b8⟩ := S_load (N := N) y16 k5 ht ek' el' e4' e5' hnd (fun z hz => (hx z hz).1) (by omega) hR h3 hN
      have e13 : r1 (pos 13 y) = nI l := by rw [hRh.1 13 y (by decide) y16]; exact el'
      have W1 : (pre ++ suf).length = W - 1 := by omega
      rw [W1] at b3
      obtain ⟨f3, r3, c1, c2, c3, c4, c5, c6⟩ := lookB (N := N) (o := o + 1) l1 l4 hW suf pre n f2 r2 (by omega) (by omega) (fun z hz => (hx z (mem_mid.mpr (Or.inr hz))).1) (by rw [b5 22 (by decide) (by decide) (by decide) (by decide) (by decide)]; exact m1) (by rw [b5 22 (by decide) (by decide) (by decide) (by decide) (by decide)]; exact m3) b4 b3
      refine ⟨f3, r3, pre ++ suf, l, o + 1, ?_, ?_, ?_, c4, c5, Or.inr ⟨l1, l4, rfl, pre, y, suf, rfl, rfl, ?_, ?_, ?_, ?_⟩⟩
      · rw [if_pos c, b1, ob1_s, rat_nI y16 (by decide), b5 13 (by decide) (by decide) (by decide) (by decide) (by decide), el', ltx_s, ob3_s, ltx_s, nI_1, W1]
        exact c1
      · rw [if_pos c, a9_of2 y16, ob1_s, e13, b2, ob1_s, ob3_s]
        exact c2
      · rw [W1]
        exact c3
      · intro j j1 j2 j3 j4 j5 j6 j7
        rw [c6 j j2 j7, b5 j j1 j3 j4 j5 j6]
        exact hj j j2 j7
      · rw [c6 15 (by decide) (by decide), b6, hj 15 (by decide) (by decide)]
      · rw [c6 17 (by decide) (by decide), b7, hj 17 (by decide) (by decide)]
      · intro p
        rw [c6 19 (by decide) (by decide), ← hj 19 (by decide) (by decide)]
        exact b8 p
    · have hle2 : (pre ++ y :: suf).length ≤ 16 := by omega
      have g1 : LN (wr (wr f1 16 y x) 22 pre.length (nI y) 22) 0 ((pre ++ [y]) ++ suf) := by
        rw [wr_r, wr_n (by decide), app1]
        have q := LN_set (y := y) h1
        rw [Nat.zero_add] at q
        exact q
      have g3 : LN (mr r1 16 y x) 213 ((pre ++ [y]) ++ suf) := by
        rw [app1]
        exact LN_mr h3 hle2 (by decide) (by decide)
      obtain ⟨f2, r2, ls2, lo, o2, a1, a2, a3, a4, a5, a6⟩ := lookA (f0 := f0) (N := N) (o := o) hW ht e4 e5 hN suf (pre ++ [y]) n _ _ (by omega) (by rw [len1]; omega) (by rw [app1]; exact hnd) (by rw [app1]; exact hx) g1 g3 (c23l (c23w hR (by decide) (by decide) (by decide))) (fun j j1 j2 => by rw [wr_n j2, wr_n j1]; exact hj j j1 j2)
      rw [len1] at a1 a2
      rw [app1] at a6
      refine ⟨f2, r2, ls2, lo, o2, ?_, ?_, a3, a4, a5, a6⟩
      · rw [if_neg c, wr_put y16 (by decide), ltx_s, wr_put (by omega) (by decide), ltx_s, ltx_s, ob3_s, ltx_s, nI_1]
        exact a1
      · rw [if_neg c, a9_put5 y16, ob1_s, ltx_s, ob3_s, nI_1]
        exact a2
