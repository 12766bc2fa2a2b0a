/-! a dough is loaded -/
theorem wr_sw {f : bkA} {j i j' i' : Nat} {v v' : Int32} (h : j ≠ j') : wr (wr f j i v) j' i' v' = wr (wr f j' i' v') j i v := by
  funext a
  funext b
  rw [wr_at, wr_at, wr_at, wr_at]
  by_cases h1 : a = j' ∧ b = i'
  · rw [if_pos h1, if_neg (fun q => h (q.1.symm.trans h1.1)), if_pos h1]
  · rw [if_neg h1, if_neg h1]
theorem loaf_sw {f : bkA} {a b p : Nat} {u v x y z : Int32} : wr (wr (wr (wr (wr f 15 a u) 17 b v) 19 p x) 20 p y) 21 p z = wr (wr (wr (wr (wr f 19 p x) 20 p y) 21 p z) 15 a u) 17 b v := by
  rw [wr_sw (j := 17) (j' := 19) (by decide), wr_sw (j := 15) (j' := 19) (by decide), wr_sw (j := 17) (j' := 20) (by decide), wr_sw (j := 15) (j' := 20) (by decide), wr_sw (j := 17) (j' := 21) (by decide), wr_sw (j := 15) (j' := 21) (by decide)]
theorem load_loop {f : bkA} {r : Nat → Int32} {N d k t T l : Nat} {o : Int32} {w : Int32} {ls : List Nat} (hd : d < 16) (hk : k < 5) (ht : t ≤ 400) (ek : f 12 d = nI k) (e4 : f 23 4 = nI t) (hls : ls.length ≤ 16) (hR : RGo (wr (wr (wr f 15 d (nI 1)) 17 d (nI T)) 23 3 w) r o) (hL : LN r 213 ls) (hN : 100 < N) : ∃ f1 r1, m7_load_L27 N N (nI d) (nI k) (nI l) 0 f = some f1 ∧ m9_load_L31 N N (nI d) (nI l) 0 r = some r1 ∧ RGo (wr (wr (wr f1 15 d (nI 1)) 17 d (nI T)) 23 3 w) r1 o ∧ (∀ j, j ≠ 19 → j ≠ 20 → j ≠ 21 → f1 j = f j) ∧ (∀ p, f1 19 p = f 19 p ∨ f1 19 p = nI d) ∧ LN r1 213 ls := by
  have q : ∃ f1 r1, m7_load_L27 N N (nI d) (nI k) (nI l) (nI 0) f = some f1 ∧ m9_load_L31 N N (nI d) (nI l) (nI 0) r = some r1 ∧ RGo (wr (wr (wr f1 15 d (nI 1)) 17 d (nI T)) 23 3 w) r1 o ∧ (∀ j, j ≠ 19 → j ≠ 20 → j ≠ 21 → f1 j = f j) ∧ (∀ p, f1 19 p = f 19 p ∨ f1 19 p = nI d) ∧ LN r1 213 ls := by
    refine loop_i (σ := Int32 × bkA × (Nat → Int32)) (fun n i x => ∃ f1 r1, m7_load_L27 N n (nI d) (nI k) x.1 (nI i) x.2.1 = some f1 ∧ m9_load_L31 N n (nI d) x.1 (nI i) x.2.2 = some r1 ∧ RGo (wr (wr (wr f1 15 d (nI 1)) 17 d (nI T)) 23 3 w) r1 o ∧ (∀ j, j ≠ 19 → j ≠ 20 → j ≠ 21 → f1 j = f j) ∧ (∀ p, f1 19 p = f 19 p ∨ f1 19 p = nI d) ∧ LN r1 213 ls) (fun i x => RGo (wr (wr (wr x.2.1 15 d (nI 1)) 17 d (nI T)) 23 3 w) x.2.2 o ∧ (∀ j, j ≠ 19 → j ≠ 20 → j ≠ 21 → x.2.1 j = f j) ∧ (∀ p, x.2.1 19 p = f 19 p ∨ x.2.1 19 p = nI d) ∧ LN x.2.2 213 ls) 12 ?_ ?_ N 0 (nI l, f, r) (by omega) (by omega) ⟨hR, fun _ _ _ _ => rfl, fun _ => Or.inl rfl, hL⟩
    · intro n x hx
      refine ⟨x.2.1, x.2.2, ?_, ?_, hx⟩
      · rw [m7_load_L27, if_pos (by decide)]
      · rw [m9_load_L31, if_pos (by decide)]
    · intro n p x hp12 hx ih
      obtain ⟨lf, f1, r1⟩ := x
      obtain ⟨x1, x2, x3, x4⟩ := hx
      dsimp only at x1 x2 x3 x4 ⊢
      have h12 : ¬ (12 : Int32) ≤ nI p := nI_ge hp12 (by decide)
      rw [m7_load_L27, m9_load_L31, if_neg h12, if_neg h12]
      by_cases cl : lf ≤ 0
      · rw [if_pos cl, if_pos cl]
        exact ⟨f1, r1, rfl, rfl, x1, x2, x3, x4⟩
      · have q4 : f1 23 4 = nI t := by rw [x2 23 (by decide) (by decide) (by decide)]; exact e4
        have F4 : wr (wr (wr f1 15 d (nI 1)) 17 d (nI T)) 23 3 w 23 4 = nI t := by
          rw [wr_i (by decide), wr_n (by decide), wr_n (by decide)]
          exact q4
        have F19 : wr (wr (wr f1 15 d (nI 1)) 17 d (nI T)) 23 3 w 19 = f1 19 := by rw [wr_n (by decide), wr_n (by decide), wr_n (by decide)]
        have r12 : r1 (pos 12 d) = nI k := by
          rw [RGo_12' x1 hd, wr_n (by decide), wr_n (by decide), wr_n (by decide), x2 12 (by decide) (by decide) (by decide)]
          exact ek
        have r0 : r1 (pos 0 k) = f1 0 k := by rw [RGo_0' x1 hk, wr_n (by decide), wr_n (by decide), wr_n (by decide)]
        have r1' : r1 (pos 1 k) = f1 1 k := by rw [RGo_1' x1 hk, wr_n (by decide), wr_n (by decide), wr_n (by decide)]
        have f9 := isFree9 (lo := f1 0 k) (hi := f1 1 k) (RGo_h x1 F4) ht hp12
        have efr : fr (wr (wr (wr f1 15 d (nI 1)) 17 d (nI T)) 23 3 w) p = fr f1 p := by
          unfold fr
          rw [F19]
        rw [efr] at f9
        rw [if_neg cl, if_neg cl, q4, warm7 ht hp12, isFree5 hp12, a9_byKind0 hd r12 hk, ob1_s, a9_byKind1 hd r12 hk, ob1_s, r0, r1', f9, ob1_s]
        by_cases cf : fr f1 p = true
        · by_cases A : nI (t - 20 * (p / 4)) < f1 0 k
          · have ci : ¬ (fr f1 p && inR t p (f1 0 k) (f1 1 k)) = true := by
              unfold inR
              rw [decide_eq_false (p := ¬ nI (t - 20 * (p / 4)) < f1 0 k) (fun q => q A), Bool.false_and, Bool.and_false]
              decide
            rw [if_pos cf, if_neg ci]
            simp only [lt1_s, z1, z0, rat_nI hk (show (5 : Nat) < 2^31 by decide), if_pos A, lt2_s, ob2_s, ltx_s, nI_1]
            exact ih (lf, f1, r1) ⟨x1, x2, x3, x4⟩
          · by_cases B : f1 1 k < nI (t - 20 * (p / 4))
            · have ci : ¬ (fr f1 p && inR t p (f1 0 k) (f1 1 k)) = true := by
                unfold inR
                rw [decide_eq_false (p := ¬ f1 1 k < nI (t - 20 * (p / 4))) (fun q => q B), Bool.and_false, Bool.and_false]
                decide
              rw [if_pos cf, if_neg ci]
              simp only [lt1_s, z1, z0, rat_nI hk (show (5 : Nat) < 2^31 by decide), if_neg A, if_pos B, lt2_s, ob2_s, ltx_s, nI_1]
              exact ih (lf, f1, r1) ⟨x1, x2, x3, x4⟩
            · have ci : (fr f1 p && inR t p (f1 0 k) (f1 1 k)) = true := by
                unfold inR
                rw [decide_eq_true A, decide_eq_true B, cf]
                rfl
              rw [if_pos cf, if_pos ci]
              simp only [lt1_s, z1, rat_nI hk (show (5 : Nat) < 2^31 by decide), if_neg A, if_neg B, m5_putLoaf, ltx_s, wr_put hp12 (show (12 : Nat) < 2^31 by decide), lt2_s, ob2_s, e9_P0 hp12, e9_P1 hp12, e9_P2 hp12, k9_19 hp12, k9_20 hp12, k9_21 hp12, q9_19 hp12, q9_20 hp12, q9_21 hp12, mr_u, nI_1]
              refine ih (lf + (-1), wr (wr (wr f1 19 p (nI d)) 20 p 0) 21 p 0, mr (mr (mr r1 19 p (nI d)) 20 p 0) 21 p 0) ⟨?_, ?_, ?_, ?_⟩
              · have q := RGo_loaf (p := p) (v := nI d) (a := 0) (b := 0) x1
                rw [wr_c23 (by decide), wr_c23 (by decide), wr_c23 (by decide), loaf_sw] at q
                exact q
              · intro j h1 h2 h3
                show wr _ 21 p 0 j = _
                rw [wr_n h3, wr_n h2, wr_n h1]
                exact x2 j h1 h2 h3
              · intro p'
                dsimp only
                rw [wr_n (by decide), wr_n (by decide)]
                by_cases e : p' = p
                · subst e
                  rw [wr_s]
                  exact Or.inr rfl
                · rw [wr_i e]
                  exact x3 p'
              · exact LN_mr (LN_mr (LN_mr x4 hls (by decide) (by decide)) hls (by decide) (by decide)) hls (by decide) (by decide)
        · have ci : ¬ (fr f1 p && inR t p (f1 0 k) (f1 1 k)) = true := by
            rw [Bool.not_eq_true] at cf
            rw [cf, Bool.false_and]
            decide
          rw [if_neg cf, if_neg ci]
          simp only [lt1_s, z0, lt2_s, ob2_s, ltx_s, nI_1]
          exact ih (lf, f1, r1) ⟨x1, x2, x3, x4⟩
  exact q
/-- the dough d, which stands between pre and suf, is loaded -/
theorem S_load {f : bkA} {r : Nat → Int32} {N d k t T l W : Nat} {o : Int32} {pre suf : List Nat} (hd : d < 16) (hk : k < 5) (ht : t ≤ 400) (ek : f 12 d = nI k) (el : f 13 d = nI l) (e4 : f 23 4 = nI t) (e5 : f 23 5 = nI T) (hn : ND (pre ++ d :: suf)) (hx : ∀ x, x ∈ pre ++ d :: suf → x < 16) (hW : W = (pre ++ d :: suf).length) (hR : RGo (wr f 23 3 (nI W)) r o) (hL : LN r 213 (pre ++ d :: suf)) (hN : 100 < N) : ∃ f1 r1, m7_load N f (nI d) = some f1 ∧ m9_load N r (nI d) = some r1 ∧ RGo (wr f1 23 3 (nI (pre ++ suf).length)) r1 (o + 1) ∧ LN r1 213 (pre ++ suf) ∧ (∀ j, j ≠ 15 → j ≠ 17 → j ≠ 19 → j ≠ 20 → j ≠ 21 → f1 j = f j) ∧ f1 15 = upd (f 15) d 1 ∧ f1 17 = upd (f 17) d (nI T) ∧ (∀ p, f1 19 p = f 19 p ∨ f1 19 p = nI d) := by
  have hle := php 16 hn hx
  have hlm := len_mid (pre := pre) (suf := suf) (x := d)
  have la : (pre ++ suf).length = pre.length + suf.length := List.length_append
  have e3 : r (pos 23 3) = nI (pre ++ d :: suf).length := by
    rw [RGo_i3 hR, wr_s, hW]
  obtain ⟨s, l1, l2, l3, l4⟩ := leave9 (N := N) e3 hL hn hx hN
  have hR2 : RGo (wr f 23 3 (nI (pre ++ suf).length)) s o := by
    constructor
    · intro j k' hj hk' n20 n21 n22
      by_cases c : j = 23 ∧ k' = 3
      · rw [c.1, c.2, l3, wr_i (by decide), wr_s]
      · rw [l2 j k' hj n22 c, hR.1 j k' hj hk' n20 n21 n22, wr_at, wr_at, wr_at, wr_at, if_neg c, if_neg c]
    · intro p hp12 hne
      rw [wr_n (by decide), wr_n (by decide)] at hne
      have q := hR.2 p hp12 (by rw [wr_n (by decide), wr_n (by decide)]; exact hne)
      rw [wr_n (by decide), wr_n (by decide), wr_n (by decide), wr_n (by decide)] at q ⊢
      rw [l2 20 p (by decide) (by decide) (by omega), l2 21 p (by decide) (by decide) (by omega)]
      exact q
  have h5 : s (pos 23 5) = nI T := by rw [RGo_i5 hR2, wr_i (by decide)]; exact e5
  have h13 : s (pos 13 d) = nI l := by rw [RGo_13' hR2 hd, wr_n (by decide)]; exact el
  have hR3 : RGo (wr (wr (wr f 15 d (nI 1)) 17 d (nI T)) 23 3 (nI (pre ++ suf).length)) (mr (mr s 15 d 1) 17 d (nI T)) o := by
    have q := RGo_wr (j := 17) (i := d) (v := nI T) (RGo_wr (j := 15) (i := d) (v := nI 1) hR2 (by decide) (by decide) (by decide)) (by decide) (by decide) (by decide)
    rw [wr_c23 (by decide), wr_c23 (by decide)] at q
    exact q
  obtain ⟨f1, r1, m1, m2, m3, m4, m5, m6⟩ := load_loop (N := N) (l := l) hd hk ht ek e4 (by omega : (pre ++ suf).length ≤ 16) hR3 (LN_mr (LN_mr l4 (by omega) (by decide) (by decide)) (by omega) (by decide) (by decide)) hN
  refine ⟨wr (wr f1 15 d 1) 17 d (nI T), mr r1 23 9 (o + 1), ?_, ?_, ?_, ?_, ?_, ?_, ?_, ?_⟩
  · unfold m7_load
    rw [rat_nI hd (by decide), ek, ltx_s, rat_nI hd (by decide), el, ltx_s, m1, ob1_s, wr_put hd (by decide), ltx_s, wr_put hd (by decide), wr_n (by decide), m4 23 (by decide) (by decide) (by decide), e5, ltx_s]
  · unfold m9_load
    have h5' : mr s 15 d 1 (pos 23 5) = nI T := by rw [mr_n (by decide) (by decide) (by decide)]; exact h5
    have h13' : mr (mr s 15 d 1) 17 d (nI T) (pos 13 d) = nI l := by rw [mr_n (by decide) (by decide) (by decide), mr_n (by decide) (by decide) (by decide)]; exact h13
    rw [l1, ob1_s, a9_put4 hd, ob1_s, c9_1, h9_1, h5', a9_put6 hd, ob1_s, a9_of2 hd, ob1_s, h13', m2, ob1_s, c9_9, c9_9, h9_9, RGo_i9 m3, ltx_s]
    rfl
  · exact RGo_o m3
  · exact LN_mr m6 (by omega) (by decide) (by decide)
  · intro j h1 h2 h3 h4 h5
    rw [wr_n h2, wr_n h1]
    exact m4 j h3 h4 h5
  · rw [wr_n (by decide), wr_r, m4 15 (by decide) (by decide) (by decide)]
  · rw [wr_r, wr_n (by decide), m4 17 (by decide) (by decide) (by decide)]
  · intro p
    rw [wr_n (by decide), wr_n (by decide)]
    exact m5 p
