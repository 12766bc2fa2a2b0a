/-! p29: a tick, phase by phase: growing older, loading -/
theorem X_age {f f1 : bkA} {K H D t T N : Nat} {ls : List Nat} (h : IV f K H D ls t T) (hN : 100 < N) (e : m7_growOlder N f = some f1) : (∀ j, j ≠ 14 → j ≠ 15 → j ≠ 22 → j ≠ 23 → f1 j = f j) ∧ (∀ k, k ≠ 3 → k ≠ 11 → f1 23 k = f 23 k) ∧ ∀ d, d < 16 → f1 15 d = f 15 d ∨ (f 15 d = nI 0 ∧ f1 15 d = nI 3) := by
  have hle := IV_len h
  have h16 := IV_16 h
  obtain ⟨⟨e0, e1, e2, e3, e4, e5, hK, hH, hD, ht⟩, hd, hl, hp, hh, hn⟩ := h
  have hg0 : G7 f [] ls f := ⟨fun d _ => (if_neg (fun q => by cases q)).symm, fun d _ => (if_neg (fun q => by cases q.1)).symm, (Int32.add_zero _).symm, trivial, hl.1, fun _ _ _ _ _ => rfl, fun _ _ => rfl⟩
  obtain ⟨g, a1, a2⟩ := grow7 (N := N) (W := ls.length) hK (by omega) ls [] N f (by omega) (by rw [List.length_nil]; omega) hl.2.1 (fun d hdm => ⟨h16 d hdm, (hd d ((hl.2.2 d).mp hdm).1).2.1⟩) hg0
  obtain ⟨g14, g15, g11, gk, _, gj, gi⟩ := a2
  rw [List.nil_append] at g14 g15 g11 gk
  have a1' : m7_growOlder_L9 N N (nI ls.length) 0 0 f = some (nI (fil (yg f) ls).length, g) := a1
  unfold m7_growOlder at e
  rw [e3, ltx_s, a1', ob2_s, wr_u, ltx_s] at e
  rw [← Option.some.inj e]
  refine ⟨?_, ?_, ?_⟩
  · intro j h1 h2 h3 h4
    rw [wr_n h4]
    exact gj j h1 h2 h3 h4
  · intro k h1 h2
    rw [wr_i h1]
    exact gi k h2
  · intro d d16
    rw [wr_n (by decide), g15 d d16]
    by_cases c : d ∈ ls ∧ od f d = true
    · rw [if_pos c]
      exact Or.inr ⟨((hl.2.2 d).mp c.1).2, rfl⟩
    · rw [if_neg c]
      exact Or.inl rfl
/-- why a dough can be loaded: as many places fit as it has loaves -/
theorem reason0 {f : bkA} {N d k t l : Nat} (ht : t ≤ 400) (hd : d < 16) (hk : k < 5) (hl : l ≤ 4) (ek : f 12 d = nI k) (el : f 13 d = nI l) (hN : 100 < N) (e : m7_reasonAt N f (nI d) (nI t) = some 0) : l ≤ cn (fun p => fr f p && inR t p (f 0 k) (f 1 k)) 12 := by
  unfold m7_reasonAt at e
  rw [rat_nI hd (by decide), ltx_s, ek, reason7 ht hk hN, ob3_s, rat_nI hd (by decide), ltx_s, el] at e
  have hc := cn_le (P := fun p => fr f p && inR t p (f 0 k) (f 1 k)) (n := 12)
  by_cases c : l ≤ cn (fun p => fr f p && inR t p (f 0 k) (f 1 k)) 12
  · exact c
  · exfalso
    have h4 : ¬ nI l ≤ nI (cn (fun p => fr f p && inR t p (f 0 k) (f 1 k)) 12) := nI_ge (by omega) (by omega)
    split at e
    · split at e
      · split at e
        · first
            | exact absurd (Option.some.inj e) (by decide)
            | (rw [if_neg h4] at e; exact absurd (Option.some.inj e) (by decide))
        · exact absurd (Option.some.inj e) (by decide)
      · exact absurd (Option.some.inj e) (by decide)
    · exact absurd (Option.some.inj e) (by decide)
/-- where the loaves of the dough d are put, from the place p on -/
def fitn (f : bkA) (t k p : Nat) : Nat := cn (fun q => decide (p ≤ q) && (fr f q && inR t q (f 0 k) (f 1 k))) 12
theorem fitn_0 {f : bkA} {t k : Nat} : fitn f t k 0 = cn (fun p => fr f p && inR t p (f 0 k) (f 1 k)) 12 := cn_congr (fun i _ => by rw [decide_eq_true (Nat.zero_le i), Bool.true_and])
theorem fitn_12 {f : bkA} {t k : Nat} : fitn f t k 12 = 0 := cn_0 (fun i hi q => by rw [decide_eq_false (by omega), Bool.false_and] at q; exact absurd q (by decide))
theorem fitn_f {f : bkA} {t k p : Nat} (h : ¬ (fr f p && inR t p (f 0 k) (f 1 k)) = true) : fitn f t k p = fitn f t k (p+1) := cn_congr (fun i _ => by
  by_cases e : i = p
  · subst e
    rw [Bool.not_eq_true] at h
    rw [h, Bool.and_false, Bool.and_false]
  · have e2 : decide (p ≤ i) = decide (p + 1 ≤ i) := by
      by_cases c : p ≤ i
      · rw [decide_eq_true c, decide_eq_true (by omega)]
      · rw [decide_eq_false c, decide_eq_false (by omega)]
    rw [e2])
theorem fitn_t {f : bkA} {t k p : Nat} (hp : p < 12) (h : (fr f p && inR t p (f 0 k) (f 1 k)) = true) : fitn f t k p = fitn f t k (p+1) + 1 := by
  refine cn_ins (b := p) hp ?_ ?_ ?_
  · rw [decide_eq_false (by omega), Bool.false_and]
    decide
  · rw [decide_eq_true (Nat.le_refl p), h]
    rfl
  · intro i _ e
    have e2 : decide (p ≤ i) = decide (p + 1 ≤ i) := by
      by_cases c : p ≤ i
      · rw [decide_eq_true c, decide_eq_true (by omega)]
      · rw [decide_eq_false c, decide_eq_false (by omega)]
    rw [e2]
theorem fitn_c {f g : bkA} {t k p : Nat} (e0 : g 0 = f 0) (e1 : g 1 = f 1) (e19 : ∀ q, p ≤ q → g 19 q = f 19 q) : fitn g t k p = fitn f t k p := cn_congr (fun i _ => by
  by_cases c : p ≤ i
  · unfold fr
    rw [e0, e1, e19 i c]
  · rw [decide_eq_false c, Bool.false_and, Bool.false_and])
/-- how the places change when loaves of the dough d are put -/
def LPL (f f' : bkA) (d : Nat) : Prop := ∀ q, q < 12 → (f' 19 q = f 19 q ∧ f' 20 q = f 20 q ∧ f' 21 q = f 21 q) ∨ (f 19 q = iM ∧ f' 19 q = nI d ∧ f' 20 q = nI 0 ∧ f' 21 q = nI 0)
theorem X_loadl {f : bkA} {N d k t l : Nat} (hd : d < 16) (hk : k < 5) (ht : t ≤ 400) (hl : l ≤ 4) (e4 : f 23 4 = nI t) (hN : 100 < N) : ∃ f1, m7_load_L27 N N (nI d) (nI k) (nI l) 0 f = some f1 ∧ (∀ j, j ≠ 19 → j ≠ 20 → j ≠ 21 → f1 j = f j) ∧ LPL f f1 d ∧ cnt f1 d = cnt f d + min l (fitn f t k 0) ∧ ∀ e, e < 16 → e ≠ d → cnt f1 e = cnt f e := by
  have q : ∃ f1, m7_load_L27 N N (nI d) (nI k) (nI l) (nI 0) f = some f1 ∧ (∀ j, j ≠ 19 → j ≠ 20 → j ≠ 21 → f1 j = f j) ∧ LPL f f1 d ∧ cnt f1 d = cnt f d + min l (fitn f t k 0) ∧ ∀ e, e < 16 → e ≠ d → cnt f1 e = cnt f e := by
    refine loop_i (σ := Nat × bkA) (fun n i x => ∃ f1, m7_load_L27 N n (nI d) (nI k) (nI x.1) (nI i) x.2 = some f1 ∧ (∀ j, j ≠ 19 → j ≠ 20 → j ≠ 21 → f1 j = f j) ∧ LPL f f1 d ∧ cnt f1 d = cnt f d + min l (fitn f t k 0) ∧ ∀ e, e < 16 → e ≠ d → cnt f1 e = cnt f e) (fun i x => x.1 ≤ 4 ∧ (∀ j, j ≠ 19 → j ≠ 20 → j ≠ 21 → x.2 j = f j) ∧ LPL f x.2 d ∧ (∀ q, i ≤ q → x.2 19 q = f 19 q) ∧ cnt x.2 d + min x.1 (fitn f t k i) = cnt f d + min l (fitn f t k 0) ∧ ∀ e, e < 16 → e ≠ d → cnt x.2 e = cnt f e) 12 ?_ ?_ N 0 (l, f) (by omega) (by omega) ⟨hl, fun _ _ _ _ => rfl, fun _ _ => Or.inl ⟨rfl, rfl, rfl⟩, fun _ _ => rfl, rfl, fun _ _ _ => rfl⟩
    · intro n x hx
      obtain ⟨x1, x2, x3, x4, x5, x6⟩ := hx
      refine ⟨x.2, ?_, x2, x3, ?_, x6⟩
      · rw [m7_load_L27, if_pos (by decide)]
      · rw [fitn_12, Nat.min_zero, Nat.add_zero] at x5
        exact x5
    · intro n p x hp12 hx ih
      obtain ⟨lf, f1⟩ := x
      obtain ⟨x1, x2, x3, x4, x5, x6⟩ := hx
      dsimp only at x1 x2 x3 x4 x5 x6 ⊢
      have h12 : ¬ (12 : Int32) ≤ nI p := nI_ge hp12 (by decide)
      rw [m7_load_L27, if_neg h12]
      by_cases cl : lf = 0
      · subst cl
        rw [if_pos (show nI 0 ≤ 0 from Int32.le_refl 0)]
        rw [Nat.zero_min, Nat.add_zero] at x5
        exact ⟨f1, rfl, x2, x3, x5, x6⟩
      · rw [if_neg (nI_nle (by omega) (by omega))]
        have q4 : f1 23 4 = nI t := by rw [x2 23 (by decide) (by decide) (by decide)]; exact e4
        have q0 : f1 0 = f 0 := x2 0 (by decide) (by decide) (by decide)
        have q1 : f1 1 = f 1 := x2 1 (by decide) (by decide) (by decide)
        have q19 : f1 19 p = f 19 p := x4 p (Nat.le_refl p)
        have efr : fr f1 p = fr f p := by
          unfold fr
          rw [q19]
        rw [q4, warm7 ht hp12, isFree5 hp12, efr]
        have skip : ¬ (fr f p && inR t p (f 0 k) (f 1 k)) = true → ∃ f2, m7_load_L27 N n (nI d) (nI k) (nI lf) (nI (p+1)) f1 = some f2 ∧ (∀ j, j ≠ 19 → j ≠ 20 → j ≠ 21 → f2 j = f j) ∧ LPL f f2 d ∧ cnt f2 d = cnt f d + min l (fitn f t k 0) ∧ ∀ e, e < 16 → e ≠ d → cnt f2 e = cnt f e := by
          intro ci
          refine ih (lf, f1) ⟨x1, x2, x3, fun q hq => x4 q (by omega), ?_, x6⟩
          dsimp only
          rw [← fitn_f ci]
          exact x5
        by_cases cf : fr f p = true
        · by_cases A : nI (t - 20 * (p / 4)) < f 0 k
          · have ci : ¬ (fr f p && inR t p (f 0 k) (f 1 k)) = true := by
              unfold inR
              rw [decide_eq_false (p := ¬ nI (t - 20 * (p / 4)) < f 0 k) (fun q => q A), Bool.false_and, Bool.and_false]
              decide
            rw [if_pos cf]
            simp only [lt1_s, z1, rat_nI hk (show (5 : Nat) < 2^31 by decide), q0, if_pos A, lt2_s, ltx_s, nI_1]
            exact skip ci
          · by_cases B : f 1 k < nI (t - 20 * (p / 4))
            · have ci : ¬ (fr f p && inR t p (f 0 k) (f 1 k)) = true := by
                unfold inR
                rw [decide_eq_false (p := ¬ f 1 k < nI (t - 20 * (p / 4))) (fun q => q B), Bool.and_false, Bool.and_false]
                decide
              rw [if_pos cf]
              simp only [lt1_s, z1, rat_nI hk (show (5 : Nat) < 2^31 by decide), q0, q1, if_neg A, if_pos B, lt2_s, ltx_s, nI_1]
              exact skip ci
            · have ci : (fr f p && inR t p (f 0 k) (f 1 k)) = true := by
                unfold inR
                rw [decide_eq_true A, decide_eq_true B, cf]
                rfl
              have el : nI lf + (-1) = nI (lf - 1) := by
                obtain ⟨m, rfl⟩ : ∃ m, lf = m + 1 := ⟨lf - 1, by omega⟩
                rw [← nI_1, Nat.add_sub_cancel]
                exact i_p1
              rw [if_pos cf]
              simp only [lt1_s, z1, rat_nI hk (show (5 : Nat) < 2^31 by decide), q0, q1, if_neg A, if_neg B, m5_putLoaf, ltx_s, wr_put hp12 (show (12 : Nat) < 2^31 by decide), lt2_s, nI_1, el]
              have hM : f 19 p = iM := of_decide_eq_true cf
              have g19 : ∀ q, wr (wr (wr f1 19 p (nI d)) 20 p 0) 21 p 0 19 q = if q = p then nI d else f1 19 q := by
                intro q
                rw [wr_n (by decide), wr_n (by decide)]
                by_cases e : q = p
                · subst e
                  rw [wr_s, if_pos rfl]
                · rw [wr_i e, if_neg e]
              refine ih (lf - 1, wr (wr (wr f1 19 p (nI d)) 20 p 0) 21 p 0) ⟨?_, ?_, ?_, ?_, ?_, ?_⟩
              · dsimp only
                omega
              · intro j h1 h2 h3
                dsimp only
                rw [wr_n h3, wr_n h2, wr_n h1]
                exact x2 j h1 h2 h3
              · intro q hq
                dsimp only
                rw [g19 q]
                by_cases e : q = p
                · subst e
                  rw [if_pos rfl, wr_n (show (20 : Nat) ≠ 21 by decide), wr_s, wr_s]
                  exact Or.inr ⟨hM, rfl, rfl, rfl⟩
                · rw [if_neg e, wr_n (show (20 : Nat) ≠ 21 by decide), wr_i e, wr_i e, wr_n (show (20 : Nat) ≠ 19 by decide), wr_n (show (21 : Nat) ≠ 20 by decide), wr_n (show (21 : Nat) ≠ 19 by decide)]
                  exact x3 q hq
              · intro q hq
                dsimp only
                rw [g19 q, if_neg (by omega)]
                exact x4 q (by omega)
              · dsimp only
                have c1 : cnt (wr (wr (wr f1 19 p (nI d)) 20 p 0) 21 p 0) d = cnt f1 d + 1 := by
                  refine cn_ins (b := p) hp12 ?_ ?_ ?_
                  · rw [q19, hM]
                    intro z
                    exact iM_ne_nI (by omega) (of_decide_eq_true z)
                  · rw [g19 p, if_pos rfl]
                    exact decide_eq_true rfl
                  · intro i _ e
                    rw [g19 i, if_neg e]
                rw [fitn_t hp12 ci] at x5
                rw [c1]
                omega
              · intro e he hne
                dsimp only
                rw [← x6 e he hne]
                refine cn_congr (fun i hi => ?_)
                rw [g19 i]
                by_cases e2 : i = p
                · subst e2
                  rw [if_pos rfl, q19, hM, decide_eq_false (fun z => hne ((nI_eq (by omega) (by omega)).mp z).symm), decide_eq_false (iM_ne_nI (by omega))]
                · rw [if_neg e2]
        · have ci : ¬ (fr f p && inR t p (f 0 k) (f 1 k)) = true := by
            rw [Bool.not_eq_true] at cf
            rw [cf, Bool.false_and]
            decide
          rw [if_neg cf]
          simp only [lt1_s, z0, lt2_s, ltx_s, nI_1]
          exact skip ci
  exact q
/-- the dough d is loaded, all its loaves -/
theorem X_load {f f1 : bkA} {N d k t T l : Nat} (hd : d < 16) (hk : k < 5) (ht : t ≤ 400) (hl : l ≤ 4) (ek : f 12 d = nI k) (el : f 13 d = nI l) (e4 : f 23 4 = nI t) (e5 : f 23 5 = nI T) (hN : 100 < N) (hr : m7_reasonAt N f (nI d) (nI t) = some 0) (e : m7_load N f (nI d) = some f1) : (∀ j, j ≠ 15 → j ≠ 17 → j ≠ 19 → j ≠ 20 → j ≠ 21 → f1 j = f j) ∧ f1 15 = upd (f 15) d 1 ∧ f1 17 = upd (f 17) d (nI T) ∧ LPL f f1 d ∧ cnt f1 d = cnt f d + l ∧ ∀ e, e < 16 → e ≠ d → cnt f1 e = cnt f e := by
  obtain ⟨g, a1, a2, a3, a4, a5⟩ := X_loadl (f := f) (N := N) (d := d) (k := k) (l := l) hd hk ht hl e4 hN
  have hfit := reason0 ht hd hk hl ek el hN hr
  rw [fitn_0, Nat.min_eq_left hfit] at a4
  unfold m7_load at e
  rw [rat_nI hd (by decide), ek, ltx_s, rat_nI hd (by decide), el, ltx_s, a1, ob1_s, wr_put hd (by decide), ltx_s, wr_put hd (by decide), wr_n (by decide), a2 23 (by decide) (by decide) (by decide), e5, ltx_s] at e
  rw [← Option.some.inj e]
  have c19 : wr (wr g 15 d 1) 17 d (nI T) 19 = g 19 := by rw [wr_n (by decide), wr_n (by decide)]
  refine ⟨?_, ?_, ?_, ?_, ?_, ?_⟩
  · intro j h1 h2 h3 h4 h5
    rw [wr_n h2, wr_n h1]
    exact a2 j h3 h4 h5
  · rw [wr_n (by decide), wr_r, a2 15 (by decide) (by decide) (by decide)]
  · rw [wr_r, wr_n (by decide), a2 17 (by decide) (by decide) (by decide)]
  · intro q hq
    rw [c19, wr_n (show (20 : Nat) ≠ 17 by decide), wr_n (show (20 : Nat) ≠ 15 by decide), wr_n (show (21 : Nat) ≠ 17 by decide), wr_n (show (21 : Nat) ≠ 15 by decide)]
    exact a3 q hq
  · rw [cnt_c c19]
    exact a4
  · intro e he hne
    rw [cnt_c c19]
    exact a5 e he hne
/-- what the looking along the line does to a State -/
def LKX (f f2 : bkA) (T : Nat) (ls : List Nat) : Prop := (∀ j, j ≠ 16 → j ≠ 22 → f2 j = f j) ∨ ∃ d l, d ∈ ls ∧ f 13 d = nI l ∧ l ≤ 4 ∧ (∀ j, j ≠ 15 → j ≠ 16 → j ≠ 17 → j ≠ 19 → j ≠ 20 → j ≠ 21 → j ≠ 22 → f2 j = f j) ∧ f2 15 = upd (f 15) d 1 ∧ f2 17 = upd (f 17) d (nI T) ∧ LPL f f2 d ∧ cnt f2 d = cnt f d + l ∧ ∀ e, e < 16 → e ≠ d → cnt f2 e = cnt f e
theorem lookBx {N : Nat} : ∀ (n : Nat) (x y z w : Int32) (f : bkA) (a b : Int32) (f' : bkA), ¬ z ≤ 0 → m7_loadFirst_L12 N n x y z w f = some (a, b, f') → ∀ j, j ≠ 16 → j ≠ 22 → f' j = f j
  | 0, x, y, z, w, f, a, b, f', hz, h => by
    rw [m7_loadFirst_L12] at h
    cases h
  | n+1, x, y, z, w, f, a, b, f', hz, h => by
    rw [m7_loadFirst_L12] at h
    by_cases q : x ≤ w
    · rw [if_pos q] at h
      rw [← (Prod.mk.inj (Prod.mk.inj (Option.some.inj h)).2).2]
      intro j _ _
      rfl
    · rw [if_neg q] at h
      simp only [ltx_s, if_neg hz, ob1_s, if_neg n10, ob3_s] at h
      intro j h1 h2
      rw [lookBx n _ _ _ _ _ _ _ _ hz h j h1 h2, ur_n h2, ur_n h1]
theorem lookAx {f0 : bkA} {N W t T : Nat} (hW : W ≤ 16) (ht : t ≤ 400) (e4 : f0 23 4 = nI t) (e5 : f0 23 5 = nI T) (hN : 100 < N) : ∀ (suf pre : List Nat) (n : Nat) (f1 : bkA) (a b : Int32) (f2 : bkA), pre.length + suf.length = W → (∀ x, x ∈ pre ++ suf → x < 16 ∧ (∃ k, k < 5 ∧ f0 12 x = nI k) ∧ ∃ l, 1 ≤ l ∧ l ≤ 4 ∧ f0 13 x = nI l) → (∀ i, pre.length ≤ i → f1 22 i = f0 22 i) → LN (f0 22) pre.length suf → (∀ j, j ≠ 16 → j ≠ 22 → f1 j = f0 j) → ∀ y : Nat, y ≤ pre.length → m7_loadFirst_L12 N n (nI W) (nI y) 0 (nI pre.length) f1 = some (a, b, f2) → LKX f0 f2 T (pre ++ suf)
  | suf, pre, 0, f1, a, b, f2, hw, hx, h22, hL, hj, y, hy, h => by
    rw [m7_loadFirst_L12] at h
    cases h
  | [], pre, n+1, f1, a, b, f2, hw, hx, h22, hL, hj, y, hy, h => by
    have ew : W = pre.length := by
      rw [← hw]
      rfl
    rw [m7_loadFirst_L12, ew, if_pos (Int32.le_refl _)] at h
    rw [← (Prod.mk.inj (Prod.mk.inj (Option.some.inj h)).2).2]
    exact Or.inl hj
  | v :: suf, pre, n+1, f1, a, b, f2, hw, hx, h22, hL, hj, y, hy, h => by
    have hl : (v :: suf).length = suf.length + 1 := rfl
    rw [hl] at hw
    obtain ⟨v16, ⟨k, k5, ek⟩, l, l1, l4, el⟩ := hx v (mem_mid.mpr (Or.inl rfl))
    have m2 : f1 22 pre.length = nI v := (h22 _ (Nat.le_refl _)).trans hL.1
    have e4' : f1 23 4 = nI t := by rw [hj 23 (by decide) (by decide)]; exact e4
    have e5' : f1 23 5 = nI T := by rw [hj 23 (by decide) (by decide)]; exact e5
    have ek' : f1 12 v = nI k := by rw [hj 12 (by decide) (by decide)]; exact ek
    have el' : f1 13 v = nI l := by rw [hj 13 (by decide) (by decide)]; exact el
    rw [m7_loadFirst_L12, if_neg (nI_ge (by omega) (by omega)), rat_nI (by omega) (by decide), m2, ltx_s, if_pos (Int32.le_refl 0), e4'] at h
    obtain ⟨w0, h1, hB⟩ := ob1_e h
    clear h
    obtain ⟨w1, hr, h1b⟩ := ob1_e h1
    clear h1
    rw [← Option.some.inj h1b] at hB
    clear h1b
    obtain ⟨z1', z2', g, h2, h⟩ := ob3_e hB
    clear hB
    rw [ltx_s, nI_1] at h
    by_cases c : w1 = 0
    · rw [c] at hr
      rw [if_pos c] at h2
      obtain ⟨g2, h3, h4⟩ := ob1_e h2
      obtain ⟨b5, b6, b7, b8, b9, b10⟩ := X_load (N := N) v16 k5 ht l4 ek' el' e4' e5' hN hr h3
      rw [rat_nI v16 (by decide), b5 13 (by decide) (by decide) (by decide) (by decide) (by decide), el', ltx_s] at h4
      have h5 := Prod.mk.inj (Option.some.inj h4)
      have h6 := Prod.mk.inj h5.2
      rw [← h6.1, ← h6.2] at h
      have c6 := lookBx _ _ _ _ _ _ _ _ _ (nI_nle (by omega) (by omega)) h
      have j19 : f1 19 = f0 19 := hj 19 (by decide) (by decide)
      have i19 : f2 19 = g2 19 := c6 19 (by decide) (by decide)
      refine Or.inr ⟨v, l, mem_mid.mpr (Or.inl rfl), el, l4, ?_, ?_, ?_, ?_, ?_, ?_⟩
      · intro j j1 j2 j3 j4 j5 j6 j7
        rw [c6 j j2 j7, b5 j j1 j3 j4 j5 j6]
        exact hj j j2 j7
      · rw [c6 15 (by decide) (by decide), b6, hj 15 (by decide) (by decide)]
      · rw [c6 17 (by decide) (by decide), b7, hj 17 (by decide) (by decide)]
      · intro q hq
        rw [i19, c6 20 (by decide) (by decide), c6 21 (by decide) (by decide), ← j19, ← hj 20 (by decide) (by decide), ← hj 21 (by decide) (by decide)]
        exact b8 q hq
      · rw [cnt_c i19, b9, cnt_c j19]
      · intro e he hne
        rw [cnt_c i19, b10 e he hne, cnt_c j19]
    · rw [if_neg c] at h2
      simp only [ltx_s] at h2
      have h5 := Prod.mk.inj (Option.some.inj h2)
      have h6 := Prod.mk.inj h5.2
      rw [← h5.1, ← h6.1, ← h6.2, nI_1] at h
      have e22 : ∀ i, pre.length + 1 ≤ i → ur (ur f1 16 (rput 16 (f1 16) (nI v) w1)) 22 (rput 16 (ur f1 16 (rput 16 (f1 16) (nI v) w1) 22) (nI y) (nI v)) 22 i = f0 22 i := by
        intro i hi
        rw [ur_s, ur_n (by decide), rput_nI (by omega) (by decide), pk_un (by omega)]
        exact h22 i (by omega)
      have r := lookAx (f0 := f0) (N := N) hW ht e4 e5 hN suf (pre ++ [v]) n _ a b f2 (by rw [len1]; omega) (by rw [app1]; exact hx) (fun i hi => e22 i (by rw [len1] at hi; exact hi)) (by rw [len1]; exact hL.2) (fun j j1 j2 => by rw [ur_n j2, ur_n j1]; exact hj j j1 j2) (y+1) (by rw [len1]; omega) (by rw [len1]; exact h)
      rw [app1] at r
      exact r
theorem X_look {f f3 : bkA} {K H D t T N : Nat} {a : Int32} {ls : List Nat} (h : IV f K H D ls t T) (hN : 100 < N) (e : m7_loadFirst N f = some (a, f3)) : LKX f (wr f3 23 3 (f 23 3)) T ls ∧ ∀ k, k ≠ 3 → f3 23 k = f 23 k := by
  have hle := IV_len h
  have h16 := IV_16 h
  obtain ⟨⟨e0, e1, e2, e3, e4, e5, hK, hH, hD, ht⟩, hd, hl, hp, hh, hn⟩ := h
  have hx : ∀ x, x ∈ [] ++ ls → x < 16 ∧ (∃ k, k < 5 ∧ f 12 x = nI k) ∧ ∃ l, 1 ≤ l ∧ l ≤ 4 ∧ f 13 x = nI l := by
    intro x hxm
    obtain ⟨_, ⟨k, k1, k2⟩, hl3, _⟩ := hd x ((hl.2.2 x).mp hxm).1
    exact ⟨h16 x hxm, ⟨k, by omega, k2⟩, hl3⟩
  unfold m7_loadFirst at e
  rw [e3, ltx_s] at e
  obtain ⟨x1, x2, g, h1, h2⟩ := ob3_e e
  simp only [ltx_s, wr_u] at h2
  have q := lookAx (f0 := f) (N := N) (W := ls.length) (by omega) ht e4 e5 hN ls [] N f x1 x2 g (by rw [List.length_nil]; omega) hx (fun _ _ => rfl) hl.1 (fun _ _ _ => rfl) 0 (Nat.zero_le _) h1
  rw [List.nil_append] at q
  have e6 := (Prod.mk.inj (Option.some.inj h2)).2
  have g23 : g 23 = f 23 := by
    rcases q with q | ⟨d, l, _, _, _, q, _⟩
    · exact q 23 (by decide) (by decide)
    · exact q 23 (by decide) (by decide) (by decide) (by decide) (by decide) (by decide) (by decide)
  have eg : wr f3 23 3 (f 23 3) = g := by
    rw [← e6, wr_wr, ← g23, wr_self]
  rw [eg]
  refine ⟨q, ?_⟩
  intro k hk
  rw [← e6, wr_i hk, g23]
