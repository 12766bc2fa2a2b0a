/-! values and reasons -/
def cn (P : Nat → Bool) (n : Nat) : Nat := sumN (fun i => if P i = true then 1 else 0) n
theorem cn_t {P : Nat → Bool} {n : Nat} (h : P n = true) : cn P (n+1) = cn P n + 1 := by
  show sumN _ n + (if P n = true then 1 else 0) = _
  rw [if_pos h]
  rfl
theorem cn_f {P : Nat → Bool} {n : Nat} (h : ¬ P n = true) : cn P (n+1) = cn P n := by
  show sumN _ n + (if P n = true then 1 else 0) = _
  rw [if_neg h]
  rfl
theorem cn_le {P : Nat → Bool} : ∀ {n : Nat}, cn P n ≤ n
  | 0 => Nat.le_refl 0
  | n+1 => by
    have h := cn_le (P := P) (n := n)
    by_cases q : P n = true
    · rw [cn_t q]
      omega
    · rw [cn_f q]
      omega
/-- the rows of places but their loaves' numbers, of kinds and doughs, and a heat of the oven -/
def RGh (f : bkA) (r : Nat → Int32) (t : Nat) : Prop := (∀ j i, j < 20 → i < pL j → r (pos j i) = f j i) ∧ r (pos 23 4) = nI t
theorem RGh_of {f : bkA} {r : Nat → Int32} {t : Nat} (h : RG f r) (e4 : f 23 4 = nI t) : RGh f r t := ⟨fun j i hj hi => RG_a h (by omega) hi (by omega), (RG_i4 h).trans e4⟩
theorem RGh_heat {f : bkA} {r : Nat → Int32} {t : Nat} (h : RG f r) : RGh f (mr r 23 4 (nI t)) t := ⟨fun j i hj hi => by rw [mr_n (by omega) (by decide) (by omega)]; exact RG_a h (by omega) hi (by omega), mr_s⟩
theorem warm7 {t p : Nat} (ht : t ≤ 400) (hp : p < 12) : m7_warmthOf (nI p) (nI t) = nI (t - 20 * (p / 4)) := by
  unfold m7_warmthOf
  have e : nI p / 4 = nI (p / 4) := pk_div (d := 4) (by omega) (by decide) (by decide)
  have e2 : (20 : Int32) * nI (p / 4) = nI (20 * (p / 4)) := pk_mul 20 (p / 4)
  rw [e, e2]
  by_cases h : 20 * (p / 4) ≤ t
  · rw [pk_sub h, if_neg (nI_pos (by omega))]
  · rw [if_pos (pk_sneg (by omega) (by omega))]
    have e3 : t - 20 * (p / 4) = 0 := by omega
    rw [e3]
    rfl
theorem heat9 {f : bkA} {r : Nat → Int32} {t p : Nat} (hR : RGh f r t) (ht : t ≤ 400) (hp : p < 12) : m9_heatAt r (nI p) = some (nI (t - 20 * (p / 4))) := by
  unfold m9_heatAt
  rw [c9_0, h9_0, hR.2]
  have e : nI p / 4 = nI (p / 4) := pk_div (d := 4) (by omega) (by decide) (by decide)
  have e2 : (20 : Int32) * nI (p / 4) = nI (20 * (p / 4)) := pk_mul 20 (p / 4)
  rw [e, e2, ltx_s]
  by_cases h : 20 * (p / 4) ≤ t
  · rw [pk_sub h, if_pos (nI_pos' (by omega))]
  · rw [if_neg (Int32.not_le.mpr (pk_sneg (by omega) (by omega)))]
    have e3 : t - 20 * (p / 4) = 0 := by omega
    rw [e3]
    rfl
def fr (f : bkA) (p : Nat) : Bool := decide (f 19 p = -1)
def inR (t p : Nat) (lo hi : Int32) : Bool := decide (¬ nI (t - 20 * (p / 4)) < lo) && decide (¬ hi < nI (t - 20 * (p / 4)))
theorem isFree5 {f : bkA} {p : Nat} (hp : p < 12) : m5_isFree f (nI p) = if fr f p = true then 1 else 0 := by
  unfold m5_isFree fr
  rw [rat_nI hp (by decide)]
  by_cases h : f 19 p = -1
  · rw [if_pos h, if_pos (decide_eq_true h)]
  · rw [if_neg h, if_neg (by rw [decide_eq_false h]; decide)]
theorem in9 {t p : Nat} {lo hi : Int32} : m9_in (nI (t - 20 * (p / 4))) lo hi = if inR t p lo hi = true then 1 else 0 := by
  unfold m9_in inR
  by_cases h : nI (t - 20 * (p / 4)) < lo
  · rw [if_pos h, if_neg]
    rw [decide_eq_false (fun q => q h), Bool.false_and]
    decide
  · rw [if_neg h, decide_eq_true h]
    by_cases h2 : hi < nI (t - 20 * (p / 4))
    · rw [if_pos h2, if_neg]
      rw [decide_eq_false (fun q => q h2), Bool.and_false]
      decide
    · rw [if_neg h2, decide_eq_true h2, if_pos (show (true && true) = true from rfl)]
theorem isFree9 {f : bkA} {r : Nat → Int32} {t p : Nat} {lo hi : Int32} (hR : RGh f r t) (ht : t ≤ 400) (hp : p < 12) : m9_isFreeIn r (nI p) lo hi = some (if (fr f p && inR t p lo hi) = true then 1 else 0) := by
  unfold m9_isFreeIn fr
  rw [a9_at0 hp, ob1_s, hR.1 19 p (by decide) hp, heat9 hR ht hp, ob1_s, in9, lt1_s]
  by_cases h : f 19 p = -1
  · rw [if_pos h, decide_eq_true h, Bool.true_and]
    by_cases h2 : inR t p lo hi = true
    · rw [if_pos h2, z1]
    · rw [if_neg h2, z0]
  · rw [if_neg h, decide_eq_false h, Bool.false_and, if_neg (by decide)]
theorem freeIn9 {f : bkA} {r : Nat → Int32} {t N : Nat} {lo hi : Int32} (hR : RGh f r t) (ht : t ≤ 400) (hN : 100 < N) : m9_freeIn N r lo hi = some (nI (cn (fun p => fr f p && inR t p lo hi) 12)) := by
  unfold m9_freeIn
  have q : m9_freeIn_L5 N N lo hi (nI 0) (nI 0) r = some (nI (cn (fun p => fr f p && inR t p lo hi) 12)) := by
    refine loop_i (σ := Int32) (fun n i s => m9_freeIn_L5 N n lo hi s (nI i) r = some (nI (cn (fun p => fr f p && inR t p lo hi) 12))) (fun i s => s = nI (cn (fun p => fr f p && inR t p lo hi) i)) 12 ?_ ?_ N 0 (nI 0) (by omega) (by omega) rfl
    · intro n s hs
      rw [m9_freeIn_L5, if_pos (by decide), hs]
    · intro n i s hi2 hs ih
      rw [m9_freeIn_L5, if_neg (show ¬ (12 : Int32) ≤ nI i from nI_ge hi2 (by decide)), isFree9 hR ht hi2, ob1_s]
      simp only [lt1_s, ltx_s, nI_1]
      refine ih _ ?_
      rw [hs]
      by_cases h : (fr f i && inR t i lo hi) = true
      · rw [if_pos h, z1, cn_t (P := fun p => fr f p && inR t p lo hi) h, nI_1]
      · rw [if_neg h, z0, cn_f (P := fun p => fr f p && inR t p lo hi) h, Int32.add_zero]
  have q' : m9_freeIn_L5 N N lo hi 0 0 r = some (nI (cn (fun p => fr f p && inR t p lo hi) 12)) := q
  rw [q', ob1_s]
theorem countFree7 {f : bkA} {N : Nat} (hN : 100 < N) : m5_countFree N f = some (nI (cn (fr f) 12)) := by
  unfold m5_countFree
  have q : m5_countFree_L4 N N (nI 0) (nI 0) f = some (nI (cn (fr f) 12)) := by
    refine loop_i (σ := Int32) (fun n i s => m5_countFree_L4 N n s (nI i) f = some (nI (cn (fr f) 12))) (fun i s => s = nI (cn (fr f) i)) 12 ?_ ?_ N 0 (nI 0) (by omega) (by omega) rfl
    · intro n s hs
      rw [m5_countFree_L4, if_pos (by decide), hs]
    · intro n i s hi2 hs ih
      rw [m5_countFree_L4, if_neg (show ¬ (12 : Int32) ≤ nI i from nI_ge hi2 (by decide)), isFree5 hi2]
      simp only [lt1_s, ltx_s, nI_1]
      refine ih _ ?_
      rw [hs]
      by_cases h : fr f i = true
      · rw [if_pos h, z1, cn_t h, nI_1]
      · rw [if_neg h, z0, cn_f h]
  have q' : m5_countFree_L4 N N 0 0 f = some (nI (cn (fr f) 12)) := q
  rw [q', ob1_s]
theorem cn_congr {P Q : Nat → Bool} {n : Nat} (h : ∀ i, i < n → P i = Q i) : cn P n = cn Q n := sumN_congr (fun i hi => by rw [h i hi])
theorem inR_all {t p : Nat} (ht : t ≤ 400) : inR t p 0 400 = true := by
  unfold inR
  rw [decide_eq_true (show ¬ nI (t - 20 * (p / 4)) < 0 from nI_pos (by omega)), decide_eq_true (show ¬ (400 : Int32) < nI (t - 20 * (p / 4)) from nI_nlt (a := 400) (b := t - 20 * (p / 4)) (by omega) (by decide))]
  rfl
theorem inR_400 {t p : Nat} {lo : Int32} (ht : t ≤ 400) : inR t p lo 400 = decide (¬ nI (t - 20 * (p / 4)) < lo) := by
  unfold inR
  rw [decide_eq_true (show ¬ (400 : Int32) < nI (t - 20 * (p / 4)) from nI_nlt (a := 400) (b := t - 20 * (p / 4)) (by omega) (by decide)), Bool.and_true]
theorem free_all {f : bkA} {t : Nat} (ht : t ≤ 400) : cn (fun p => fr f p && inR t p 0 400) 12 = cn (fr f) 12 := cn_congr (fun i _ => by rw [inR_all ht, Bool.and_true])
theorem reason7 {f : bkA} {N d k t : Nat} (ht : t ≤ 400) (hk : k < 5) (hN : 100 < N) : m7_reasonAt_L24 N N (nI d) (nI t) (nI k) 0 0 0 0 f = some (nI (cn (fr f) 12), nI (cn (fun p => fr f p && inR t p (f 0 k) 400) 12), nI (cn (fun p => fr f p && inR t p (f 0 k) (f 1 k)) 12)) := by
  have q : m7_reasonAt_L24 N N (nI d) (nI t) (nI k) (nI 0) (nI 0) (nI 0) (nI 0) f = some (nI (cn (fr f) 12), nI (cn (fun p => fr f p && inR t p (f 0 k) 400) 12), nI (cn (fun p => fr f p && inR t p (f 0 k) (f 1 k)) 12)) := by
    refine loop_i (σ := Int32 × Int32 × Int32) (fun n i s => m7_reasonAt_L24 N n (nI d) (nI t) (nI k) s.1 s.2.1 s.2.2 (nI i) f = some (nI (cn (fr f) 12), nI (cn (fun p => fr f p && inR t p (f 0 k) 400) 12), nI (cn (fun p => fr f p && inR t p (f 0 k) (f 1 k)) 12))) (fun i s => s = (nI (cn (fr f) i), nI (cn (fun p => fr f p && inR t p (f 0 k) 400) i), nI (cn (fun p => fr f p && inR t p (f 0 k) (f 1 k)) i))) 12 ?_ ?_ N 0 (nI 0, nI 0, nI 0) (by omega) (by omega) rfl
    · intro n s hs
      subst hs
      rw [m7_reasonAt_L24, if_pos (by decide)]
    · intro n i s hi2 hs ih
      subst hs
      rw [m7_reasonAt_L24, if_neg (show ¬ (12 : Int32) ≤ nI i from nI_ge hi2 (by decide)), isFree5 hi2, lt1_s]
      by_cases h : fr f i = true
      · simp only [if_pos h, z1, warm7 ht hi2, lt1_s, rat_nI hk (show (5 : Nat) < 2^31 by decide), ltx_s, lt3_s, nI_1]
        by_cases h1 : nI (t - 20 * (i / 4)) < f 0 k
        · have g1 : ¬ (fr f i && inR t i (f 0 k) 400) = true := by
            rw [inR_400 ht, decide_eq_false (fun q => q h1), Bool.and_false]
            decide
          have g2 : ¬ (fr f i && inR t i (f 0 k) (f 1 k)) = true := by
            unfold inR
            rw [decide_eq_false (p := ¬ nI (t - 20 * (i / 4)) < f 0 k) (fun q => q h1), Bool.false_and, Bool.and_false]
            decide
          simp only [if_pos h1, if_true, Int32.add_zero]
          exact ih (nI (cn (fr f) i + 1), nI (cn (fun p => fr f p && inR t p (f 0 k) 400) i), nI (cn (fun p => fr f p && inR t p (f 0 k) (f 1 k)) i)) (by rw [cn_t h, cn_f (P := fun p => fr f p && inR t p (f 0 k) 400) g1, cn_f (P := fun p => fr f p && inR t p (f 0 k) (f 1 k)) g2])
        · have g1 : (fr f i && inR t i (f 0 k) 400) = true := by
            rw [inR_400 ht, decide_eq_true h1, Bool.and_true]
            exact h
          by_cases h2 : f 1 k < nI (t - 20 * (i / 4))
          · have g2 : ¬ (fr f i && inR t i (f 0 k) (f 1 k)) = true := by
              unfold inR
              rw [decide_eq_false (p := ¬ f 1 k < nI (t - 20 * (i / 4))) (fun q => q h2), Bool.and_false, Bool.and_false]
              decide
            simp only [if_neg h1, if_pos h2, if_neg n10, Int32.add_zero, nI_1]
            exact ih (nI (cn (fr f) i + 1), nI (cn (fun p => fr f p && inR t p (f 0 k) 400) i + 1), nI (cn (fun p => fr f p && inR t p (f 0 k) (f 1 k)) i)) (by rw [cn_t h, cn_t (P := fun p => fr f p && inR t p (f 0 k) 400) g1, cn_f (P := fun p => fr f p && inR t p (f 0 k) (f 1 k)) g2])
          · have g2 : (fr f i && inR t i (f 0 k) (f 1 k)) = true := by
              unfold inR
              rw [decide_eq_true h1, decide_eq_true h2, Bool.and_true, Bool.and_true]
              exact h
            simp only [if_neg h1, if_neg h2, if_neg n10, nI_1]
            exact ih (nI (cn (fr f) i + 1), nI (cn (fun p => fr f p && inR t p (f 0 k) 400) i + 1), nI (cn (fun p => fr f p && inR t p (f 0 k) (f 1 k)) i + 1)) (by rw [cn_t h, cn_t (P := fun p => fr f p && inR t p (f 0 k) 400) g1, cn_t (P := fun p => fr f p && inR t p (f 0 k) (f 1 k)) g2])
      · have g1 : ¬ (fr f i && inR t i (f 0 k) 400) = true := by
          rw [Bool.not_eq_true] at h
          rw [h, Bool.false_and]
          decide
        have g2 : ¬ (fr f i && inR t i (f 0 k) (f 1 k)) = true := by
          rw [Bool.not_eq_true] at h
          rw [h, Bool.false_and]
          decide
        simp only [if_neg h, if_true, lt3_s, ltx_s, nI_1]
        exact ih (nI (cn (fr f) i), nI (cn (fun p => fr f p && inR t p (f 0 k) 400) i), nI (cn (fun p => fr f p && inR t p (f 0 k) (f 1 k)) i)) (by rw [cn_f h, cn_f (P := fun p => fr f p && inR t p (f 0 k) 400) g1, cn_f (P := fun p => fr f p && inR t p (f 0 k) (f 1 k)) g2])
  exact q
/-- why a dough can't be loaded: the class and the model alike, at any heat -/
theorem S_reason {f : bkA} {r : Nat → Int32} {N d k t : Nat} (hR : RGh f r t) (ht : t ≤ 400) (hd : d < 16) (hk : k < 5) (ek : f 12 d = nI k) (hN : 100 < N) : ∃ x, m7_reasonAt N f (nI d) (nI t) = some x ∧ m9_reasonOf N r (nI d) = some x := by
  have q12 : r (pos 12 d) = nI k := (hR.1 12 d (by decide) hd).trans ek
  unfold m7_reasonAt m9_reasonOf
  rw [rat_nI hd (by decide), ltx_s, ek, reason7 ht hk hN, ob3_s, rat_nI hd (by decide), ltx_s, rat_nI hk (by decide), rat_nI hd (by decide)]
  rw [a9_of2 hd, ob1_s, a9_of3 hd, ob1_s, a9_byKind3 hd q12 hk, ob1_s, a9_byKind0 hd q12 hk, a9_byKind1 hd q12 hk]
  simp only [ob1_s, freeIn9 hR ht hN]
  rw [hR.1 3 k (by decide) hk, hR.1 14 d (by decide) hd, hR.1 13 d (by decide) hd, hR.1 0 k (by decide) hk, hR.1 1 k (by decide) hk, free_all ht]
  by_cases h1 : f 3 k ≤ f 14 d
  · rw [if_pos h1]
    by_cases h2 : f 13 d ≤ nI (cn (fr f) 12)
    · rw [if_pos h2]
      by_cases h3 : f 13 d ≤ nI (cn (fun p => fr f p && inR t p (f 0 k) 400) 12)
      · rw [if_pos h3]
        by_cases h4 : f 13 d ≤ nI (cn (fun p => fr f p && inR t p (f 0 k) (f 1 k)) 12)
        · rw [if_pos h4]
          exact ⟨0, rfl, rfl⟩
        · rw [if_neg h4]
          exact ⟨5, rfl, rfl⟩
      · rw [if_neg h3]
        exact ⟨4, rfl, rfl⟩
    · rw [if_neg h2]
      exact ⟨3, rfl, rfl⟩
  · rw [if_neg h1]
    exact ⟨2, rfl, rfl⟩
theorem S_reasonNow {f : bkA} {r : Nat → Int32} {K H D t T N d : Nat} {ls : List Nat} (h : SIM f r K H D ls t T) (hd : d < D) (hN : 100 < N) : ∃ x, m7_reasonNow N f (nI d) = some x ∧ m9_reasonNow N r (nI d) = some x := by
  have s1 := S_isWaiting h hd
  obtain ⟨⟨⟨e0, e1, e2, e3, e4, e5, hK, hH, hD, ht⟩, hdd, hl, hp, hh, hn⟩, hR, hL⟩ := h
  obtain ⟨_, ⟨k, k1, k2⟩, _⟩ := hdd d hd
  obtain ⟨x, x1, x2⟩ := S_reason (N := N) (d := d) (k := k) (RGh_of hR e4) ht (by omega) (by omega) k2 hN
  unfold m7_reasonNow m9_reasonNow
  rw [s1, a9_of4 (by omega), ob1_s, RG_15 hR (by omega), lt1_s, e4, x1, x2]
  by_cases q : f 15 d = 0
  · rw [if_pos q, if_pos q, z1]
    exact ⟨x, rfl, rfl⟩
  · rw [if_neg q, if_neg q, z0]
    exact ⟨-1, rfl, rfl⟩
