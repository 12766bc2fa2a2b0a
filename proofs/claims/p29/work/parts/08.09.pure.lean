/-! what a household owes: the class counts who is ahead, the model hands the missing logs out one by one -/
def bf (m : Nat → Nat) (o h : Nat) : Bool := decide (m h < m o ∨ (m o = m h ∧ o < h))
theorem bf_t {m : Nat → Nat} {o h : Nat} (q : m h < m o ∨ (m o = m h ∧ o < h)) : bf m o h = true := decide_eq_true q
theorem bf_o {m : Nat → Nat} {o h : Nat} (q : bf m o h = true) : m h < m o ∨ (m o = m h ∧ o < h) := of_decide_eq_true q
def ah (m : Nat → Nat) (H h : Nat) : Nat := cn (fun o => bf m o h) H
theorem cn_mono {P Q : Nat → Bool} : ∀ {n : Nat}, (∀ i, i < n → P i = true → Q i = true) → cn P n ≤ cn Q n
  | 0, _ => Nat.le_refl 0
  | n+1, h => by
    have h1 := cn_mono (n := n) (fun i hi => h i (by omega))
    by_cases q : P n = true
    · rw [cn_t q, cn_t (h n (by omega) q)]
      omega
    · rw [cn_f q]
      by_cases q2 : Q n = true
      · rw [cn_t q2]
        omega
      · rw [cn_f q2]
        exact h1
theorem cn_lt {P Q : Nat → Bool} {j : Nat} : ∀ {n : Nat}, (∀ i, i < n → P i = true → Q i = true) → j < n → (¬ P j = true) → Q j = true → cn P n < cn Q n
  | 0, _, hj, _, _ => absurd hj (by omega)
  | n+1, h, hj, h1, h2 => by
    by_cases e : j = n
    · subst e
      rw [cn_f h1, cn_t h2]
      have := cn_mono (P := P) (Q := Q) (n := j) (fun i hi => h i (by omega))
      omega
    · have h3 := cn_lt (n := n) (fun i hi => h i (by omega)) (by omega) h1 h2
      by_cases q : P n = true
      · rw [cn_t q, cn_t (h n (by omega) q)]
        omega
      · rw [cn_f q]
        by_cases q2 : Q n = true
        · rw [cn_t q2]
          omega
        · rw [cn_f q2]
          exact h3
theorem cn_all {P : Nat → Bool} : ∀ {n : Nat}, (∀ i, i < n → P i = true) → cn P n = n
  | 0, _ => rfl
  | n+1, h => by
    rw [cn_t (h n (by omega)), cn_all (fun i hi => h i (by omega))]
theorem cn_0 {P : Nat → Bool} : ∀ {n : Nat}, (∀ i, i < n → ¬ P i = true) → cn P n = 0
  | 0, _ => rfl
  | n+1, h => by
    rw [cn_f (h n (by omega)), cn_0 (fun i hi => h i (by omega))]
theorem cn_ins {P Q : Nat → Bool} {b : Nat} : ∀ {n : Nat}, b < n → (¬ P b = true) → Q b = true → (∀ i, i < n → i ≠ b → Q i = P i) → cn Q n = cn P n + 1
  | 0, hb, _, _, _ => absurd hb (by omega)
  | n+1, hb, h1, h2, h3 => by
    by_cases e : b = n
    · subst e
      rw [cn_f h1, cn_t h2, cn_congr (P := Q) (Q := P) (fun i hi => h3 i (by omega) (by omega))]
    · have h4 := cn_ins (n := n) (by omega) h1 h2 (fun i hi => h3 i (by omega))
      have h5 := h3 n (by omega) (fun q => e q.symm)
      by_cases q : P n = true
      · rw [cn_t q, cn_t (h5.trans q), h4]
      · rw [cn_f q, cn_f (by rw [h5]; exact q), h4]
theorem ah_lt {m : Nat → Nat} {H o h : Nat} (ho : o < H) (q : bf m o h = true) : ah m H o < ah m H h := by
  refine cn_lt (j := o) ?_ ho ?_ q
  · intro i _ q2
    have h1 := bf_o q
    have h2 := bf_o q2
    exact bf_t (by omega)
  · intro q2
    have h2 := bf_o q2
    omega
theorem ah_inj {m : Nat → Nat} {H o h : Nat} (ho : o < H) (hh : h < H) (e : ah m H o = ah m H h) : o = h := by
  by_cases q : o = h
  · exact q
  · exfalso
    by_cases q2 : m h < m o ∨ (m o = m h ∧ o < h)
    · have := ah_lt ho (bf_t q2)
      omega
    · have := ah_lt (m := m) (h := o) hh (bf_t (by omega))
      omega
/-- the first of the rest has just so many ahead as were taken before -/
theorem ah_next {m : Nat → Nat} {H k b : Nat} (hk : cn (fun o => decide (ah m H o < k)) H = k) (hb : b < H) (h1 : ¬ ah m H b < k) (h2 : ∀ o, o < H → (¬ ah m H o < k) → o ≠ b → bf m b o = true) : ah m H b = k ∧ cn (fun o => decide (ah m H o < k + 1)) H = k + 1 := by
  have e : ah m H b = k := by
    refine Eq.trans (cn_congr (Q := fun o => decide (ah m H o < k)) ?_) hk
    intro o ho
    by_cases q : ah m H o < k
    · rw [decide_eq_true q]
      by_cases q2 : m b < m o ∨ (m o = m b ∧ o < b)
      · exact bf_t q2
      · exfalso
        have q3 : o ≠ b := by
          intro q4
          subst q4
          exact h1 q
        have := ah_lt (m := m) (h := o) hb (bf_t (by omega))
        omega
    · rw [decide_eq_false q]
      by_cases q2 : bf m o b = true
      · exfalso
        have q3 := bf_o q2
        have q4 : o ≠ b := by
          intro e
          subst e
          omega
        have q5 := bf_o (h2 o ho q q4)
        omega
      · rw [Bool.not_eq_true] at q2
        exact q2
  refine ⟨e, ?_⟩
  have q := cn_ins (P := fun o => decide (ah m H o < k)) (Q := fun o => decide (ah m H o < k + 1)) hb (by
    show ¬ decide (ah m H b < k) = true
    rw [decide_eq_false h1]
    decide) (by
    show decide (ah m H b < k + 1) = true
    exact decide_eq_true (by omega)) (by
    intro o ho hne
    show decide (ah m H o < k + 1) = decide (ah m H o < k)
    by_cases q : ah m H o < k
    · rw [decide_eq_true q, decide_eq_true (show ah m H o < k + 1 by omega)]
    · have q2 : ¬ ah m H o < k + 1 := by
        intro q3
        exact hne (ah_inj (m := m) ho hb (by omega))
      rw [decide_eq_false q, decide_eq_false q2])
  rw [q, hk]
theorem sumN_mul {a : Nat → Nat} {u : Nat} : ∀ {n : Nat}, sumN (fun o => u * a o) n = u * sumN a n
  | 0 => rfl
  | n+1 => by
    show sumN _ n + u * a n = u * (sumN a n + a n)
    rw [sumN_mul, Nat.mul_add]
theorem sumN_add {a b : Nat → Nat} : ∀ {n : Nat}, sumN (fun o => a o + b o) n = sumN a n + sumN b n
  | 0 => rfl
  | n+1 => by
    show sumN _ n + (a n + b n) = sumN a n + a n + (sumN b n + b n)
    rw [sumN_add]
    omega
theorem sumN_c {c : Nat} : ∀ {n : Nat}, sumN (fun _ => c) n = n * c
  | 0 => by
    rw [Nat.zero_mul]
    rfl
  | n+1 => by
    show sumN _ n + c = (n+1) * c
    rw [sumN_c, Nat.succ_mul]
/-- the whole shares are at most all that was burnt; what is missing is at most a log a household -/
theorem shares {a : Nat → Nat} {u S H : Nat} (hS : S = sumN a H) (h0 : 0 < S) : sumN (fun o => u * a o / S) H ≤ u ∧ u - sumN (fun o => u * a o / S) H ≤ H := by
  have e : sumN (fun o => S * (u * a o / S) + u * a o % S) H = u * S := by
    rw [sumN_congr (b := fun o => u * a o) (fun i _ => Nat.div_add_mod _ _), sumN_mul, ← hS]
  rw [sumN_add, sumN_mul] at e
  have h1 : sumN (fun o => u * a o % S) H ≤ H * S := by
    rw [← sumN_c (c := S) (n := H)]
    exact sumN_le (fun i _ => Nat.le_of_lt (Nat.mod_lt _ h0))
  have h2 : sumN (fun o => u * a o / S) H ≤ u := by
    refine Nat.le_of_mul_le_mul_left (?_ : S * _ ≤ S * _) h0
    rw [Nat.mul_comm S u]
    omega
  refine ⟨h2, ?_⟩
  refine Nat.le_of_mul_le_mul_left (?_ : S * _ ≤ S * _) h0
  rw [Nat.mul_sub, Nat.mul_comm S u, Nat.mul_comm S H]
  omega
/-- what a household owes -/
def owv (u : Nat) (a : Nat → Nat) (H h : Nat) : Nat := if sumN a H = 0 then 0 else u * a h / sumN a H + (if ah (fun o => u * a o % sumN a H) H h < u - sumN (fun o => u * a o / sumN a H) H then 1 else 0)
theorem lN0 : (0 : Int64) = lN 0 := rfl
theorem O7 {f : bkA} {N u H h : Nat} {a : Nat → Nat} (e1 : f 23 1 = nI H) (hH : H ≤ 8) (e6 : f 23 6 = nI u) (ha : ∀ h, h < 8 → f 6 h = nI (a h)) (hu : u < 2^28) (hS : sumN a H < 2^28) (hh : h < H) (hN : 100 < N) : m7_owedBy N f (nI h) = some (nI (owv u a H h)) := by
  unfold m7_owedBy owv
  rw [U7_useOfAll e1 hH ha hN, ob1_s, nI_l (by omega), ltx_s]
  by_cases h0 : sumN a H = 0
  · rw [if_pos h0, if_neg]
    · rfl
    · rw [lg_cmp_gt, h0]
      exact fun q => absurd q (by decide)
  · rw [if_neg h0, if_pos (by rw [lg_cmp_gt, lN0, pk_lLT (by decide) (by omega)]; omega)]
    obtain ⟨S, eS⟩ : ∃ S, S = sumN a H := ⟨_, rfl⟩
    rw [← eS] at h0 hS ⊢
    obtain ⟨s1, s2⟩ := shares (u := u) eS (by omega)
    have hne : ¬ lN S = 0 := by
      rw [lN0, pk_lEQ (by omega) (by decide)]
      exact h0
    have ha2 : ∀ i, i < H → u * a i < 2^63 := by
      intro i hi
      have h3 := sumN_mem (a := a) hi
      have h4 : u * a i ≤ 2^28 * 2^28 := Nat.mul_le_mul (by omega) (by omega)
      omega
    have hal : ∀ i, i < H → a i < 2^31 := by
      intro i hi
      have h3 := sumN_mem (a := a) hi
      omega
    have hm : ∀ i, u * a i % S < S := fun i => Nat.mod_lt _ (by omega)
    rw [rat_nI (by omega) (by decide), ha h (by omega), e6, nI_l (by omega), nI_l (hal h hh), lN_mul, ltx_s, ckp_t hne, pk_lRem (ha2 h hh) (by omega) (by omega), ltx_s, ltx_s]
    have q : m7_owedBy_L53 N N (nI h) (lN S) (lN (u * a h)) (lN (u * a h % S)) (lN u) (nI 0) (nI 0) f = some (lN (u - sumN (fun o => u * a o / S) H), nI (ah (fun o => u * a o % S) H h)) := by
      refine loop_i (σ := Int64 × Int32) (fun n i s => m7_owedBy_L53 N n (nI h) (lN S) (lN (u * a h)) (lN (u * a h % S)) s.1 s.2 (nI i) f = some (lN (u - sumN (fun o => u * a o / S) H), nI (ah (fun o => u * a o % S) H h))) (fun i s => s.1 = lN (u - sumN (fun o => u * a o / S) i) ∧ s.2 = nI (cn (fun o => bf (fun o => u * a o % S) o h) i)) H ?_ ?_ N 0 (lN u, nI 0) (by omega) (by omega) ⟨rfl, rfl⟩
      · intro n s hs
        rw [m7_owedBy_L53, e1, if_pos (Int32.le_refl _), hs.1, hs.2]
        rfl
      · intro n i s hi hs ih
        have hle : sumN (fun o => u * a o / S) (i+1) ≤ u := Nat.le_trans (sumN_mono (by omega)) s1
        have hq : u * a i / S ≤ u - sumN (fun o => u * a o / S) i := by
          have : sumN (fun o => u * a o / S) i + u * a i / S ≤ u := hle
          omega
        have e3 : u - sumN (fun o => u * a o / S) i - u * a i / S = u - sumN (fun o => u * a o / S) (i+1) := by
          show _ = u - (sumN (fun o => u * a o / S) i + u * a i / S)
          omega
        rw [m7_owedBy_L53, e1, if_neg (nI_ge hi (by omega)), e6, rat_nI (by omega) (by decide), ha i (by omega), nI_l (by omega), nI_l (hal i hi), lN_mul, ltx_s, ckp_t hne, pk_lRem (ha2 i hi) (by omega) (by omega), ltx_s, ckp_t hne, pk_lDiv (ha2 i hi) (by omega) (by omega), hs.1, lN_sub hq, e3, ltx_s]
        have hmi := hm i
        have hmh := hm h
        simp only [lg_cmp_gt, lg_cmp_eq, pk_lLT (a := u * a h % S) (b := u * a i % S) (by omega) (by omega), pk_lEQ (a := u * a i % S) (b := u * a h % S) (by omega) (by omega), nI_leI (a := h) (b := i) (by omega) (by omega), hs.2, nI_1, ltx_s, lt1_s]
        by_cases c1 : u * a h % S < u * a i % S
        · rw [if_pos c1]
          exact ih (lN (u - sumN (fun o => u * a o / S) (i+1)), nI (cn (fun o => bf (fun o => u * a o % S) o h) i + 1)) ⟨rfl, congrArg nI (cn_t (P := fun o => bf (fun o => u * a o % S) o h) (bf_t (Or.inl c1))).symm⟩
        · rw [if_neg c1]
          by_cases c2 : u * a i % S = u * a h % S
          · rw [if_pos c2]
            by_cases c3 : h ≤ i
            · rw [if_pos c3]
              exact ih (lN (u - sumN (fun o => u * a o / S) (i+1)), nI (cn (fun o => bf (fun o => u * a o % S) o h) i)) ⟨rfl, congrArg nI (cn_f (P := fun o => bf (fun o => u * a o % S) o h) (fun q => by have q2 := bf_o q; omega)).symm⟩
            · rw [if_neg c3]
              exact ih (lN (u - sumN (fun o => u * a o / S) (i+1)), nI (cn (fun o => bf (fun o => u * a o % S) o h) i + 1)) ⟨rfl, congrArg nI (cn_t (P := fun o => bf (fun o => u * a o % S) o h) (bf_t (Or.inr ⟨c2, by omega⟩))).symm⟩
          · rw [if_neg c2]
            exact ih (lN (u - sumN (fun o => u * a o / S) (i+1)), nI (cn (fun o => bf (fun o => u * a o % S) o h) i)) ⟨rfl, congrArg nI (cn_f (P := fun o => bf (fun o => u * a o % S) o h) (fun q => by have q2 := bf_o q; omega)).symm⟩
    have q' : m7_owedBy_L53 N N (nI h) (lN S) (lN (u * a h)) (lN (u * a h % S)) (lN u) 0 0 f = some (lN (u - sumN (fun o => u * a o / S) H), nI (ah (fun o => u * a o % S) H h)) := q
    have hah : ah (fun o => u * a o % S) H h ≤ H := cn_le
    rw [q', ob2_s, ckp_t hne, pk_lDiv (ha2 h hh) (by omega) (by omega), nI_l (by omega), lN_i]
    simp only [lg_cmp_ge, pk_lLE (a := u - sumN (fun o => u * a o / S) H) (b := ah (fun o => u * a o % S) H h) (by omega) (by omega)]
    by_cases c : u - sumN (fun o => u * a o / S) H ≤ ah (fun o => u * a o % S) H h
    · rw [if_pos c, if_neg (by omega), lt2_s, Int32.add_zero, Nat.add_zero]
    · rw [if_neg c, if_pos (by omega), lt2_s, nI_1]
