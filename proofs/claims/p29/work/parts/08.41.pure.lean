/-! p29: what is owed adds up; settling -/
def iot : Nat → List Nat
  | 0 => []
  | n+1 => iot n ++ [n]
theorem iot_mem : ∀ {n x : Nat}, x ∈ iot n ↔ x < n
  | 0, x => ⟨fun h => (by cases h), fun h => absurd h (by omega)⟩
  | n+1, x => by
    show x ∈ iot n ++ [n] ↔ _
    rw [List.mem_append, iot_mem, List.mem_singleton]
    omega
theorem iot_ND : ∀ {n : Nat}, ND (iot n)
  | 0 => trivial
  | n+1 => by
    refine ND_ins (suf := []) ?_ ?_ ?_
    · rw [List.append_nil]
      exact iot_ND
    · intro q
      have := iot_mem.mp q
      omega
    · intro q
      cases q
theorem iot_len {P : Nat → Bool} : ∀ {n : Nat}, (fil P (iot n)).length = cn P n
  | 0 => rfl
  | n+1 => by
    show (fil P (iot n ++ [n])).length = _
    rw [fil_app, List.length_append, iot_len]
    by_cases h : P n = true
    · rw [cn_t h, fil_t h]
      rfl
    · rw [cn_f h, fil_f h]
      rfl
theorem cn_not {P : Nat → Bool} : ∀ {n : Nat}, cn P n + cn (fun i => ! P i) n = n
  | 0 => rfl
  | n+1 => by
    have ih := cn_not (P := P) (n := n)
    by_cases h : P n = true
    · rw [cn_t h, cn_f (P := fun i => ! P i) (by show ¬ (! P n) = true; rw [h]; decide)]
      omega
    · rw [cn_f h, cn_t (P := fun i => ! P i) (by show (! P n) = true; rw [Bool.not_eq_true] at h; rw [h]; rfl)]
      omega
theorem cn_img {φ : Nat → Nat} {P : Nat → Bool} {n k : Nat} (inj : ∀ x y, x < n → y < n → P x = true → P y = true → φ x = φ y → x = y) (lt : ∀ x, x < n → P x = true → φ x < k) : cn P n ≤ k := by
  rw [← iot_len]
  have h := php k (ls := (fil P (iot n)).map φ) (ND_map _ (ND_fil iot_ND) (fun x y hx hy e => inj x y (iot_mem.mp (mem_fil.mp hx).1) (iot_mem.mp (mem_fil.mp hy).1) (mem_fil.mp hx).2 (mem_fil.mp hy).2 e)) (fun x hx => by
    obtain ⟨y, h1, h2⟩ := List.mem_map.mp hx
    rw [← h2]
    exact lt y (iot_mem.mp (mem_fil.mp h1).1) (mem_fil.mp h1).2)
  rw [List.length_map] at h
  exact h
theorem ah_H {m : Nat → Nat} {H h : Nat} (hh : h < H) : ah m H h < H := by
  have q := cn_lt (P := fun o => bf m o h) (Q := fun _ => true) (j := h) (n := H) (fun _ _ _ => rfl) hh (fun q => by have := bf_o q; omega) rfl
  rw [cn_all (fun _ _ => rfl)] at q
  exact q
theorem ah_cn {m : Nat → Nat} {H M : Nat} (hM : M ≤ H) : cn (fun h => decide (ah m H h < M)) H = M := by
  have h1 := cn_img (φ := ah m H) (P := fun h => decide (ah m H h < M)) (n := H) (k := M) (fun x y hx hy _ _ e => ah_inj hx hy e) (fun x _ q => of_decide_eq_true q)
  have h2 := cn_img (φ := fun x => ah m H x - M) (P := fun h => ! decide (ah m H h < M)) (n := H) (k := H - M) (fun x y hx hy px py e => by
      have px' : ¬ ah m H x < M := fun q => by
        rw [decide_eq_true q] at px
        exact absurd px (by decide)
      have py' : ¬ ah m H y < M := fun q => by
        rw [decide_eq_true q] at py
        exact absurd py (by decide)
      have e' : ah m H x - M = ah m H y - M := e
      exact ah_inj (m := m) hx hy (by omega)) (fun x hx px => by
      have px' : ¬ ah m H x < M := fun q => by
        rw [decide_eq_true q] at px
        exact absurd px (by decide)
      have := ah_H (m := m) hx
      show ah m H x - M < H - M
      omega)
  have h3 := cn_not (P := fun h => decide (ah m H h < M)) (n := H)
  omega
theorem owv_sum {u H : Nat} {a : Nat → Nat} (h0 : ¬ sumN a H = 0) : sumN (owv u a H) H = u := by
  have e : ∀ h, h < H → owv u a H h = u * a h / sumN a H + (if ah (fun o => u * a o % sumN a H) H h < u - sumN (fun o => u * a o / sumN a H) H then 1 else 0) := fun h _ => by
    unfold owv
    rw [if_neg h0]
  have s := shares (a := a) (u := u) (S := sumN a H) (H := H) rfl (by omega)
  have c := ah_cn (m := fun o => u * a o % sumN a H) (H := H) (M := u - sumN (fun o => u * a o / sumN a H) H) s.2
  have c2 : sumN (fun h => if ah (fun o => u * a o % sumN a H) H h < u - sumN (fun o => u * a o / sumN a H) H then 1 else 0) H = u - sumN (fun o => u * a o / sumN a H) H := by
    refine (sumN_congr (fun i hi => ?_)).trans c
    by_cases q : ah (fun o => u * a o % sumN a H) H i < u - sumN (fun o => u * a o / sumN a H) H
    · rw [if_pos q, if_pos (decide_eq_true q)]
    · rw [if_neg q, if_neg (fun z => q (of_decide_eq_true z))]
  rw [sumN_congr e, sumN_add (a := fun h => u * a h / sumN a H), c2]
  have := s.1
  omega
theorem sum_cn {m : Nat → Nat} {S : Nat} : ∀ {n : Nat}, (∀ i, i < n → m i ≤ S) → sumN m n ≤ cn (fun o => decide (0 < m o)) n * S
  | 0, _ => by
    show 0 ≤ _
    omega
  | n+1, h => by
    have ih := sum_cn (n := n) (fun i hi => h i (by omega))
    show sumN m n + m n ≤ _
    by_cases q : 0 < m n
    · rw [cn_t (P := fun o => decide (0 < m o)) (decide_eq_true q), Nat.succ_mul]
      have := h n (by omega)
      omega
    · rw [cn_f (P := fun o => decide (0 < m o)) (fun z => q (of_decide_eq_true z))]
      omega
/-- who has no use owes nothing -/
theorem owv_0 {u H h : Nat} {a : Nat → Nat} (e : a h = 0) : owv u a H h = 0 := by
  unfold owv
  by_cases h0 : sumN a H = 0
  · rw [if_pos h0]
  · rw [if_neg h0, e, Nat.mul_zero, Nat.zero_div, Nat.zero_add]
    obtain ⟨S, eS⟩ : ∃ S, S = sumN a H := ⟨_, rfl⟩
    rw [← eS] at h0 ⊢
    have s := shares (a := a) (u := u) (S := S) (H := H) eS (by omega)
    have e2 : sumN (fun o => S * (u * a o / S) + u * a o % S) H = u * S := by
      rw [sumN_congr (b := fun o => u * a o) (fun i _ => Nat.div_add_mod _ _), sumN_mul, ← eS]
    rw [sumN_add, sumN_mul] at e2
    have h1 := sum_cn (m := fun o => u * a o % S) (S := S) (n := H) (fun i _ => Nat.le_of_lt (Nat.mod_lt _ (by omega)))
    have h2 : u - sumN (fun o => u * a o / S) H ≤ cn (fun o => decide (0 < u * a o % S)) H := by
      refine Nat.le_of_mul_le_mul_left (?_ : S * _ ≤ S * _) (by omega : 0 < S)
      rw [Nat.mul_sub, Nat.mul_comm S u, Nat.mul_comm S (cn _ H)]
      omega
    have h3 : cn (fun o => decide (0 < u * a o % S)) H ≤ ah (fun o => u * a o % S) H h := by
      refine cn_mono (fun i _ q => ?_)
      have q := of_decide_eq_true q
      refine bf_t (Or.inl ?_)
      show u * a h % S < u * a i % S
      rw [e, Nat.mul_zero, Nat.zero_mod]
      exact q
    rw [if_neg (by omega)]
theorem i_set {a b s u : Int32} : a + (b - u) + 0 + (s + u) = a + b + s := by grind
theorem i_set2 {l s u : Int32} (h : l - u = s) : l - 0 = s + u := by grind
theorem X_settle {f : bkA} {K H D t T N : Nat} {σ : Int32} {ls : List Nat} (hx : IX9 f K D T σ) (h : IV f K H D ls t T) (hT : T ≤ 200000) (hN : 100 < N) : ∃ x f' u S, m7_settleLogs N f = some (x, f') ∧ f 23 6 = nI u ∧ m7_useOfAll N f = some (nI S) ∧ S < 2^28 ∧ IX9 f' K D T (σ + if S = 0 then 0 else nI u) := by
  obtain ⟨⟨e0, e1, e2, e3, e4, e5, hK, hH, hD, ht⟩, hd, hl, hp, hh, ⟨u, lb, a, n1, n2, n3, n4, n5, n6⟩⟩ := h
  have hu := bounds ht hT n3 n4
  have hS : sumN a H < 2^28 := by
    have q := sumN_mono (a := a) hH
    omega
  have hU := U7_useOfAll (N := N) e1 hH n5 hN
  unfold m7_settleLogs
  rw [hU, ob1_s]
  by_cases h0 : sumN a H = 0
  · rw [if_pos (show nI (sumN a H) = 0 by rw [h0]; rfl)]
    refine ⟨0, f, u, sumN a H, rfl, n1, rfl, hS, ?_⟩
    rw [if_pos h0, Int32.add_zero]
    exact hx
  · have q7 : ∃ f1, m7_settleLogs_L16 N N (nI u) (nI 0) f = some f1 ∧ (∀ j, j ≠ 5 → f1 j = f j) ∧ (∀ k, f1 5 k = if k < H then f 5 k + (f 7 k - nI (owv u a H k)) else f 5 k) := by
      refine loop_i (σ := bkA) (fun n i s => ∃ f1, m7_settleLogs_L16 N n (nI u) (nI i) s = some f1 ∧ (∀ j, j ≠ 5 → f1 j = f j) ∧ (∀ k, f1 5 k = if k < H then f 5 k + (f 7 k - nI (owv u a H k)) else f 5 k)) (fun i s => (∀ j, j ≠ 5 → s j = f j) ∧ (∀ k, s 5 k = if k < i then f 5 k + (f 7 k - nI (owv u a H k)) else f 5 k)) H ?_ ?_ N 0 f (by omega) (by omega) ⟨fun _ _ => rfl, fun k => (if_neg (by omega)).symm⟩
      · intro n s hs
        refine ⟨s, ?_, hs⟩
        rw [m7_settleLogs_L16, hs.1 23 (by decide), e1, if_pos (Int32.le_refl _)]
      · intro n i s hi hs ih
        have o7 := O7 (f := s) (N := N) (h := i) (by rw [hs.1 23 (by decide)]; exact e1) hH (by rw [hs.1 23 (by decide)]; exact n1) (by rw [hs.1 6 (by decide)]; exact n5) hu hS hi hN
        rw [m7_settleLogs_L16, hs.1 23 (by decide), e1, if_neg (nI_ge hi (by omega)), o7, ob1_s, wr_inc (by omega) (by decide), rat_nI (by omega) (by decide), hs.1 7 (by decide), hs.2 i, if_neg (by omega), ltx_s, ltx_s, nI_1]
        refine ih _ ⟨?_, ?_⟩
        · intro j hj
          rw [wr_n hj]
          exact hs.1 j hj
        · intro k
          by_cases e : k = i
          · subst e
            rw [wr_s, if_pos (by omega)]
          · rw [wr_i e, hs.2 k]
            by_cases c : k < i
            · rw [if_pos c, if_pos (by omega)]
            · rw [if_neg c, if_neg (by omega)]
    obtain ⟨f1, a1, a2, a3⟩ := q7
    have a1' : m7_settleLogs_L16 N N (nI u) 0 f = some f1 := a1
    rw [if_neg (nI_ne0 (by omega) (by omega)), n1, ltx_s, a1', ob1_s]
    simp only [ltx_s, wr_u]
    rw [ur_n (show (7 : Nat) ≠ 6 by decide)]
    refine ⟨nI u, wr (ur (ur f1 6 (rfill 8 (f1 6) 0)) 7 (rfill 8 (f1 7) 0)) 23 6 0, u, sumN a H, rfl, rfl, rfl, hS, ?_⟩
    rw [if_neg h0]
    obtain ⟨g, eg⟩ : ∃ g, g = wr (ur (ur f1 6 (rfill 8 (f1 6) 0)) 7 (rfill 8 (f1 7) 0)) 23 6 0 := ⟨_, rfl⟩
    rw [← eg]
    have gj : ∀ j, j ≠ 5 → j ≠ 6 → j ≠ 7 → j ≠ 23 → g j = f j := by
      intro j h5 h6 h7 h23
      rw [eg, wr_n h23, ur_n h7, ur_n h6, a2 j h5]
    have gc : ∀ k, k ≠ 6 → g 23 k = f 23 k := by
      intro k hk
      rw [eg, wr_i hk, ur_n (by decide), ur_n (by decide), a2 23 (by decide)]
    have g6 : g 23 6 = 0 := by rw [eg, wr_s]
    have g5 : ∀ k, g 5 k = f 5 k + (if k < H then f 7 k - nI (owv u a H k) else 0) := by
      intro k
      rw [eg, wr_n (by decide), ur_n (by decide), ur_n (by decide), a3 k]
      by_cases c : k < H
      · rw [if_pos c, if_pos c]
      · rw [if_neg c, if_neg c, Int32.add_zero]
    have g7 : ∀ k, k < 8 → g 7 k = 0 := by
      intro k hk
      rw [eg, wr_n (by decide), ur_s]
      unfold rfill
      rw [if_pos hk]
    obtain ⟨q1, q2, q3, q4, q5, q6, s1, s2, s3, s4, s5⟩ := hx
    refine ⟨iXP_c q1 (gj 13 (by decide) (by decide) (by decide) (by decide)) (gj 15 (by decide) (by decide) (by decide) (by decide)) (gj 19 (by decide) (by decide) (by decide) (by decide)), iXB_c q2 (Nat.le_refl _) (gj 19 (by decide) (by decide) (by decide) (by decide)) (gj 20 (by decide) (by decide) (by decide) (by decide)) (gj 21 (by decide) (by decide) (by decide) (by decide)), iXL_c q3 (Nat.le_refl _) (gj 15 (by decide) (by decide) (by decide) (by decide)) (gj 17 (by decide) (by decide) (by decide) (by decide)), iXU_c q4 (gj 13 (by decide) (by decide) (by decide) (by decide)) (gj 18 (by decide) (by decide) (by decide) (by decide)), iXK_c q5 (gj 0 (by decide) (by decide) (by decide) (by decide)) (gj 1 (by decide) (by decide) (by decide) (by decide)), iXE_c q6 (Nat.le_refl _) (gj 9 (by decide) (by decide) (by decide) (by decide)) (gj 10 (by decide) (by decide) (by decide) (by decide)), ?_⟩
    have z7 : sI (f 7) 8 = sI (f 7) H := sI_ext hH (fun i h1 h2 => hh 7 i (by decide) (by decide) h1 h2)
    have zz : sI (fun k => if k < H then f 7 k - nI (owv u a H k) else 0) 8 = sI (f 7) 8 - nI u := by
      rw [sI_ext hH (fun i h1 h2 => if_neg (by omega)), sI_congr (g' := fun k => f 7 k - nI (owv u a H k)) (fun i hi => if_pos hi), sI_sub, sI_nI (a := owv u a H) (fun _ _ => rfl), owv_sum h0, z7]
    have z5 : sI (g 5) 8 = sI (f 5) 8 + (sI (f 7) 8 - nI u) := by
      rw [sI_congr (g' := fun k => f 5 k + (if k < H then f 7 k - nI (owv u a H k) else 0)) (fun i _ => g5 i), sI_add, zz]
    have zg7 : sI (g 7) 8 = 0 := sI_0 g7
    unfold iXS
    rw [z5, zg7, gj 8 (by decide) (by decide) (by decide) (by decide), gj 9 (by decide) (by decide) (by decide) (by decide), g6, gc 7 (by decide), gc 8 (by decide), gc 10 (by decide)]
    refine ⟨?_, s2, rfl, ?_, s5⟩
    · rw [i_set]
      exact s1
    · rw [n1] at s4
      exact i_set2 s4
