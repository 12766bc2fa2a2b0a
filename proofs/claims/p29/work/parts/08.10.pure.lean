/-! the model's shares -/
def kk (C : Nat → Bool) (m : Nat → Nat) (o : Nat) : Nat := if C o = true then 0 else m o + 1
theorem cmpk {C : Nat → Bool} {m : Nat → Nat} {x y : Nat} (hx : m x < 2^62) (hy : m y < 2^62) : ((if C x = true then (-1 : Int64) else lN (m x)) ≤ (if C y = true then (-1 : Int64) else lN (m y))) ↔ kk C m x ≤ kk C m y := by
  unfold kk
  have e1 : (-1 : Int64).toInt = -1 := by decide
  by_cases h1 : C x = true
  · rw [if_pos h1, if_pos h1]
    by_cases h2 : C y = true
    · rw [if_pos h2, if_pos h2, Int64.le_iff_toInt_le]
      omega
    · rw [if_neg h2, if_neg h2, Int64.le_iff_toInt_le, e1, pk_lT (by omega)]
      omega
  · rw [if_neg h1, if_neg h1]
    by_cases h2 : C y = true
    · rw [if_pos h2, if_pos h2, Int64.le_iff_toInt_le, e1, pk_lT (by omega)]
      omega
    · rw [if_neg h2, if_neg h2, pk_lLE (by omega) (by omega)]
      omega
/-- the first of the greatest rests -/
theorem best9 {f : bkA} {r : Nat → Int32} {N H : Nat} {C : Nat → Bool} {m : Nat → Nat} {rs : Nat → Int64} {x52 : Int64} {x53 x54 : Int32} (hR : RG f r) (e1 : f 23 1 = nI H) (hH : H ≤ 8) (h1 : 1 ≤ H) (hm : ∀ o, o < H → m o < 2^62) (hrs : ∀ o, o < H → rs o = if C o = true then (-1 : Int64) else lN (m o)) (hN : 100 < N) : ∃ b, b < H ∧ m9_share_L135 N N x52 x53 x54 0 1 r rs = some (nI b) ∧ (∀ o, o < H → kk C m o ≤ kk C m b) ∧ (∀ o, o < b → kk C m o < kk C m b) := by
  have q : ∃ b, b < H ∧ m9_share_L135 N N x52 x53 x54 (nI 0) (nI 1) r rs = some (nI b) ∧ (∀ o, o < H → kk C m o ≤ kk C m b) ∧ (∀ o, o < b → kk C m o < kk C m b) := by
    refine loop_i (σ := Int32) (fun n i s => ∃ b, b < H ∧ m9_share_L135 N n x52 x53 x54 s (nI i) r rs = some (nI b) ∧ (∀ o, o < H → kk C m o ≤ kk C m b) ∧ (∀ o, o < b → kk C m o < kk C m b)) (fun i s => 1 ≤ i ∧ ∃ b, s = nI b ∧ b < i ∧ (∀ o, o < i → kk C m o ≤ kk C m b) ∧ (∀ o, o < b → kk C m o < kk C m b)) H ?_ ?_ N 1 (nI 0) h1 (by omega) ⟨Nat.le_refl _, 0, rfl, by omega, ?_, ?_⟩
    · intro n s hs
      obtain ⟨_, b, rfl, hb, k1, k2⟩ := hs
      refine ⟨b, hb, ?_, k1, k2⟩
      rw [m9_share_L135, c9_3, h9_3, RG_i1 hR, e1, if_pos (Int32.le_refl _)]
    · intro n i s hi hs ih
      obtain ⟨hi1, b, rfl, hb, k1, k2⟩ := hs
      rw [m9_share_L135, c9_3, h9_3, RG_i1 hR, e1, if_neg (nI_ge hi (by omega)), ck_nI (by omega) (by decide), ck_nI (by omega) (by decide), nI_clamp (by omega), nI_clamp (by omega), hrs i hi, hrs b (by omega)]
      simp only [lg_cmp_le, cmpk (C := C) (hm i hi) (hm b (by omega)), lt1_s, ltx_s, nI_1]
      by_cases c : kk C m i ≤ kk C m b
      · rw [if_pos c]
        refine ih _ ⟨by omega, b, rfl, by omega, ?_, k2⟩
        intro o ho
        by_cases e : o = i
        · subst e
          exact c
        · exact k1 o (by omega)
      · rw [if_neg c]
        refine ih _ ⟨by omega, i, rfl, by omega, ?_, ?_⟩
        · intro o ho
          by_cases e : o = i
          · subst e
            exact Nat.le_refl _
          · have := k1 o (by omega)
            omega
        · intro o ho
          have := k1 o ho
          omega
    · intro o ho
      have e : o = 0 := by omega
      subst e
      exact Nat.le_refl _
    · intro o ho
      exact absurd ho (by omega)
  exact q
theorem share17 {f : bkA} {r : Nat → Int32} {N u H S : Nat} {a : Nat → Nat} (hR : RG f r) (e1 : f 23 1 = nI H) (hH : H ≤ 8) (e6 : f 23 6 = nI u) (ha : ∀ h, h < 8 → f 6 h = nI (a h)) (hu : u < 2^28) (eS : S = sumN a H) (hS : S < 2^28) (hN : 100 < N) (ow : Nat → Int32) (rs : Nat → Int64) : ∃ ow' rs', m9_share_L17 N N (lN S) (nI u) 0 r ow rs = some (nI (u - sumN (fun o => u * a o / S) H), ow', rs') ∧ (∀ h, h < H → ow' h = nI (u * a h / S)) ∧ (∀ h, h < H → rs' h = lN (u * a h % S)) := by
  have hal : ∀ i, i < H → a i ≤ S := by
    intro i hi
    rw [eS]
    exact sumN_mem hi
  have ha2 : ∀ i, i < H → u * a i < 2^63 := by
    intro i hi
    have h3 := hal i hi
    have h4 : u * a i ≤ 2^28 * 2^28 := Nat.mul_le_mul (by omega) (by omega)
    omega
  have hsum : sumN (fun o => u * a o / S) H ≤ u := by
    by_cases h0 : S = 0
    · rw [sumN_0 (fun i _ => by rw [h0, Nat.div_zero])]
      omega
    · exact (shares eS (by omega)).1
  have q : ∃ ow' rs', m9_share_L17 N N (lN S) (nI u) (nI 0) r ow rs = some (nI (u - sumN (fun o => u * a o / S) H), ow', rs') ∧ (∀ h, h < H → ow' h = nI (u * a h / S)) ∧ (∀ h, h < H → rs' h = lN (u * a h % S)) := by
    refine loop_i (σ := Int32 × (Nat → Int32) × (Nat → Int64)) (fun n i s => ∃ ow' rs', m9_share_L17 N n (lN S) s.1 (nI i) r s.2.1 s.2.2 = some (nI (u - sumN (fun o => u * a o / S) H), ow', rs') ∧ (∀ h, h < H → ow' h = nI (u * a h / S)) ∧ (∀ h, h < H → rs' h = lN (u * a h % S))) (fun i s => s.1 = nI (u - sumN (fun o => u * a o / S) i) ∧ (∀ h, h < i → s.2.1 h = nI (u * a h / S)) ∧ (∀ h, h < i → s.2.2 h = lN (u * a h % S))) H ?_ ?_ N 0 (nI u, ow, rs) (by omega) (by omega) ⟨rfl, fun h hh => absurd hh (by omega), fun h hh => absurd hh (by omega)⟩
    · intro n s hs
      refine ⟨s.2.1, s.2.2, ?_, hs.2.1, hs.2.2⟩
      rw [m9_share_L17, c9_3, h9_3, RG_i1 hR, e1, if_pos (Int32.le_refl _), hs.1]
    · intro n i s hi hs ih
      obtain ⟨s1, s2, s3⟩ := s
      obtain ⟨g1, g2, g3⟩ := hs
      dsimp only at g1 g2 g3 ⊢
      have hle : sumN (fun o => u * a o / S) (i+1) ≤ u := Nat.le_trans (sumN_mono (by omega)) hsum
      have hle2 : sumN (fun o => u * a o / S) i + u * a i / S ≤ u := hle
      have e3 : u - sumN (fun o => u * a o / S) i - u * a i / S = u - sumN (fun o => u * a o / S) (i+1) := by
        show _ = u - (sumN (fun o => u * a o / S) i + u * a i / S)
        omega
      have hai := hal i hi
      have h22 : (if lg_cmp (lN S) 0 = 0 then some (0 : Int32) else ckp (¬ lN S = 0) (some ((lN (u * a i) / lN S).toInt32))) = some (nI (u * a i / S)) := by
        simp only [lg_cmp_eq]
        by_cases h0 : S = 0
        · rw [h0, if_pos (show lN 0 = 0 from rfl), Nat.div_zero]
          rfl
        · have hne : ¬ lN S = 0 := by
            rw [lN0, pk_lEQ (by omega) (by decide)]
            exact h0
          rw [if_neg hne, ckp_t hne, pk_lDiv (ha2 i hi) (by omega) (by omega), lN_i]
      have h29 : (if lg_cmp (lN S) 0 = 0 then some (0 : Int64) else ckp (¬ lN S = 0) (some (lN (u * a i) - lN (u * a i) / lN S * lN S))) = some (lN (u * a i % S)) := by
        simp only [lg_cmp_eq]
        by_cases h0 : S = 0
        · have h5 : a i = 0 := by omega
          rw [h0, if_pos (show lN 0 = 0 from rfl), Nat.mod_zero, h5, Nat.mul_zero]
          rfl
        · have hne : ¬ lN S = 0 := by
            rw [lN0, pk_lEQ (by omega) (by decide)]
            exact h0
          rw [if_neg hne, ckp_t hne, pk_lRem (ha2 i hi) (by omega) (by omega)]
      rw [m9_share_L17, c9_3, h9_3, RG_i1 hR, e1, if_neg (nI_ge hi (by omega)), c9_6, h9_6, RG_i6 hR, e6, e9_H1 (by omega), k9_6 (by omega), q9_6 (by omega), RG_6 hR (by omega), ha i (by omega), nI_l (by omega), nI_l (by omega), lN_mul, ltx_s, h22, ob1_s, ck_nI (by omega) (by decide), ltx_s, h29, ob1_s, ck_nI (by omega) (by decide), ltx_s, ck_nI (by omega) (by decide), nI_clamp (by omega), pk_us, g1, pk_sub (by omega), e3, ltx_s, ltx_s, nI_1]
      refine ih (_, _, _) ⟨rfl, ?_, ?_⟩
      · intro h hh
        by_cases e : h = i
        · subst e
          exact pk_us
        · exact (pk_un e).trans (g2 h (by omega))
      · intro h hh
        by_cases e : h = i
        · subst e
          exact pk_uLs
        · exact (pk_uLn e).trans (g3 h (by omega))
  exact q
theorem O9 {f : bkA} {r : Nat → Int32} {N u H : Nat} {a : Nat → Nat} (hR : RG f r) (e1 : f 23 1 = nI H) (hH : H ≤ 8) (e6 : f 23 6 = nI u) (ha : ∀ h, h < 8 → f 6 h = nI (a h)) (hu : u < 2^28) (hS : sumN a H < 2^28) (hN : 100 < N) (ow : Nat → Int32) (rs : Nat → Int64) : ∃ ow' rs', m9_share N r ow rs = some (ow', rs') ∧ ∀ h, h < H → ow' h = nI (owv u a H h) := by
  obtain ⟨S, eS⟩ : ∃ S, S = sumN a H := ⟨_, rfl⟩
  obtain ⟨ow1, rs1, q1, q2, q3⟩ := share17 (N := N) hR e1 hH e6 ha hu eS (by omega) hN ow rs
  unfold m9_share
  rw [U9_useOfAll hR e1 hH ha hN, ob1_s, ← eS, nI_l (by omega), ltx_s, c9_6, h9_6, RG_i6 hR, e6, ltx_s, q1, ob3_s]
  by_cases h0 : S = 0
  · refine ⟨ow1, rs1, ?_, ?_⟩
    · have q : m9_share_L117 N N (lN S) (nI (u - sumN (fun o => u * a o / S) H)) 0 r ow1 rs1 = some (ow1, rs1) := by
        obtain ⟨n, rfl⟩ : ∃ n, N = n + 1 := ⟨N - 1, by omega⟩
        rw [m9_share_L117]
        by_cases c : nI (u - sumN (fun o => u * a o / S) H) ≤ 0
        · rw [if_pos c]
        · rw [if_neg c, if_pos (by rw [lg_cmp_le, h0]; decide)]
      rw [q, ob2_s]
    · intro h hh
      unfold owv
      rw [q2 h hh, if_pos (by rw [← eS]; exact h0), h0, Nat.div_zero]
  · obtain ⟨s1, s2⟩ := shares (u := u) eS (by omega)
    obtain ⟨M, eM⟩ : ∃ M, M = u - sumN (fun o => u * a o / S) H := ⟨_, rfl⟩
    obtain ⟨m, em⟩ : ∃ m : Nat → Nat, m = fun o => u * a o % S := ⟨_, rfl⟩
    have hmm : ∀ o, m o < S := by
      intro o
      rw [em]
      exact Nat.mod_lt _ (by omega)
    have H1 : 1 ≤ H := by
      by_cases c : H = 0
      · rw [c] at eS
        exact absurd eS h0
      · omega
    have q : ∃ ow' rs', m9_share_L117 N N (lN S) (nI M) (nI 0) r ow1 rs1 = some (ow', rs') ∧ ∀ h, h < H → ow' h = nI (u * a h / S + if ah m H h < M then 1 else 0) := by
      refine loop_i (σ := (Nat → Int32) × (Nat → Int64)) (fun n k s => ∃ ow' rs', m9_share_L117 N n (lN S) (nI M) (nI k) r s.1 s.2 = some (ow', rs') ∧ ∀ h, h < H → ow' h = nI (u * a h / S + if ah m H h < M then 1 else 0)) (fun k s => (∀ h, h < H → s.1 h = nI (u * a h / S + if ah m H h < k then 1 else 0)) ∧ (∀ h, h < H → s.2 h = if decide (ah m H h < k) = true then (-1 : Int64) else lN (m h)) ∧ cn (fun o => decide (ah m H o < k)) H = k) M ?_ ?_ N 0 (ow1, rs1) (by omega) (by omega) ⟨?_, ?_, ?_⟩
      · intro n s hs
        refine ⟨s.1, s.2, ?_, hs.1⟩
        rw [m9_share_L117, if_pos (Int32.le_refl _)]
      · intro n k s hk hs ih
        obtain ⟨s1', s2'⟩ := s
        obtain ⟨g1, g2, g3⟩ := hs
        dsimp only at g1 g2 g3 ⊢
        obtain ⟨b, b1, b2, b3, b4⟩ := best9 (N := N) (C := fun o => decide (ah m H o < k)) (m := m) (rs := s2') (x52 := lN S) (x53 := nI M) (x54 := nI k) hR e1 hH H1 (fun o _ => by have := hmm o; omega) g2 hN
        -- somebody is left
        have left : ∃ o, o < H ∧ ¬ ah m H o < k := by
          refine Classical.byContradiction (fun hc => ?_)
          have h5 : cn (fun o => decide (ah m H o < k)) H = H := cn_all (fun i hi => decide_eq_true (Classical.byContradiction (fun q => hc ⟨i, hi, q⟩)))
          omega
        obtain ⟨o1, o2, o3⟩ := left
        have kb : ∀ o, (¬ ah m H o < k) → kk (fun o => decide (ah m H o < k)) m o = m o + 1 := by
          intro o ho
          unfold kk
          rw [if_neg (show ¬ decide (ah m H o < k) = true by rw [decide_eq_false ho]; decide)]
        have nb : ¬ ah m H b < k := by
          intro hc
          have h6 := b3 o1 o2
          rw [kb o1 o3] at h6
          have h7 : kk (fun o => decide (ah m H o < k)) m b = 0 := by
            unfold kk
            rw [if_pos (decide_eq_true hc)]
          omega
        obtain ⟨n1, n2⟩ := ah_next g3 b1 nb (by
          intro o ho hno hne
          have h6 := b3 o ho
          rw [kb o hno, kb b nb] at h6
          refine bf_t ?_
          by_cases c : m o < m b
          · exact Or.inl c
          · refine Or.inr ⟨by omega, ?_⟩
            by_cases c2 : o < b
            · have h7 := b4 o c2
              rw [kb o hno, kb b nb] at h7
              omega
            · omega)
        rw [m9_share_L117, if_neg (nI_ge hk (by omega)), if_neg (by rw [lg_cmp_le, lN0, pk_lLE (by omega) (by decide)]; omega), b2, ob1_s, ck_nI (by omega) (by decide), ck_nI (by omega) (by decide), ltx_s, ck_nI (by omega) (by decide), ltx_s, nI_clamp (by omega), ltx_s, nI_1]
        refine ih (_, _) ⟨?_, ?_, n2⟩
        · intro h hh
          by_cases e : h = b
          · subst e
            show upd s1' h _ h = _
            rw [pk_us, g1 h hh, if_neg nb, if_pos (by omega), nI_1]
          · show upd s1' b _ h = _
            rw [pk_un e, g1 h hh]
            by_cases c : ah m H h < k
            · rw [if_pos c, if_pos (by omega)]
            · have c2 : ¬ ah m H h < k + 1 := fun q => e (ah_inj (m := m) hh b1 (by omega))
              rw [if_neg c, if_neg c2]
        · intro h hh
          by_cases e : h = b
          · subst e
            show vp_updL s2' h _ h = _
            rw [pk_uLs, if_pos (decide_eq_true (by omega))]
          · show vp_updL s2' b _ h = _
            rw [pk_uLn e, g2 h hh]
            by_cases c : ah m H h < k
            · rw [if_pos (decide_eq_true c), if_pos (decide_eq_true (by omega))]
            · have c2 : ¬ ah m H h < k + 1 := fun q => e (ah_inj (m := m) hh b1 (by omega))
              rw [if_neg (by rw [decide_eq_false c]; decide), if_neg (by rw [decide_eq_false c2]; decide)]
      · intro h hh
        show ow1 h = _
        rw [q2 h hh, if_neg (by omega), Nat.add_zero]
      · intro h hh
        show rs1 h = _
        rw [q3 h hh, if_neg (by rw [decide_eq_false (by omega)]; decide), em]
      · exact cn_0 (fun i _ => by rw [decide_eq_false (by omega)]; decide)
    obtain ⟨ow2, rs2, p1, p2⟩ := q
    have p1' : m9_share_L117 N N (lN S) (nI (u - sumN (fun o => u * a o / S) H)) 0 r ow1 rs1 = some (ow2, rs2) := by
      rw [← eM]
      exact p1
    rw [p1', ob2_s]
    refine ⟨ow2, rs2, rfl, ?_⟩
    intro h hh
    rw [p2 h hh]
    unfold owv
    rw [← eS, if_neg h0, ← em, ← eM]
