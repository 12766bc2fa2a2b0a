/-! a command is carried out: the class and the model alike -/
theorem rt0 {g : Nat → Int32} : rat 5 g 0 = g 0 := rat_nI (d := 0) (by decide) (by decide)
theorem rt1 {g : Nat → Int32} : rat 5 g 1 = g 1 := rat_nI (d := 1) (by decide) (by decide)
theorem rt2 {g : Nat → Int32} : rat 5 g 2 = g 2 := rat_nI (d := 2) (by decide) (by decide)
theorem rt3 {g : Nat → Int32} : rat 5 g 3 = g 3 := rat_nI (d := 3) (by decide) (by decide)
theorem rt4 {g : Nat → Int32} : rat 5 g 4 = g 4 := rat_nI (d := 4) (by decide) (by decide)
theorem ck50 {β : Type} {k : Option β} : ck 0 5 k = k := ck_nI (d := 0) (by decide) (by decide)
theorem ck51 {β : Type} {k : Option β} : ck 1 5 k = k := ck_nI (d := 1) (by decide) (by decide)
theorem ck52 {β : Type} {k : Option β} : ck 2 5 k = k := ck_nI (d := 2) (by decide) (by decide)
theorem ck53 {β : Type} {k : Option β} : ck 3 5 k = k := ck_nI (d := 3) (by decide) (by decide)
theorem ck54 {β : Type} {k : Option β} : ck 4 5 k = k := ck_nI (d := 4) (by decide) (by decide)
theorem tc0 : (0 : Int32).toNatClampNeg = 0 := nI_clamp (n := 0) (by decide)
theorem tc1 : (1 : Int32).toNatClampNeg = 1 := nI_clamp (n := 1) (by decide)
theorem tc2 : (2 : Int32).toNatClampNeg = 2 := nI_clamp (n := 2) (by decide)
theorem tc3 : (3 : Int32).toNatClampNeg = 3 := nI_clamp (n := 3) (by decide)
theorem tc4 : (4 : Int32).toNatClampNeg = 4 := nI_clamp (n := 4) (by decide)
theorem C23_iff {x y : Int32} (h : C23 x y) : (x = 0 ∧ y = 0) ∨ ((¬ x = 0) ∧ (¬ y ≤ 0) ∧ ¬ y = 0) := by
  rcases h with ⟨h1, h2⟩ | ⟨h1, h2⟩ | ⟨h1, h2⟩
  · exact Or.inl ⟨h1, h2⟩
  · right; rw [h1, h2]; decide
  · right; rw [h1, h2]; decide
theorem C123_iff {x y : Int32} (h : C123 x y) : (x = 0 ∧ y = 0) ∨ ((¬ x = 0) ∧ (¬ y ≤ 0) ∧ ¬ y = 0) := by
  rcases h with ⟨h1, h2⟩ | ⟨h1, h2⟩ | ⟨h1, h2⟩ | ⟨h1, h2⟩
  · exact Or.inl ⟨h1, h2⟩
  · right; rw [h1, h2]; decide
  · right; rw [h1, h2]; decide
  · right; rw [h1, h2]; decide
theorem C3_iff {x y : Int32} (h : C3 x y) : (x = 0 ∧ y = 0) ∨ ((¬ x = 0) ∧ (¬ y ≤ 0) ∧ ¬ y = 0) := by
  rcases h with ⟨h1, h2⟩ | ⟨h1, h2⟩
  · exact Or.inl ⟨h1, h2⟩
  · right; rw [h1, h2]; decide
theorem carry_0 {f c : bkA} {r nu vs ow : Nat → Int32} {rs : Nat → Int64} {K H D t T N : Nat} {ls : List Nat} (h : SIM f r K H D ls t T) (hT : T ≤ 100000) (hN : 300 < N) (hc2 : c 2 2 = nI 0) (h0 : c 1 0 = vs 0) (h1 : c 1 1 = vs 1) (h2 : c 1 2 = vs 2) (h3 : c 1 3 = vs 3) (h4 : c 1 4 = vs 4) (n0 : nu 0 = vs 0) (n1 : nu 1 = vs 1) (n2 : nu 2 = vs 2) (n3 : nu 3 = vs 3) (n4 : nu 4 = vs 4) : ∃ x f' r' ow' rs', m8_carryOut N f c = some (x, f') ∧ m9_carryOut N r ow rs nu (nI 0) = some (x, r', ow', rs') ∧ (x = 0 ∨ x = 1) ∧ SIMX f' r' := by
  obtain ⟨y, hy, hC, hA⟩ := S_kindCode h (vs 0) (vs 1) (vs 2) (vs 3) (vs 4)
  rcases C23_iff hC with ⟨hx, hy0⟩ | ⟨hx, hy1, hy2⟩
  · subst hy0
    have hK5 := hA hx
    obtain ⟨f', r', a1, a2, a3⟩ := S_newKind h hK5 (vs 0) (vs 1) (vs 2) (vs 3) (vs 4)
    refine ⟨1, f', r', ow, rs, ?_, ?_, Or.inr rfl, K+1, H, D, ls, t, T, a3, hT⟩
    · unfold m8_carryOut m8_refusalOfCommand m0_number m0_word
      simp (config := {implicitDefEqProofs := false}) only [lt1_s, hc2, rt0, rt1, rt2, rt3, rt4, eq_true (show nI 0 = 0 from rfl), if_true, if_false, h0, h1, h2, h3, h4]
      rw [hx, if_pos rfl, a1, lt2_s]
    · unfold m9_carryOut
      simp (config := {implicitDefEqProofs := false}) only [ck50, ck51, ck52, ck53, ck54, tc0, tc1, tc2, tc3, tc4, ltx_s, eq_true (show nI 0 = 0 from rfl), if_true, if_false, n0, n1, n2, n3, n4]
      rw [hy, ob1_s, if_pos (Int32.le_refl _), a2, ob2_s, ob2_s, ob4_s, if_pos rfl]
  · refine ⟨0, f, r, ow, rs, ?_, ?_, Or.inl rfl, K, H, D, ls, t, T, h, hT⟩
    · unfold m8_carryOut m8_refusalOfCommand m0_number m0_word
      simp (config := {implicitDefEqProofs := false}) only [lt1_s, hc2, rt0, rt1, rt2, rt3, rt4, eq_true (show nI 0 = 0 from rfl), if_true, if_false, h0, h1, h2, h3, h4]
      rw [if_neg hx]
    · unfold m9_carryOut
      simp (config := {implicitDefEqProofs := false}) only [ck50, ck51, ck52, ck53, ck54, tc0, tc1, tc2, tc3, tc4, ltx_s, eq_true (show nI 0 = 0 from rfl), if_true, if_false, n0, n1, n2, n3, n4]
      rw [hy, ob1_s, if_neg hy1, ob2_s, ob4_s, if_neg hy2]
theorem carry_1 {f c : bkA} {r nu vs ow : Nat → Int32} {rs : Nat → Int64} {K H D t T N : Nat} {ls : List Nat} (h : SIM f r K H D ls t T) (hT : T ≤ 100000) (hN : 300 < N) (hc2 : c 2 2 = nI 1)   : ∃ x f' r' ow' rs', m8_carryOut N f c = some (x, f') ∧ m9_carryOut N r ow rs nu (nI 1) = some (x, r', ow', rs') ∧ (x = 0 ∨ x = 1) ∧ SIMX f' r' := by
  obtain ⟨y, hy, hC, hA⟩ := S_houseCode h
  rcases C3_iff hC with ⟨hx, hy0⟩ | ⟨hx, hy1, hy2⟩
  · subst hy0
    have hH8 := hA hx
    obtain ⟨f', r', a1, a2, a3⟩ := S_newHouse (N := N) h hH8 (by omega)
    refine ⟨1, f', r', ow, rs, ?_, ?_, Or.inr rfl, K, H+1, D, ls, t, T, a3, hT⟩
    · unfold m8_carryOut m8_refusalOfCommand m0_number m0_word
      simp (config := {implicitDefEqProofs := false}) only [lt1_s, hc2, rt0, rt1, rt2, rt3, rt4, eq_false (show ¬ nI 1 = 0 by decide), eq_true (show nI 1 = 1 from rfl), if_true, if_false]
      rw [hx, if_pos rfl, a1, lt2_s]
    · unfold m9_carryOut
      simp (config := {implicitDefEqProofs := false}) only [ck50, ck51, ck52, ck53, ck54, tc0, tc1, tc2, tc3, tc4, ltx_s, eq_false (show ¬ nI 1 = 0 by decide), eq_true (show nI 1 = 1 from rfl), if_true, if_false]
      rw [c9_3, show (if r 3 = 8 then (1 : Int32) else 0) = _ from hy, lt1_s, if_pos (Int32.le_refl _), a2, ob2_s, ob2_s, ob4_s, if_pos rfl]
  · refine ⟨0, f, r, ow, rs, ?_, ?_, Or.inl rfl, K, H, D, ls, t, T, h, hT⟩
    · unfold m8_carryOut m8_refusalOfCommand m0_number m0_word
      simp (config := {implicitDefEqProofs := false}) only [lt1_s, hc2, rt0, rt1, rt2, rt3, rt4, eq_false (show ¬ nI 1 = 0 by decide), eq_true (show nI 1 = 1 from rfl), if_true, if_false]
      rw [if_neg hx]
    · unfold m9_carryOut
      simp (config := {implicitDefEqProofs := false}) only [ck50, ck51, ck52, ck53, ck54, tc0, tc1, tc2, tc3, tc4, ltx_s, eq_false (show ¬ nI 1 = 0 by decide), eq_true (show nI 1 = 1 from rfl), if_true, if_false]
      rw [c9_3, show (if r 3 = 8 then (1 : Int32) else 0) = _ from hy, lt1_s, if_neg hy1, ob2_s, ob4_s, if_neg hy2]
theorem carry_2 {f c : bkA} {r nu vs ow : Nat → Int32} {rs : Nat → Int64} {K H D t T N : Nat} {ls : List Nat} (h : SIM f r K H D ls t T) (hT : T ≤ 100000) (hN : 300 < N) (hc2 : c 2 2 = nI 2) (h0 : c 1 0 = vs 0) (h1 : c 1 1 = vs 1) (h2 : c 1 2 = vs 2) (n0 : nu 0 = vs 0) (n1 : nu 1 = vs 1) (n2 : nu 2 = vs 2) : ∃ x f' r' ow' rs', m8_carryOut N f c = some (x, f') ∧ m9_carryOut N r ow rs nu (nI 2) = some (x, r', ow', rs') ∧ (x = 0 ∨ x = 1) ∧ SIMX f' r' := by
  obtain ⟨y, hy, hC, hA⟩ := S_doughCode h (vs 0) (vs 1) (vs 2)
  rcases C123_iff hC with ⟨hx, hy0⟩ | ⟨hx, hy1, hy2⟩
  · subst hy0
    obtain ⟨hD16, b1, b2, b3, hb1, eb1, hb2, eb2, hb3, hb4, eb3⟩ := hA hx
    obtain ⟨f', r', a1, a2, a3⟩ := S_newDough h hD16 hb1 hb2 hb3 hb4
    rw [← eb1, ← eb2, ← eb3] at a1 a2
    refine ⟨1, f', r', ow, rs, ?_, ?_, Or.inr rfl, K, H, D+1, ls ++ [D], t, T, a3, hT⟩
    · unfold m8_carryOut m8_refusalOfCommand m0_number m0_word
      simp (config := {implicitDefEqProofs := false}) only [lt1_s, hc2, rt0, rt1, rt2, rt3, rt4, eq_false (show ¬ nI 2 = 0 by decide), eq_false (show ¬ nI 2 = 1 by decide), eq_true (show nI 2 = 2 from rfl), if_true, if_false, h0, h1, h2]
      rw [hx, if_pos rfl, a1, lt2_s]
    · unfold m9_carryOut
      simp (config := {implicitDefEqProofs := false}) only [ck50, ck51, ck52, ck53, ck54, tc0, tc1, tc2, tc3, tc4, ltx_s, eq_false (show ¬ nI 2 = 0 by decide), eq_false (show ¬ nI 2 = 1 by decide), eq_true (show nI 2 = 2 from rfl), if_true, if_false, n0, n1, n2]
      rw [hy, ob1_s, if_pos (Int32.le_refl _), a2, ob2_s, ob2_s, ob4_s, if_pos rfl]
  · refine ⟨0, f, r, ow, rs, ?_, ?_, Or.inl rfl, K, H, D, ls, t, T, h, hT⟩
    · unfold m8_carryOut m8_refusalOfCommand m0_number m0_word
      simp (config := {implicitDefEqProofs := false}) only [lt1_s, hc2, rt0, rt1, rt2, rt3, rt4, eq_false (show ¬ nI 2 = 0 by decide), eq_false (show ¬ nI 2 = 1 by decide), eq_true (show nI 2 = 2 from rfl), if_true, if_false, h0, h1, h2]
      rw [if_neg hx]
    · unfold m9_carryOut
      simp (config := {implicitDefEqProofs := false}) only [ck50, ck51, ck52, ck53, ck54, tc0, tc1, tc2, tc3, tc4, ltx_s, eq_false (show ¬ nI 2 = 0 by decide), eq_false (show ¬ nI 2 = 1 by decide), eq_true (show nI 2 = 2 from rfl), if_true, if_false, n0, n1, n2]
      rw [hy, ob1_s, if_neg hy1, ob2_s, ob4_s, if_neg hy2]
theorem carry_3 {f c : bkA} {r nu vs ow : Nat → Int32} {rs : Nat → Int64} {K H D t T N : Nat} {ls : List Nat} (h : SIM f r K H D ls t T) (hT : T ≤ 100000) (hN : 300 < N) (hc2 : c 2 2 = nI 3) (h0 : c 1 0 = vs 0) (h1 : c 1 1 = vs 1) (n0 : nu 0 = vs 0) (n1 : nu 1 = vs 1) : ∃ x f' r' ow' rs', m8_carryOut N f c = some (x, f') ∧ m9_carryOut N r ow rs nu (nI 3) = some (x, r', ow', rs') ∧ (x = 0 ∨ x = 1) ∧ SIMX f' r' := by
  obtain ⟨y, hy, hC, hA⟩ := S_bringCode h (vs 0) (vs 1)
  rcases C123_iff hC with ⟨hx, hy0⟩ | ⟨hx, hy1, hy2⟩
  · subst hy0
    obtain ⟨b1, hb1, eb1⟩ := hA hx
    obtain ⟨v, f', r', a1, a2, a3⟩ := S_takeLogs h hb1 (vs 1)
    rw [← eb1] at a1 a2
    refine ⟨1, f', r', ow, rs, ?_, ?_, Or.inr rfl, K, H, D, ls, t, T, a3, hT⟩
    · unfold m8_carryOut m8_refusalOfCommand m0_number m0_word
      simp (config := {implicitDefEqProofs := false}) only [lt1_s, hc2, rt0, rt1, rt2, rt3, rt4, eq_false (show ¬ nI 3 = 0 by decide), eq_false (show ¬ nI 3 = 1 by decide), eq_false (show ¬ nI 3 = 2 by decide), eq_true (show nI 3 = 3 from rfl), if_true, if_false, h0, h1]
      rw [hx, if_pos rfl, a1, lt2_s]
    · unfold m9_carryOut
      simp (config := {implicitDefEqProofs := false}) only [ck50, ck51, ck52, ck53, ck54, tc0, tc1, tc2, tc3, tc4, ltx_s, eq_false (show ¬ nI 3 = 0 by decide), eq_false (show ¬ nI 3 = 1 by decide), eq_false (show ¬ nI 3 = 2 by decide), eq_true (show nI 3 = 3 from rfl), if_true, if_false, n0, n1]
      rw [hy, ob1_s, if_pos (Int32.le_refl _), a2, ob2_s, ob2_s, ob4_s, if_pos rfl]
  · refine ⟨0, f, r, ow, rs, ?_, ?_, Or.inl rfl, K, H, D, ls, t, T, h, hT⟩
    · unfold m8_carryOut m8_refusalOfCommand m0_number m0_word
      simp (config := {implicitDefEqProofs := false}) only [lt1_s, hc2, rt0, rt1, rt2, rt3, rt4, eq_false (show ¬ nI 3 = 0 by decide), eq_false (show ¬ nI 3 = 1 by decide), eq_false (show ¬ nI 3 = 2 by decide), eq_true (show nI 3 = 3 from rfl), if_true, if_false, h0, h1]
      rw [if_neg hx]
    · unfold m9_carryOut
      simp (config := {implicitDefEqProofs := false}) only [ck50, ck51, ck52, ck53, ck54, tc0, tc1, tc2, tc3, tc4, ltx_s, eq_false (show ¬ nI 3 = 0 by decide), eq_false (show ¬ nI 3 = 1 by decide), eq_false (show ¬ nI 3 = 2 by decide), eq_true (show nI 3 = 3 from rfl), if_true, if_false, n0, n1]
      rw [hy, ob1_s, if_neg hy1, ob2_s, ob4_s, if_neg hy2]
theorem carry_4 {f c : bkA} {r nu vs ow : Nat → Int32} {rs : Nat → Int64} {K H D t T N : Nat} {ls : List Nat} (h : SIM f r K H D ls t T) (hT : T ≤ 100000) (hN : 300 < N) (hc2 : c 2 2 = nI 4) (h0 : c 1 0 = vs 0) (h1 : c 1 1 = vs 1) (n0 : nu 0 = vs 0) (n1 : nu 1 = vs 1) : ∃ x f' r' ow' rs', m8_carryOut N f c = some (x, f') ∧ m9_carryOut N r ow rs nu (nI 4) = some (x, r', ow', rs') ∧ (x = 0 ∨ x = 1) ∧ SIMX f' r' := by
  obtain ⟨y, hy, hC, hA⟩ := S_stokeCode h (vs 0) (vs 1)
  rcases C123_iff hC with ⟨hx, hy0⟩ | ⟨hx, hy1, hy2⟩
  · subst hy0
    obtain ⟨b1, b2, hb1, eb1, hb2, hb3, eb2, ht2⟩ := hA hx
    obtain ⟨v, f', r', a1, a2, a3⟩ := S_burnLogs h hb1 hb3 ht2
    rw [← eb1, ← eb2] at a1 a2
    refine ⟨1, f', r', ow, rs, ?_, ?_, Or.inr rfl, K, H, D, ls, t + 25 * b2, T, a3, hT⟩
    · unfold m8_carryOut m8_refusalOfCommand m0_number m0_word
      simp (config := {implicitDefEqProofs := false}) only [lt1_s, hc2, rt0, rt1, rt2, rt3, rt4, eq_false (show ¬ nI 4 = 0 by decide), eq_false (show ¬ nI 4 = 1 by decide), eq_false (show ¬ nI 4 = 2 by decide), eq_false (show ¬ nI 4 = 3 by decide), eq_true (show nI 4 = 4 from rfl), if_true, if_false, h0, h1]
      rw [hx, if_pos rfl, a1, lt2_s]
    · unfold m9_carryOut
      simp (config := {implicitDefEqProofs := false}) only [ck50, ck51, ck52, ck53, ck54, tc0, tc1, tc2, tc3, tc4, ltx_s, eq_false (show ¬ nI 4 = 0 by decide), eq_false (show ¬ nI 4 = 1 by decide), eq_false (show ¬ nI 4 = 2 by decide), eq_false (show ¬ nI 4 = 3 by decide), eq_true (show nI 4 = 4 from rfl), if_true, if_false, n0, n1]
      rw [hy, ob1_s, if_pos (Int32.le_refl _), a2, ob2_s, ob2_s, ob4_s, if_pos rfl]
  · refine ⟨0, f, r, ow, rs, ?_, ?_, Or.inl rfl, K, H, D, ls, t, T, h, hT⟩
    · unfold m8_carryOut m8_refusalOfCommand m0_number m0_word
      simp (config := {implicitDefEqProofs := false}) only [lt1_s, hc2, rt0, rt1, rt2, rt3, rt4, eq_false (show ¬ nI 4 = 0 by decide), eq_false (show ¬ nI 4 = 1 by decide), eq_false (show ¬ nI 4 = 2 by decide), eq_false (show ¬ nI 4 = 3 by decide), eq_true (show nI 4 = 4 from rfl), if_true, if_false, h0, h1]
      rw [if_neg hx]
    · unfold m9_carryOut
      simp (config := {implicitDefEqProofs := false}) only [ck50, ck51, ck52, ck53, ck54, tc0, tc1, tc2, tc3, tc4, ltx_s, eq_false (show ¬ nI 4 = 0 by decide), eq_false (show ¬ nI 4 = 1 by decide), eq_false (show ¬ nI 4 = 2 by decide), eq_false (show ¬ nI 4 = 3 by decide), eq_true (show nI 4 = 4 from rfl), if_true, if_false, n0, n1]
      rw [hy, ob1_s, if_neg hy1, ob2_s, ob4_s, if_neg hy2]
theorem carry_5 {f c : bkA} {r nu vs ow : Nat → Int32} {rs : Nat → Int64} {K H D t T N : Nat} {ls : List Nat} (h : SIM f r K H D ls t T) (hT : T ≤ 100000) (hN : 300 < N) (hc2 : c 2 2 = nI 5) (h0 : c 1 0 = vs 0) (n0 : nu 0 = vs 0) : ∃ x f' r' ow' rs', m8_carryOut N f c = some (x, f') ∧ m9_carryOut N r ow rs nu (nI 5) = some (x, r', ow', rs') ∧ (x = 0 ∨ x = 1) ∧ SIMX f' r' := by
  obtain ⟨y, hy, hC, hA⟩ := S_passCode h hT (vs 0)
  rcases C23_iff hC with ⟨hx, hy0⟩ | ⟨hx, hy1, hy2⟩
  · subst hy0
    obtain ⟨b1, hb1, hb2, eb1, hb3⟩ := hA hx
    obtain ⟨v, f', r', ls', t', a1, a2, a3, a4⟩ := S_pass (N := N) h hb2 (by omega) (by omega)
    rw [← eb1] at a1 a2
    refine ⟨1, f', r', ow, rs, ?_, ?_, Or.inr rfl, K, H, D, ls', t', T + b1, a3, hb3⟩
    · unfold m8_carryOut m8_refusalOfCommand m0_number m0_word
      simp (config := {implicitDefEqProofs := false}) only [lt1_s, hc2, rt0, rt1, rt2, rt3, rt4, eq_false (show ¬ nI 5 = 0 by decide), eq_false (show ¬ nI 5 = 1 by decide), eq_false (show ¬ nI 5 = 2 by decide), eq_false (show ¬ nI 5 = 3 by decide), eq_false (show ¬ nI 5 = 4 by decide), eq_true (show nI 5 = 5 from rfl), if_true, if_false, h0]
      rw [hx, if_pos rfl, a1, ob2_s]
    · unfold m9_carryOut
      simp (config := {implicitDefEqProofs := false}) only [ck50, ck51, ck52, ck53, ck54, tc0, tc1, tc2, tc3, tc4, ltx_s, eq_false (show ¬ nI 5 = 0 by decide), eq_false (show ¬ nI 5 = 1 by decide), eq_false (show ¬ nI 5 = 2 by decide), eq_false (show ¬ nI 5 = 3 by decide), eq_false (show ¬ nI 5 = 4 by decide), eq_true (show nI 5 = 5 from rfl), if_true, if_false, n0]
      rw [hy, ob1_s, if_pos (Int32.le_refl _), a2, ob2_s, ob2_s, ob4_s, if_pos rfl]
  · refine ⟨0, f, r, ow, rs, ?_, ?_, Or.inl rfl, K, H, D, ls, t, T, h, hT⟩
    · unfold m8_carryOut m8_refusalOfCommand m0_number m0_word
      simp (config := {implicitDefEqProofs := false}) only [lt1_s, hc2, rt0, rt1, rt2, rt3, rt4, eq_false (show ¬ nI 5 = 0 by decide), eq_false (show ¬ nI 5 = 1 by decide), eq_false (show ¬ nI 5 = 2 by decide), eq_false (show ¬ nI 5 = 3 by decide), eq_false (show ¬ nI 5 = 4 by decide), eq_true (show nI 5 = 5 from rfl), if_true, if_false, h0]
      rw [if_neg hx]
    · unfold m9_carryOut
      simp (config := {implicitDefEqProofs := false}) only [ck50, ck51, ck52, ck53, ck54, tc0, tc1, tc2, tc3, tc4, ltx_s, eq_false (show ¬ nI 5 = 0 by decide), eq_false (show ¬ nI 5 = 1 by decide), eq_false (show ¬ nI 5 = 2 by decide), eq_false (show ¬ nI 5 = 3 by decide), eq_false (show ¬ nI 5 = 4 by decide), eq_true (show nI 5 = 5 from rfl), if_true, if_false, n0]
      rw [hy, ob1_s, if_neg hy1, ob2_s, ob4_s, if_neg hy2]
theorem carry_6 {f c : bkA} {r nu vs ow : Nat → Int32} {rs : Nat → Int64} {K H D t T N : Nat} {ls : List Nat} (h : SIM f r K H D ls t T) (hT : T ≤ 100000) (hN : 300 < N) (hc2 : c 2 2 = nI 6) (h0 : c 1 0 = vs 0) (h1 : c 1 1 = vs 1) (n0 : nu 0 = vs 0) (n1 : nu 1 = vs 1) : ∃ x f' r' ow' rs', m8_carryOut N f c = some (x, f') ∧ m9_carryOut N r ow rs nu (nI 6) = some (x, r', ow', rs') ∧ (x = 0 ∨ x = 1) ∧ SIMX f' r' := by
  obtain ⟨y, hy, hC, hA⟩ := S_swapCode h (vs 0) (vs 1)
  rcases C123_iff hC with ⟨hx, hy0⟩ | ⟨hx, hy1, hy2⟩
  · subst hy0
    obtain ⟨b1, b2, hb1, eb1, hb2, eb2, hne⟩ := hA hx
    obtain ⟨v, f', r', ls', a1, a2, a3⟩ := S_exchange (N := N) h hb1 hb2 hne (by omega)
    rw [← eb1, ← eb2] at a1 a2
    refine ⟨1, f', r', ow, rs, ?_, ?_, Or.inr rfl, K, H, D, ls', t, T, a3, hT⟩
    · unfold m8_carryOut m8_refusalOfCommand m0_number m0_word
      simp (config := {implicitDefEqProofs := false}) only [lt1_s, hc2, rt0, rt1, rt2, rt3, rt4, eq_false (show ¬ nI 6 = 0 by decide), eq_false (show ¬ nI 6 = 1 by decide), eq_false (show ¬ nI 6 = 2 by decide), eq_false (show ¬ nI 6 = 3 by decide), eq_false (show ¬ nI 6 = 4 by decide), eq_false (show ¬ nI 6 = 5 by decide), eq_true (show nI 6 = 6 from rfl), if_true, if_false, h0, h1]
      rw [hx, if_pos rfl, a1, ob2_s]
    · unfold m9_carryOut
      simp (config := {implicitDefEqProofs := false}) only [ck50, ck51, ck52, ck53, ck54, tc0, tc1, tc2, tc3, tc4, ltx_s, eq_false (show ¬ nI 6 = 0 by decide), eq_false (show ¬ nI 6 = 1 by decide), eq_false (show ¬ nI 6 = 2 by decide), eq_false (show ¬ nI 6 = 3 by decide), eq_false (show ¬ nI 6 = 4 by decide), eq_false (show ¬ nI 6 = 5 by decide), eq_true (show nI 6 = 6 from rfl), if_true, if_false, n0, n1]
      rw [hy, ob1_s, if_pos (Int32.le_refl _), a2, ob2_s, ob2_s, ob4_s, if_pos rfl]
  · refine ⟨0, f, r, ow, rs, ?_, ?_, Or.inl rfl, K, H, D, ls, t, T, h, hT⟩
    · unfold m8_carryOut m8_refusalOfCommand m0_number m0_word
      simp (config := {implicitDefEqProofs := false}) only [lt1_s, hc2, rt0, rt1, rt2, rt3, rt4, eq_false (show ¬ nI 6 = 0 by decide), eq_false (show ¬ nI 6 = 1 by decide), eq_false (show ¬ nI 6 = 2 by decide), eq_false (show ¬ nI 6 = 3 by decide), eq_false (show ¬ nI 6 = 4 by decide), eq_false (show ¬ nI 6 = 5 by decide), eq_true (show nI 6 = 6 from rfl), if_true, if_false, h0, h1]
      rw [if_neg hx]
    · unfold m9_carryOut
      simp (config := {implicitDefEqProofs := false}) only [ck50, ck51, ck52, ck53, ck54, tc0, tc1, tc2, tc3, tc4, ltx_s, eq_false (show ¬ nI 6 = 0 by decide), eq_false (show ¬ nI 6 = 1 by decide), eq_false (show ¬ nI 6 = 2 by decide), eq_false (show ¬ nI 6 = 3 by decide), eq_false (show ¬ nI 6 = 4 by decide), eq_false (show ¬ nI 6 = 5 by decide), eq_true (show nI 6 = 6 from rfl), if_true, if_false, n0, n1]
      rw [hy, ob1_s, if_neg hy1, ob2_s, ob4_s, if_neg hy2]
theorem carry_7 {f c : bkA} {r nu ow : Nat → Int32} {rs : Nat → Int64} {K H D t T N : Nat} {ls : List Nat} (h : SIM f r K H D ls t T) (hT : T ≤ 100000) (hN : 300 < N) (hc2 : c 2 2 = nI 7) : ∃ x f' r' ow' rs', m8_carryOut N f c = some (x, f') ∧ m9_carryOut N r ow rs nu (nI 7) = some (x, r', ow', rs') ∧ (x = 0 ∨ x = 1) ∧ SIMX f' r' := by
  obtain ⟨v, f', r', ow', rs', a1, a2, a3⟩ := S_settle (N := N) h (by omega) (by omega) ow rs
  refine ⟨1, f', r', ow', rs', ?_, ?_, Or.inr rfl, K, H, D, ls, t, T, a3, hT⟩
  · unfold m8_carryOut m8_refusalOfCommand m0_number m0_word
    simp only [lt1_s, hc2, eq_false (show ¬ nI 7 = 0 by decide), eq_false (show ¬ nI 7 = 1 by decide), eq_false (show ¬ nI 7 = 2 by decide), eq_false (show ¬ nI 7 = 3 by decide), eq_false (show ¬ nI 7 = 4 by decide), eq_false (show ¬ nI 7 = 5 by decide), eq_false (show ¬ nI 7 = 6 by decide), eq_true (show nI 7 = 7 from rfl), if_true, if_false]
    rw [a1, ob2_s]
  · unfold m9_carryOut
    simp only [ck50, ck51, ck52, ck53, ck54, ltx_s, eq_false (show ¬ nI 7 = 0 by decide), eq_false (show ¬ nI 7 = 1 by decide), eq_false (show ¬ nI 7 = 2 by decide), eq_false (show ¬ nI 7 = 3 by decide), eq_false (show ¬ nI 7 = 4 by decide), eq_false (show ¬ nI 7 = 5 by decide), eq_false (show ¬ nI 7 = 6 by decide), if_true, if_false]
    rw [a2, ob4_s, ob4_s, if_pos rfl]
theorem S_carry {f c : bkA} {r nu vs ow : Nat → Int32} {rs : Nat → Int64} {N w : Nat} (h : SIMX f r) (hN : 300 < N) (hw : w < 8) (hc2 : c 2 2 = nI w) (hc : ∀ j, j < wn w → c 1 j = vs j) (hn : ∀ j, j < wn w → nu j = vs j) : ∃ x f' r' ow' rs', m8_carryOut N f c = some (x, f') ∧ m9_carryOut N r ow rs nu (nI w) = some (x, r', ow', rs') ∧ (x = 0 ∨ x = 1) ∧ SIMX f' r' := by
  obtain ⟨K, H, D, ls, t, T, h1, h2⟩ := h
  have h7 : w = 0 ∨ w = 1 ∨ w = 2 ∨ w = 3 ∨ w = 4 ∨ w = 5 ∨ w = 6 ∨ w = 7 := by omega
  rcases h7 with e | e | e | e | e | e | e | e <;> subst e
  · exact carry_0 h1 h2 hN hc2 (hc 0 (by decide)) (hc 1 (by decide)) (hc 2 (by decide)) (hc 3 (by decide)) (hc 4 (by decide)) (hn 0 (by decide)) (hn 1 (by decide)) (hn 2 (by decide)) (hn 3 (by decide)) (hn 4 (by decide))
  · exact carry_1 (vs := vs) h1 h2 hN hc2
  · exact carry_2 h1 h2 hN hc2 (hc 0 (by decide)) (hc 1 (by decide)) (hc 2 (by decide)) (hn 0 (by decide)) (hn 1 (by decide)) (hn 2 (by decide))
  · exact carry_3 h1 h2 hN hc2 (hc 0 (by decide)) (hc 1 (by decide)) (hn 0 (by decide)) (hn 1 (by decide))
  · exact carry_4 h1 h2 hN hc2 (hc 0 (by decide)) (hc 1 (by decide)) (hn 0 (by decide)) (hn 1 (by decide))
  · exact carry_5 h1 h2 hN hc2 (hc 0 (by decide)) (hn 0 (by decide))
  · exact carry_6 h1 h2 hN hc2 (hc 0 (by decide)) (hc 1 (by decide)) (hn 0 (by decide)) (hn 1 (by decide))
  · exact carry_7 h1 h2 hN hc2
