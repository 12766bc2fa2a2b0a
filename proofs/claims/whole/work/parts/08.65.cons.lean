/-! the start: the classes, the Strings, what of the JDK is read -/
theorem XK_start {z : Nat} {b : Addr} {s : State} (hts : ∀ w ∈ lw_tbl, w.before #[Value.ref b] s = true) : ∃ X : bkX, (∀ i, xa X i = z + pa i) ∧ NK X s := by
  obtain ⟨c0, i0, h0⟩ := u_known (C := RX0) (T := TX0) (N := 6) (n := 6) hts inX0 (hts (.instantiable RX0 6) (by decide +kernel))
  obtain ⟨c1, i1, h1⟩ := u_known (C := RX1) (T := TX1) (N := 9) (n := 9) hts inX1 (hts (.instantiable RX1 9) (by decide +kernel))
  obtain ⟨c2, i2, h2⟩ := u_known (C := RX2) (T := TX2) (N := 3) (n := 3) hts inX2 (hts (.instantiable RX2 3) (by decide +kernel))
  obtain ⟨c3, i3, h3⟩ := u_known (C := RX3) (T := TX3) (N := 7) (n := 7) hts inX3 (hts (.instantiable RX3 7) (by decide +kernel))
  obtain ⟨c4, i4, h4⟩ := u_known (C := RX4) (T := TX4) (N := 6) (n := 6) hts inX4 (hts (.instantiable RX4 6) (by decide +kernel))
  obtain ⟨c5, i5, h5⟩ := u_known (C := RX5) (T := TX5) (N := 3) (n := 3) hts inX5 (hts (.instantiable RX5 3) (by decide +kernel))
  obtain ⟨c6, i6, h6⟩ := u_known (C := RX6) (T := TX6) (N := 1) (n := 1) hts inX6 (hts (.instantiable RX6 1) (by decide +kernel))
  obtain ⟨c7, i7, h7⟩ := u_known (C := RX7) (T := TX7) (N := 14) (n := 14) hts inX7 (hts (.instantiable RX7 14) (by decide +kernel))
  obtain ⟨c8, i8, h8⟩ := u_known (C := RX8) (T := TX8) (N := 4) (n := 4) hts inX8 (hts (.instantiable RX8 4) (by decide +kernel))
  obtain ⟨c9, i9, h9⟩ := u_known (C := RX9) (T := TX9) (N := 13) (n := 13) hts inX9 (hts (.instantiable RX9 13) (by decide +kernel))
  obtain ⟨dI, kI, compI, a1, a2, a3⟩ := Cond.arrayClass_spec (type := .int) (hts (.arrayClass .int) (by decide +kernel))
  obtain ⟨dJ, kJ, compJ, b1, b2, b3⟩ := Cond.arrayClass_spec (type := .long) (hts (.arrayClass .long) (by decide +kernel))
  obtain ⟨compQ, dQ, kQ, q1, q2, q3, q4, q5⟩ := Cond.arrayOver_spec (hts (.arrayOver (.object "BakeTurns$State")) (by decide +kernel))
  refine ⟨((fun k => if k = 0 then c0 else if k = 1 then c1 else if k = 2 then c2 else if k = 3 then c3 else if k = 4 then c4 else if k = 5 then c5 else if k = 6 then c6 else if k = 7 then c7 else if k = 8 then c8 else c9, fun k => if k = 0 then i0 else if k = 1 then i1 else if k = 2 then i2 else if k = 3 then i3 else if k = 4 then i4 else if k = 5 then i5 else if k = 6 then i6 else if k = 7 then i7 else if k = 8 then i8 else i9), dI, dJ, dQ, fun i => z + pa i), fun i => rfl, ⟨?_, ?_⟩, hts (.arrayOver (.object "BakeTurns$State")) (by decide +kernel), va_Nw.of rfl (hts (.methodLinkNest RX7 11 yX4_init RX8) (by decide +kernel)), va_Nw.of rfl (hts (.methodLinkNest RX7 20 yX3_init RX8) (by decide +kernel)), va_Nw.of rfl (hts (.methodLinkNest RX7 27 yX1_init RX8) (by decide +kernel)), va_Nw.of rfl (hts (.methodLinkNest RX2 17 yX7_init RX8) (by decide +kernel)), va_Nw.of rfl (hts (.methodLinkNest RX8 9 yX7_init RX8) (by decide +kernel)), va_Nw.of rfl (hts (.methodLinkNest RX8 28 yX0_init RX8) (by decide +kernel))⟩
  · intro k q hq
    match k, hq with
    | 0, hq => cases hq; exact h0
    | 1, hq => cases hq; exact h1
    | 2, hq => cases hq; exact h2
    | 3, hq => cases hq; exact h3
    | 4, hq => cases hq; exact h4
    | 5, hq => cases hq; exact h5
    | 6, hq => cases hq; exact h6
    | 7, hq => cases hq; exact h7
    | 8, hq => cases hq; exact h8
    | 9, hq => cases hq; exact h9
    | k + 10, hq => simp [vwCl] at hq
  · intro k q hq
    match k, hq with
    | 0, hq => cases hq; exact ⟨fun N z => ⟨(fun k h => by cases h), kI, a2, compI, a3⟩, a1⟩
    | 1, hq => cases hq; exact ⟨fun N z => ⟨(fun k h => by cases h), kJ, b2, compJ, b3⟩, b1⟩
    | 2, hq => cases hq; exact ⟨fun N z => ⟨(fun k h => by cases h), kQ, q3, compQ, q4⟩, kQ, compQ, q3, q4, q1, q5⟩
    | k + 3, hq => simp [xT] at hq
def sTm (i : Nat) : Term := .string "BakeTurns$Commands" (97 + 2 * i)
set_option maxRecDepth 100000 in
theorem sg_ex : ∀ i, i < 8 → Cond.exactly (sTm i) "java/lang/String" ∈ flatC (Jvm.Cond.and given_1 narrow_1) := by decide +kernel
set_option maxRecDepth 100000 in
theorem sg_co : ∀ i, i < 8 → Cond.eq (.field (sTm i) "java/lang/String" "coder" "B") (.int 0) ∈ flatC (Jvm.Cond.and given_1 narrow_1) := by decide +kernel
set_option maxRecDepth 100000 in
theorem sg_ar : ∀ i, i < 8 → Cond.arrayOf (.field (sTm i) "java/lang/String" "value" "[B") .byte ∈ flatC (Jvm.Cond.and given_1 narrow_1) := by decide +kernel
set_option maxRecDepth 100000 in
theorem sg_le : ∀ i, i < 8 → Cond.eq (.length (.field (sTm i) "java/lang/String" "value" "[B")) (.int (Int32.ofNat (skL.getD i 0))) ∈ flatC (Jvm.Cond.and given_1 narrow_1) := by decide +kernel
set_option maxRecDepth 100000 in
theorem sg_el : ∀ i, i < 8 → ∀ j, j < skL.getD i 0 → Cond.eq (.elem (.field (sTm i) "java/lang/String" "value" "[B") (.int (Int32.ofNat j))) (.int ((skB.getD i []).getD j 0)) ∈ flatC (Jvm.Cond.and given_1 narrow_1) := by decide +kernel
set_option maxRecDepth 100000 in
theorem sg_ne : ∀ i, i < 8 → ∀ j, j < 8 → i ≠ j → Cond.not (Cond.eq (sTm i) (sTm j)) ∈ flatC (Jvm.Cond.and given_1 narrow_1) ∨ Cond.not (Cond.eq (sTm j) (sTm i)) ∈ flatC (Jvm.Cond.and given_1 narrow_1) := by decide +kernel
theorem SG_start {b : Addr} {s : State} (hts : ∀ w ∈ lw_tbl, w.before #[Value.ref b] s = true) (hgv : (Jvm.Cond.and given_1 narrow_1).before #[Value.ref b] s = true) : ∃ Y : bkY, SG Y s.heap.size s := by
  have hs := flat_of_before _ hgv
  have hA : ∀ a : Nat, a < s.heap.size → ¬ xF s.heap.size a := fun a h q => by have h2 : s.heap.size ≤ a := q; omega
  obtain ⟨adK, adV, v1, v2⟩ := vk_Sof (args := #[Value.ref b]) (s := s) (N := 8) (tm := sTm) (len := skL) (byt := skB) (A := xF s.heap.size) (by decide) (fun i hi => hs _ (sg_ex i hi)) (fun i hi => hs _ (sg_co i hi)) (fun i hi => hs _ (sg_ar i hi)) (fun i hi => hs _ (sg_le i hi)) (fun i hi j hj => hs _ (sg_el i hi j hj)) (fun i j hi hj hne => (sg_ne i hi j hj hne).elim (fun h => Or.inl (hs _ h)) (fun h => Or.inr (hs _ h))) hA
  obtain ⟨a8, _, _, _, x8, _⟩ := Cond.exactly_spec (args := #[Value.ref b]) (first := s) (o := none) (s := s) (idx := []) (t := .string "BakeTurns" 199) (cls := "java/lang/String") (hs _ (by decide +kernel))
  obtain ⟨a9, _, _, _, x9, _⟩ := Cond.exactly_spec (args := #[Value.ref b]) (first := s) (o := none) (s := s) (idx := []) (t := .string "BakeTurns" 206) (cls := "java/lang/String") (hs _ (by decide +kernel))
  obtain ⟨a10, _, _, _, x10, _⟩ := Cond.exactly_spec (args := #[Value.ref b]) (first := s) (o := none) (s := s) (idx := []) (t := .string "BakeTurns" 211) (cls := "java/lang/String") (hs _ (by decide +kernel))
  have vS : vk_S 8 skL skB (fun i => if i < 8 then adK i else if i = 8 then a8 else if i = 9 then a9 else a10) adV (xF s.heap.size) s s.heap := by
    refine ⟨fun i hi => ?_, fun i j hi hj e => ?_⟩
    · dsimp only
      rw [if_pos hi]
      exact v1.1 i hi
    · dsimp only at e
      rw [if_pos hi, if_pos hj] at e
      exact v1.2 i j hi hj e
  refine ⟨(fun i => if i < 8 then adK i else if i = 8 then a8 else if i = 9 then a9 else a10, adV), vS, ⟨?_, ?_, ?_, ?_, ?_, ?_, ?_, ?_⟩, ⟨?_, ?_, ?_⟩, ?_, ?_, ?_, ?_, ⟨⟨?_, ?_, ?_⟩, ⟨?_, ?_, ?_⟩, ?_, ?_, ?_, ?_, ?_, ?_⟩⟩
  · exact vk_R.of (hts (.stringRef RX0 97 "kind") (by decide +kernel)) (v2 0 (by decide))
  · exact vk_R.of (hts (.stringRef RX0 99 "house") (by decide +kernel)) (v2 1 (by decide))
  · exact vk_R.of (hts (.stringRef RX0 101 "dough") (by decide +kernel)) (v2 2 (by decide))
  · exact vk_R.of (hts (.stringRef RX0 103 "bring") (by decide +kernel)) (v2 3 (by decide))
  · exact vk_R.of (hts (.stringRef RX0 105 "stoke") (by decide +kernel)) (v2 4 (by decide))
  · exact vk_R.of (hts (.stringRef RX0 107 "pass") (by decide +kernel)) (v2 5 (by decide))
  · exact vk_R.of (hts (.stringRef RX0 109 "swap") (by decide +kernel)) (v2 6 (by decide))
  · exact vk_R.of (hts (.stringRef RX0 111 "settle") (by decide +kernel)) (v2 7 (by decide))
  · exact vk_R.of (hts (.stringRef RX8 199 "there is no such number") (by decide +kernel)) x8
  · exact vk_R.of (hts (.stringRef RX8 206 "an argument is out of range") (by decide +kernel)) x9
  · exact vk_R.of (hts (.stringRef RX8 211 "this cannot be done now") (by decide +kernel)) x10
  · exact va_Zof (hts (.laysStatic "java/lang/String" "COMPACT_STRINGS" "Z") (by decide +kernel)) (hts (.initialized "java/lang/String") (by decide +kernel)) (va_eqi (hs _ (by decide +kernel))) hA
  · exact va_Zqof (hts (.laysStatic "jdk/internal/util/Preconditions" "SIOOBE_FORMATTER" "Ljava/util/function/BiFunction;") (by decide +kernel)) (hts (.initialized "jdk/internal/util/Preconditions") (by decide +kernel)) (hs _ (by decide +kernel)) hA
  · exact vx_Zqof (hts (.laysStatic Bundle.tN "UNASSIGNED_STACK" Bundle.steD) (by decide +kernel)) (hts (.initialized Bundle.tN) (by decide +kernel)) (hs (.isRef (.static Bundle.tN "UNASSIGNED_STACK" Bundle.steD)) (by decide +kernel)) hA
  · exact vx_Zqof (hts (.laysStatic Bundle.tN "SUPPRESSED_SENTINEL" Bundle.listD) (by decide +kernel)) (hts (.initialized Bundle.tN) (by decide +kernel)) (hs (.isRef (.static Bundle.tN "SUPPRESSED_SENTINEL" Bundle.listD)) (by decide +kernel)) hA
  · exact va_Nw.of rfl (hts (.castable exA exA) (by decide +kernel))
  · exact va_Nw.of rfl (hts (.castable exB exB) (by decide +kernel))
  · exact va_Nw.of rfl (hts (.castable exC exC) (by decide +kernel))
  · exact va_Nw.of rfl (hts (.declares (Bundle.initS "java/lang/RuntimeException")) (by decide +kernel))
  · exact va_Nw.of rfl (hts (.declares (Bundle.initS "java/lang/Exception")) (by decide +kernel))
  · exact va_Nw.of rfl (hts (.declares (Bundle.initS Bundle.tN)) (by decide +kernel))
  · exact va_Nc.of (hs (.not (.castable exB exA)) (by decide +kernel))
  · exact va_Nc.of (hs (.not (.castable exC exA)) (by decide +kernel))
  · exact va_Nc.of (hs (.not (.castable exC exB)) (by decide +kernel))
  · exact va_Nc.of (hs (.not (.castable exA exB)) (by decide +kernel))
  · exact va_Nc.of (hs (.not (.castable exA exC)) (by decide +kernel))
  · exact va_Nc.of (hs (.not (.castable exB exC)) (by decide +kernel))
