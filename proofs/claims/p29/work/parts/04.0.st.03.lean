abbrev rmX7_setOfSpoiled : Room := { frames := 1, cells := 0, slots := 0, locals := 21 }
theorem iX7_setOfSpoiled_X1 : ∀ w ∈ wsX10, w ∈ wsX7_setOfSpoiled := by decide +kernel
theorem iX7_setOfSpoiled_X7 : ∀ w ∈ wsX70, w ∈ wsX7_setOfSpoiled := by decide +kernel
set_option maxHeartbeats 4000000 in
set_option maxRecDepth 100000 in
theorem k7_setOfSpoiled (l : Launch) {X : bkX} {b0 : Nat} (hX : XO X b0) {k : Nat} (hk : k < 6) (w : bkW) {N : Nat} {f0 : bkA} {res9 : Int32} (hf : m7_setOfSpoiled N f0 = some res9) : cI l yX7_setOfSpoiled wsX7_setOfSpoiled rmX7_setOfSpoiled X b0 [.ref (xa X (51*k+0))] (pk w k f0) res9 (pk w k f0) := by
  refine Met.ofW (cc := cX7_setOfSpoiled) (maxL := 3) (ret := (some .int)) (by decide) rfl ?_
  intro p e s m args below meth c s₁ B hml hv
  obtain ⟨ha, hP, hK⟩ := hv
  have hx := B.exec
  have hb := B.bytes
  have hr := B.returns
  have hts := atoms_spec (ws := wsX7_setOfSpoiled) B.pre
  have hown : s.vm.findClass RX7 = some m.cls := findClass_of_methodNamed B.named
  have hlocks := B.notSynchronized
  obtain ⟨R, hR⟩ : ∃ R, R = (headSpec wsX7_setOfSpoiled rmX7_setOfSpoiled).room := ⟨_, rfl⟩
  rw [← hR]
  have hR1 : R.frames = 1 := by rw [hR]; rfl
  have hR2 : R.locals = 21 := by rw [hR]; rfl
  obtain ⟨Q, hQ⟩ : ∃ Q : State → Prop, Q = MQ below (va_Qi (fun r' (_ : Unit) => r' = res9) (fun _ t => WU X (pk w k f0) t) (xF b0)) args s 0 0 (xF b0) := ⟨_, rfl⟩
  rw [← hQ]
  have hS : va_S (xF b0) s.heap s.heap [] := va_S.rf
  have hl := lv_entry ([.ref (xa X (51*k+0))]) (n := 3) (Nat.le_of_ble_eq_true rfl)
  refine W.eq ((congrArg (fun z => entryFrame m z 3) ha).trans (lg_entry_eq m _ 3)) ?_
  generalize (lg_sl ([.ref (xa X (51*k+0))]) ++ List.replicate (3 - (lg_sl ([.ref (xa X (51*k+0))])).length) Slot.unset).toArray = ls at hl ⊢
  have hl : lv_has ls 3 [(0, .ref (xa X (51*k+0)))] := hl
  have hk_f28 := hts (.fieldLink RX7 28 "BakeTurns$State" "doughs" "LBakeTurns$Doughs;") (by decide +kernel)
  have hk_f96 := hts (.fieldLink RX7 96 "BakeTurns$Doughs" "count" "I") (by decide +kernel)
  have hk_f101 := hts (.fieldLink RX7 101 "BakeTurns$Doughs" "phase" "LBakeTurns$Row;") (by decide +kernel)
  have hc_104 := (cwV 1 hts gX7_setOfSpoiled_X6_at rfl rfl rfl (by decide +kernel) ⟨by rw [hR1]; exact Nat.le_of_ble_eq_true rfl, by rw [hR2]; exact Nat.le_of_ble_eq_true rfl⟩ : CallW R s args RX7 RX6 104 yX6_at cX6_at 2 (some .int) wsX6_at rmX6_at 0 0 1)
  unfold m7_setOfSpoiled at hf
  refine lv_iconst (v := 0) hx hb dX7_setOfSpoiled_0 (by decide) ?_
  refine lv_istore_n (lv' := [(1, .int 0), (0, .ref (xa X (51*k+0)))]) hx hb dX7_setOfSpoiled_1 rfl hl (by decide) rfl (fun ls hl => ?_)
  refine lv_iconst (v := 0) hx hb dX7_setOfSpoiled_2 (by decide) ?_
  refine lv_istore_n (lv' := [(2, .int 0), (1, .int 0), (0, .ref (xa X (51*k+0)))]) hx hb dX7_setOfSpoiled_3 rfl hl (by decide) rfl (fun ls hl => ?_)
  have L4 : ∀ (n : Nat) (x2 : Int32) (x3 : Int32)  (o4 : Int32) (H : Heap) (locs : List Loc) (ls : Array Slot), m7_setOfSpoiled_L4 N n x2 x3 f0 = some o4 → HW X (pk w k f0) H → va_S (xF b0) s.heap H locs → lv_has ls 3 [(0, .ref (xa X (51*k+0))), (1, .int x2), (2, .int x3)] → (∀ (H1 : Heap) (locs1 : List Loc) (ls1 : Array Slot), HW X (pk w k f0) H1 → va_S (xF b0) s.heap H1 locs1 → lv_has ls1 3 [(1, .int o4)] → W p l e R s m args below meth c H1 locs1 0 0 Q (F0 m 42 ls1 [])) → W p l e R s m args below meth c H locs 0 0 Q (F0 m 4 ls []) := by
    intro n; induction n with
    | zero => intro x2 x3 o4 H locs ls hf; rw [m7_setOfSpoiled_L4] at hf; cases hf
    | succ n ih =>
      intro x2 x3 o4 H locs ls hf hP hS hl K
      rw [m7_setOfSpoiled_L4] at hf
      refine lv_iload_n hx hb dX7_setOfSpoiled_4 rfl (lv_at hl 2 rfl) ?_
      refine lv_aload_n hx hb dX7_setOfSpoiled_5 rfl (lv_at hl 0 rfl) ?_
      refine st_get (i0 := 0) hx hb hts iX7_setOfSpoiled_X7 hown hP hK hk (by decide) rfl rfl 2 (by decide) hk_f28 rfl dX7_setOfSpoiled_6 ?_
      refine st_get (i0 := 3) hx hb hts iX7_setOfSpoiled_X1 hown hP hK hk (by decide) rfl rfl 0 (by decide) hk_f96 rfl dX7_setOfSpoiled_9 ?_
      refine lv_icmp_ge (tgt := 42) hx hb dX7_setOfSpoiled_12 (by decide) (fun h5 => ?_) (fun h5 => ?_)
      · rw [if_pos h5] at hf
        have hf := Option.some.inj hf
        obtain rfl := hf
        exact K _ _ _ hP hS (lv_sub hl [1] rfl)
      · rw [if_neg h5] at hf
        refine lv_aload_n hx hb dX7_setOfSpoiled_15 rfl (lv_at hl 0 rfl) ?_
        refine st_get (i0 := 0) hx hb hts iX7_setOfSpoiled_X7 hown hP hK hk (by decide) rfl rfl 2 (by decide) hk_f28 rfl dX7_setOfSpoiled_16 ?_
        refine st_get (i0 := 3) hx hb hts iX7_setOfSpoiled_X1 hown hP hK hk (by decide) rfl rfl 5 (by decide) hk_f101 rfl dX7_setOfSpoiled_19 ?_
        refine lv_iload_n hx hb dX7_setOfSpoiled_22 rfl (lv_at hl 2 rfl) ?_
        refine st_at (j := 15) (n := 16) ⟨hx, hb, hml, hown, hts⟩ hP hK hS hk (by decide) rfl hc_104 hl.1 (Nat.le_of_ble_eq_true rfl) dX7_setOfSpoiled_23 (fun H locs hP hS => ?_)
        refine lv_iconst (v := 3) hx hb dX7_setOfSpoiled_26 (by decide) ?_
        obtain ⟨x8, ejK9, hf⟩ := lt1_e hf
        have K9 : ∀ (H : Heap) (locs : List Loc) (ls : Array Slot), HW X (pk w k f0) H → va_S (xF b0) s.heap H locs → lv_has ls 3 [(0, .ref (xa X (51*k+0))), (1, .int x8), (2, .int x3)] → W p l e R s m args below meth c H locs 0 0 Q (F0 m 36 ls []) := by
          intro H locs ls hP hS hl
          obtain ⟨x11, ex11⟩ : ∃ y : Int32, y = x3 + 1 := ⟨_, rfl⟩
          replace hf := ltn_s ex11 hf
          refine lv_iinc (v := x11) (lv' := [(2, .int x11), (0, .ref (xa X (51*k+0))), (1, .int x8)]) hx hb dX7_setOfSpoiled_36 hl (k := 2) rfl (by rw [ex11]; rfl) (by decide) rfl (fun ls hl => ?_)
          refine lv_goto (tgt := 4) hx hb dX7_setOfSpoiled_39 (by decide) ?_
          exact ih x8 x11 o4 _ _ _ hf hP hS (lv_sub hl [1, 2, 0] rfl) K
        clear hf
        refine lv_icmp_ne (tgt := 36) hx hb dX7_setOfSpoiled_27 (by decide) (fun h6 => ?_) (fun h6 => ?_)
        · rw [if_neg h6] at ejK9
          obtain rfl := ejK9
          exact K9 _ _ _ hP hS (lv_sub hl [0, 1, 2] rfl)
        · rw [if_pos h6] at ejK9
          refine lv_iload_n hx hb dX7_setOfSpoiled_30 rfl (lv_at hl 1 rfl) ?_
          refine lv_iconst (v := 1) hx hb dX7_setOfSpoiled_31 (by decide) ?_
          refine lv_iload_n hx hb dX7_setOfSpoiled_32 rfl (lv_at hl 2 rfl) ?_
          refine lv_ishl hx hb dX7_setOfSpoiled_33 ?_
          refine lv_ior hx hb dX7_setOfSpoiled_34 ?_
          refine lv_topi (fun x10 ex10 => ?_)
          replace ejK9 := ltn_s ex10 ejK9
          refine lv_istore_n (lv' := [(1, .int x10), (0, .ref (xa X (51*k+0))), (2, .int x3)]) hx hb dX7_setOfSpoiled_35 rfl hl (by decide) rfl (fun ls hl => ?_)
          obtain rfl := ejK9
          exact K9 _ _ _ hP hS (lv_sub hl [1, 0, 2] rfl)
  obtain ⟨x12, hc13, hf⟩ := ob1_e hf
  refine L4 N 0 0  x12 _ _ _ hc13 hP hS (lv_sub hl [2, 1, 0] rfl) (fun H locs ls hP hS hl => ?_)
  refine lv_iload_n hx hb dX7_setOfSpoiled_42 rfl (lv_at hl 0 rfl) ?_
  have hf := Option.some.inj hf
  obtain rfl := hf
  rw [hQ]
  exact w_iret hx hb hr hlocks hP hK hS dX7_setOfSpoiled_43 rfl rfl
abbrev rmX7_valueOfKind : Room := { frames := 1, cells := 0, slots := 0, locals := 21 }
theorem iX7_valueOfKind_X4 : ∀ w ∈ wsX40, w ∈ wsX7_valueOfKind := by decide +kernel
theorem iX7_valueOfKind_X7 : ∀ w ∈ wsX70, w ∈ wsX7_valueOfKind := by decide +kernel
set_option maxHeartbeats 4000000 in
set_option maxRecDepth 100000 in
theorem k7_valueOfKind (l : Launch) {X : bkX} {b0 : Nat} (hX : XO X b0) {k : Nat} (hk : k < 6) (w : bkW) {f0 : bkA} {a1 : Int32} {a2 : Int32} {res9 : Int32} (hf : m7_valueOfKind f0 a1 a2 = res9) : cI l yX7_valueOfKind wsX7_valueOfKind rmX7_valueOfKind X b0 [.ref (xa X (51*k+0)), .int a1, .int a2] (pk w k f0) res9 (pk w k f0) := by
  refine Met.ofW (cc := cX7_valueOfKind) (maxL := 3) (ret := (some .int)) (by decide) rfl ?_
  intro p e s m args below meth c s₁ B hml hv
  obtain ⟨ha, hP, hK⟩ := hv
  have hx := B.exec
  have hb := B.bytes
  have hr := B.returns
  have hts := atoms_spec (ws := wsX7_valueOfKind) B.pre
  have hown : s.vm.findClass RX7 = some m.cls := findClass_of_methodNamed B.named
  have hlocks := B.notSynchronized
  obtain ⟨R, hR⟩ : ∃ R, R = (headSpec wsX7_valueOfKind rmX7_valueOfKind).room := ⟨_, rfl⟩
  rw [← hR]
  have hR1 : R.frames = 1 := by rw [hR]; rfl
  have hR2 : R.locals = 21 := by rw [hR]; rfl
  obtain ⟨Q, hQ⟩ : ∃ Q : State → Prop, Q = MQ below (va_Qi (fun r' (_ : Unit) => r' = res9) (fun _ t => WU X (pk w k f0) t) (xF b0)) args s 0 0 (xF b0) := ⟨_, rfl⟩
  rw [← hQ]
  have hS : va_S (xF b0) s.heap s.heap [] := va_S.rf
  have hl := lv_entry ([.ref (xa X (51*k+0)), .int a1, .int a2]) (n := 3) (Nat.le_of_ble_eq_true rfl)
  refine W.eq ((congrArg (fun z => entryFrame m z 3) ha).trans (lg_entry_eq m _ 3)) ?_
  generalize (lg_sl ([.ref (xa X (51*k+0)), .int a1, .int a2]) ++ List.replicate (3 - (lg_sl ([.ref (xa X (51*k+0)), .int a1, .int a2])).length) Slot.unset).toArray = ls at hl ⊢
  have hl : lv_has ls 3 [(0, .ref (xa X (51*k+0))), (1, .int a1), (2, .int a2)] := hl
  have hk_f12 := hts (.fieldLink RX7 12 "BakeTurns$State" "kinds" "LBakeTurns$Kinds;") (by decide +kernel)
  have hk_f124 := hts (.fieldLink RX7 124 "BakeTurns$Kinds" "least" "LBakeTurns$Row;") (by decide +kernel)
  have hc_104 := (cwV 1 hts gX7_valueOfKind_X6_at rfl rfl rfl (by decide +kernel) ⟨by rw [hR1]; exact Nat.le_of_ble_eq_true rfl, by rw [hR2]; exact Nat.le_of_ble_eq_true rfl⟩ : CallW R s args RX7 RX6 104 yX6_at cX6_at 2 (some .int) wsX6_at rmX6_at 0 0 1)
  have hk_f131 := hts (.fieldLink RX7 131 "BakeTurns$Kinds" "greatest" "LBakeTurns$Row;") (by decide +kernel)
  have hk_f134 := hts (.fieldLink RX7 134 "BakeTurns$Kinds" "bake" "LBakeTurns$Row;") (by decide +kernel)
  have hk_f137 := hts (.fieldLink RX7 137 "BakeTurns$Kinds" "ripen" "LBakeTurns$Row;") (by decide +kernel)
  have hk_f140 := hts (.fieldLink RX7 140 "BakeTurns$Kinds" "keep" "LBakeTurns$Row;") (by decide +kernel)
  unfold m7_valueOfKind at hf
  refine lv_iload_n hx hb dX7_valueOfKind_0 rfl (lv_at hl 2 rfl) ?_
  by_cases hsw1 : a2 = 0
  · rw [if_pos hsw1] at hf
    refine lv_tableIn (off := 31) (tgt := 32) hx hb dX7_valueOfKind_1 (by rw [hsw1]; decide) (by rw [hsw1]; decide) (by rw [hsw1]; rfl) (by decide) ?_
    refine lv_aload_n hx hb dX7_valueOfKind_32 rfl (lv_at hl 0 rfl) ?_
    refine st_get (i0 := 0) hx hb hts iX7_valueOfKind_X7 hown hP hK hk (by decide) rfl rfl 0 (by decide) hk_f12 rfl dX7_valueOfKind_33 ?_
    refine st_get (i0 := 1) hx hb hts iX7_valueOfKind_X4 hown hP hK hk (by decide) rfl rfl 1 (by decide) hk_f124 rfl dX7_valueOfKind_36 ?_
    refine lv_iload_n hx hb dX7_valueOfKind_39 rfl (lv_at hl 1 rfl) ?_
    refine st_at (j := 0) (n := 5) ⟨hx, hb, hml, hown, hts⟩ hP hK hS hk (by decide) rfl hc_104 hl.1 (Nat.le_of_ble_eq_true rfl) dX7_valueOfKind_40 (fun H locs hP hS => ?_)
    obtain rfl := hf
    rw [hQ]
    exact w_iret hx hb hr hlocks hP hK hS dX7_valueOfKind_43 rfl rfl
  rw [if_neg hsw1] at hf
  by_cases hsw2 : a2 = 1
  · rw [if_pos hsw2] at hf
    refine lv_tableIn (off := 43) (tgt := 44) hx hb dX7_valueOfKind_1 (by rw [hsw2]; decide) (by rw [hsw2]; decide) (by rw [hsw2]; rfl) (by decide) ?_
    refine lv_aload_n hx hb dX7_valueOfKind_44 rfl (lv_at hl 0 rfl) ?_
    refine st_get (i0 := 0) hx hb hts iX7_valueOfKind_X7 hown hP hK hk (by decide) rfl rfl 0 (by decide) hk_f12 rfl dX7_valueOfKind_45 ?_
    refine st_get (i0 := 1) hx hb hts iX7_valueOfKind_X4 hown hP hK hk (by decide) rfl rfl 2 (by decide) hk_f131 rfl dX7_valueOfKind_48 ?_
    refine lv_iload_n hx hb dX7_valueOfKind_51 rfl (lv_at hl 1 rfl) ?_
    refine st_at (j := 1) (n := 5) ⟨hx, hb, hml, hown, hts⟩ hP hK hS hk (by decide) rfl hc_104 hl.1 (Nat.le_of_ble_eq_true rfl) dX7_valueOfKind_52 (fun H locs hP hS => ?_)
    obtain rfl := hf
    rw [hQ]
    exact w_iret hx hb hr hlocks hP hK hS dX7_valueOfKind_55 rfl rfl
  rw [if_neg hsw2] at hf
  by_cases hsw3 : a2 = 2
  · rw [if_pos hsw3] at hf
    refine lv_tableIn (off := 55) (tgt := 56) hx hb dX7_valueOfKind_1 (by rw [hsw3]; decide) (by rw [hsw3]; decide) (by rw [hsw3]; rfl) (by decide) ?_
    refine lv_aload_n hx hb dX7_valueOfKind_56 rfl (lv_at hl 0 rfl) ?_
    refine st_get (i0 := 0) hx hb hts iX7_valueOfKind_X7 hown hP hK hk (by decide) rfl rfl 0 (by decide) hk_f12 rfl dX7_valueOfKind_57 ?_
    refine st_get (i0 := 1) hx hb hts iX7_valueOfKind_X4 hown hP hK hk (by decide) rfl rfl 3 (by decide) hk_f134 rfl dX7_valueOfKind_60 ?_
    refine lv_iload_n hx hb dX7_valueOfKind_63 rfl (lv_at hl 1 rfl) ?_
    refine st_at (j := 2) (n := 5) ⟨hx, hb, hml, hown, hts⟩ hP hK hS hk (by decide) rfl hc_104 hl.1 (Nat.le_of_ble_eq_true rfl) dX7_valueOfKind_64 (fun H locs hP hS => ?_)
    obtain rfl := hf
    rw [hQ]
    exact w_iret hx hb hr hlocks hP hK hS dX7_valueOfKind_67 rfl rfl
  rw [if_neg hsw3] at hf
  by_cases hsw4 : a2 = 3
  · rw [if_pos hsw4] at hf
    refine lv_tableIn (off := 67) (tgt := 68) hx hb dX7_valueOfKind_1 (by rw [hsw4]; decide) (by rw [hsw4]; decide) (by rw [hsw4]; rfl) (by decide) ?_
    refine lv_aload_n hx hb dX7_valueOfKind_68 rfl (lv_at hl 0 rfl) ?_
    refine st_get (i0 := 0) hx hb hts iX7_valueOfKind_X7 hown hP hK hk (by decide) rfl rfl 0 (by decide) hk_f12 rfl dX7_valueOfKind_69 ?_
    refine st_get (i0 := 1) hx hb hts iX7_valueOfKind_X4 hown hP hK hk (by decide) rfl rfl 4 (by decide) hk_f137 rfl dX7_valueOfKind_72 ?_
    refine lv_iload_n hx hb dX7_valueOfKind_75 rfl (lv_at hl 1 rfl) ?_
    refine st_at (j := 3) (n := 5) ⟨hx, hb, hml, hown, hts⟩ hP hK hS hk (by decide) rfl hc_104 hl.1 (Nat.le_of_ble_eq_true rfl) dX7_valueOfKind_76 (fun H locs hP hS => ?_)
    obtain rfl := hf
    rw [hQ]
    exact w_iret hx hb hr hlocks hP hK hS dX7_valueOfKind_79 rfl rfl
  rw [if_neg hsw4] at hf
  have hdf : (a2).toInt < 0 ∨ 3 < (a2).toInt := by
    have ghsw1 := ne_i (z := 0) hsw1 (by decide)
    have ghsw2 := ne_i (z := 1) hsw2 (by decide)
    have ghsw3 := ne_i (z := 2) hsw3 (by decide)
    have ghsw4 := ne_i (z := 3) hsw4 (by decide)
    omega
  refine lv_tableOut (tgt := 80) hx hb dX7_valueOfKind_1 hdf (by decide) ?_
  refine lv_aload_n hx hb dX7_valueOfKind_80 rfl (lv_at hl 0 rfl) ?_
  refine st_get (i0 := 0) hx hb hts iX7_valueOfKind_X7 hown hP hK hk (by decide) rfl rfl 0 (by decide) hk_f12 rfl dX7_valueOfKind_81 ?_
  refine st_get (i0 := 1) hx hb hts iX7_valueOfKind_X4 hown hP hK hk (by decide) rfl rfl 5 (by decide) hk_f140 rfl dX7_valueOfKind_84 ?_
  refine lv_iload_n hx hb dX7_valueOfKind_87 rfl (lv_at hl 1 rfl) ?_
  refine st_at (j := 4) (n := 5) ⟨hx, hb, hml, hown, hts⟩ hP hK hS hk (by decide) rfl hc_104 hl.1 (Nat.le_of_ble_eq_true rfl) dX7_valueOfKind_88 (fun H locs hP hS => ?_)
  obtain rfl := hf
  rw [hQ]
  exact w_iret hx hb hr hlocks hP hK hS dX7_valueOfKind_91 rfl rfl
abbrev rmX7_countDoughsOf : Room := { frames := 1, cells := 0, slots := 0, locals := 21 }
theorem iX7_countDoughsOf_X1 : ∀ w ∈ wsX10, w ∈ wsX7_countDoughsOf := by decide +kernel
theorem iX7_countDoughsOf_X7 : ∀ w ∈ wsX70, w ∈ wsX7_countDoughsOf := by decide +kernel
set_option maxHeartbeats 4000000 in
set_option maxRecDepth 100000 in
theorem k7_countDoughsOf (l : Launch) {X : bkX} {b0 : Nat} (hX : XO X b0) {k : Nat} (hk : k < 6) (w : bkW) {N : Nat} {f0 : bkA} {a1 : Int32} {res9 : Int32} (hf : m7_countDoughsOf N f0 a1 = some res9) : cI l yX7_countDoughsOf wsX7_countDoughsOf rmX7_countDoughsOf X b0 [.ref (xa X (51*k+0)), .int a1] (pk w k f0) res9 (pk w k f0) := by
  refine Met.ofW (cc := cX7_countDoughsOf) (maxL := 4) (ret := (some .int)) (by decide) rfl ?_
  intro p e s m args below meth c s₁ B hml hv
  obtain ⟨ha, hP, hK⟩ := hv
  have hx := B.exec
  have hb := B.bytes
  have hr := B.returns
  have hts := atoms_spec (ws := wsX7_countDoughsOf) B.pre
  have hown : s.vm.findClass RX7 = some m.cls := findClass_of_methodNamed B.named
  have hlocks := B.notSynchronized
  obtain ⟨R, hR⟩ : ∃ R, R = (headSpec wsX7_countDoughsOf rmX7_countDoughsOf).room := ⟨_, rfl⟩
  rw [← hR]
  have hR1 : R.frames = 1 := by rw [hR]; rfl
  have hR2 : R.locals = 21 := by rw [hR]; rfl
  obtain ⟨Q, hQ⟩ : ∃ Q : State → Prop, Q = MQ below (va_Qi (fun r' (_ : Unit) => r' = res9) (fun _ t => WU X (pk w k f0) t) (xF b0)) args s 0 0 (xF b0) := ⟨_, rfl⟩
  rw [← hQ]
  have hS : va_S (xF b0) s.heap s.heap [] := va_S.rf
  have hl := lv_entry ([.ref (xa X (51*k+0)), .int a1]) (n := 4) (Nat.le_of_ble_eq_true rfl)
  refine W.eq ((congrArg (fun z => entryFrame m z 4) ha).trans (lg_entry_eq m _ 4)) ?_
  generalize (lg_sl ([.ref (xa X (51*k+0)), .int a1]) ++ List.replicate (4 - (lg_sl ([.ref (xa X (51*k+0)), .int a1])).length) Slot.unset).toArray = ls at hl ⊢
  have hl : lv_has ls 4 [(0, .ref (xa X (51*k+0))), (1, .int a1)] := hl
  have hk_f28 := hts (.fieldLink RX7 28 "BakeTurns$State" "doughs" "LBakeTurns$Doughs;") (by decide +kernel)
  have hk_f96 := hts (.fieldLink RX7 96 "BakeTurns$Doughs" "count" "I") (by decide +kernel)
  have hk_f143 := hts (.fieldLink RX7 143 "BakeTurns$Doughs" "houseOf" "LBakeTurns$Row;") (by decide +kernel)
  have hc_104 := (cwV 1 hts gX7_countDoughsOf_X6_at rfl rfl rfl (by decide +kernel) ⟨by rw [hR1]; exact Nat.le_of_ble_eq_true rfl, by rw [hR2]; exact Nat.le_of_ble_eq_true rfl⟩ : CallW R s args RX7 RX6 104 yX6_at cX6_at 2 (some .int) wsX6_at rmX6_at 0 0 1)
  unfold m7_countDoughsOf at hf
  refine lv_iconst (v := 0) hx hb dX7_countDoughsOf_0 (by decide) ?_
  refine lv_istore_n (lv' := [(2, .int 0), (0, .ref (xa X (51*k+0))), (1, .int a1)]) hx hb dX7_countDoughsOf_1 rfl hl (by decide) rfl (fun ls hl => ?_)
  refine lv_iconst (v := 0) hx hb dX7_countDoughsOf_2 (by decide) ?_
  refine lv_istore_n (lv' := [(3, .int 0), (2, .int 0), (0, .ref (xa X (51*k+0))), (1, .int a1)]) hx hb dX7_countDoughsOf_3 rfl hl (by decide) rfl (fun ls hl => ?_)
  have L4 : ∀ (n : Nat) (x2 : Int32) (x3 : Int32) (x4 : Int32)  (o5 : Int32) (H : Heap) (locs : List Loc) (ls : Array Slot), m7_countDoughsOf_L4 N n x2 x3 x4 f0 = some o5 → HW X (pk w k f0) H → va_S (xF b0) s.heap H locs → lv_has ls 4 [(0, .ref (xa X (51*k+0))), (1, .int x2), (2, .int x3), (3, .int x4)] → (∀ (H1 : Heap) (locs1 : List Loc) (ls1 : Array Slot), HW X (pk w k f0) H1 → va_S (xF b0) s.heap H1 locs1 → lv_has ls1 4 [(2, .int o5)] → W p l e R s m args below meth c H1 locs1 0 0 Q (F0 m 39 ls1 [])) → W p l e R s m args below meth c H locs 0 0 Q (F0 m 4 ls []) := by
    intro n; induction n with
    | zero => intro x2 x3 x4 o5 H locs ls hf; rw [m7_countDoughsOf_L4] at hf; cases hf
    | succ n ih =>
      intro x2 x3 x4 o5 H locs ls hf hP hS hl K
      rw [m7_countDoughsOf_L4] at hf
      refine lv_iload_n hx hb dX7_countDoughsOf_4 rfl (lv_at hl 3 rfl) ?_
      refine lv_aload_n hx hb dX7_countDoughsOf_5 rfl (lv_at hl 0 rfl) ?_
      refine st_get (i0 := 0) hx hb hts iX7_countDoughsOf_X7 hown hP hK hk (by decide) rfl rfl 2 (by decide) hk_f28 rfl dX7_countDoughsOf_6 ?_
      refine st_get (i0 := 3) hx hb hts iX7_countDoughsOf_X1 hown hP hK hk (by decide) rfl rfl 0 (by decide) hk_f96 rfl dX7_countDoughsOf_9 ?_
      refine lv_icmp_ge (tgt := 39) hx hb dX7_countDoughsOf_12 (by decide) (fun h6 => ?_) (fun h6 => ?_)
      · rw [if_pos h6] at hf
        have hf := Option.some.inj hf
        obtain rfl := hf
        exact K _ _ _ hP hS (lv_sub hl [2] rfl)
      · rw [if_neg h6] at hf
        refine lv_aload_n hx hb dX7_countDoughsOf_15 rfl (lv_at hl 0 rfl) ?_
        refine st_get (i0 := 0) hx hb hts iX7_countDoughsOf_X7 hown hP hK hk (by decide) rfl rfl 2 (by decide) hk_f28 rfl dX7_countDoughsOf_16 ?_
        refine st_get (i0 := 3) hx hb hts iX7_countDoughsOf_X1 hown hP hK hk (by decide) rfl rfl 1 (by decide) hk_f143 rfl dX7_countDoughsOf_19 ?_
        refine lv_iload_n hx hb dX7_countDoughsOf_22 rfl (lv_at hl 3 rfl) ?_
        refine st_at (j := 11) (n := 16) ⟨hx, hb, hml, hown, hts⟩ hP hK hS hk (by decide) rfl hc_104 hl.1 (Nat.le_of_ble_eq_true rfl) dX7_countDoughsOf_23 (fun H locs hP hS => ?_)
        refine lv_iload_n hx hb dX7_countDoughsOf_26 rfl (lv_at hl 1 rfl) ?_
        obtain ⟨x9, ejK10, hf⟩ := lt1_e hf
        have K10 : ∀ (H : Heap) (locs : List Loc) (ls : Array Slot), HW X (pk w k f0) H → va_S (xF b0) s.heap H locs → lv_has ls 4 [(0, .ref (xa X (51*k+0))), (1, .int x2), (2, .int x9), (3, .int x4)] → W p l e R s m args below meth c H locs 0 0 Q (F0 m 33 ls []) := by
          intro H locs ls hP hS hl
          obtain ⟨x12, ex12⟩ : ∃ y : Int32, y = x4 + 1 := ⟨_, rfl⟩
          replace hf := ltn_s ex12 hf
          refine lv_iinc (v := x12) (lv' := [(3, .int x12), (0, .ref (xa X (51*k+0))), (1, .int x2), (2, .int x9)]) hx hb dX7_countDoughsOf_33 hl (k := 3) rfl (by rw [ex12]; rfl) (by decide) rfl (fun ls hl => ?_)
          refine lv_goto (tgt := 4) hx hb dX7_countDoughsOf_36 (by decide) ?_
          exact ih x2 x9 x12 o5 _ _ _ hf hP hS (lv_sub hl [1, 2, 3, 0] rfl) K
        clear hf
        refine lv_icmp_ne (tgt := 33) hx hb dX7_countDoughsOf_27 (by decide) (fun h7 => ?_) (fun h7 => ?_)
        · rw [if_neg h7] at ejK10
          obtain rfl := ejK10
          exact K10 _ _ _ hP hS (lv_sub hl [0, 1, 2, 3] rfl)
        · rw [if_pos h7] at ejK10
          obtain ⟨x11, ex11⟩ : ∃ y : Int32, y = x3 + 1 := ⟨_, rfl⟩
          replace ejK10 := ltn_s ex11 ejK10
          refine lv_iinc (v := x11) (lv' := [(2, .int x11), (0, .ref (xa X (51*k+0))), (1, .int x2), (3, .int x4)]) hx hb dX7_countDoughsOf_30 hl (k := 2) rfl (by rw [ex11]; rfl) (by decide) rfl (fun ls hl => ?_)
          obtain rfl := ejK10
          exact K10 _ _ _ hP hS (lv_sub hl [1, 2, 0, 3] rfl)
  obtain ⟨x13, hc14, hf⟩ := ob1_e hf
  refine L4 N a1 0 0  x13 _ _ _ hc14 hP hS (lv_sub hl [2, 3, 1, 0] rfl) (fun H locs ls hP hS hl => ?_)
  refine lv_iload_n hx hb dX7_countDoughsOf_39 rfl (lv_at hl 0 rfl) ?_
  have hf := Option.some.inj hf
  obtain rfl := hf
  rw [hQ]
  exact w_iret hx hb hr hlocks hP hK hS dX7_countDoughsOf_40 rfl rfl
abbrev rmX7_placeInLine : Room := { frames := 1, cells := 0, slots := 0, locals := 21 }
theorem iX7_placeInLine_X7 : ∀ w ∈ wsX70, w ∈ wsX7_placeInLine := by decide +kernel
set_option maxHeartbeats 4000000 in
set_option maxRecDepth 100000 in
theorem k7_placeInLine (l : Launch) {X : bkX} {b0 : Nat} (hX : XO X b0) {k : Nat} (hk : k < 6) (w : bkW) {N : Nat} {f0 : bkA} {a1 : Int32} {res9 : Int32} (hf : m7_placeInLine N f0 a1 = some res9) : cI l yX7_placeInLine wsX7_placeInLine rmX7_placeInLine X b0 [.ref (xa X (51*k+0)), .int a1] (pk w k f0) res9 (pk w k f0) := by
  refine Met.ofW (cc := cX7_placeInLine) (maxL := 3) (ret := (some .int)) (by decide) rfl ?_
  intro p e s m args below meth c s₁ B hml hv
  obtain ⟨ha, hP, hK⟩ := hv
  have hx := B.exec
  have hb := B.bytes
  have hr := B.returns
  have hts := atoms_spec (ws := wsX7_placeInLine) B.pre
  have hown : s.vm.findClass RX7 = some m.cls := findClass_of_methodNamed B.named
  have hlocks := B.notSynchronized
  obtain ⟨R, hR⟩ : ∃ R, R = (headSpec wsX7_placeInLine rmX7_placeInLine).room := ⟨_, rfl⟩
  rw [← hR]
  have hR1 : R.frames = 1 := by rw [hR]; rfl
  have hR2 : R.locals = 21 := by rw [hR]; rfl
  obtain ⟨Q, hQ⟩ : ∃ Q : State → Prop, Q = MQ below (va_Qi (fun r' (_ : Unit) => r' = res9) (fun _ t => WU X (pk w k f0) t) (xF b0)) args s 0 0 (xF b0) := ⟨_, rfl⟩
  rw [← hQ]
  have hS : va_S (xF b0) s.heap s.heap [] := va_S.rf
  have hl := lv_entry ([.ref (xa X (51*k+0)), .int a1]) (n := 3) (Nat.le_of_ble_eq_true rfl)
  refine W.eq ((congrArg (fun z => entryFrame m z 3) ha).trans (lg_entry_eq m _ 3)) ?_
  generalize (lg_sl ([.ref (xa X (51*k+0)), .int a1]) ++ List.replicate (3 - (lg_sl ([.ref (xa X (51*k+0)), .int a1])).length) Slot.unset).toArray = ls at hl ⊢
  have hl : lv_has ls 3 [(0, .ref (xa X (51*k+0))), (1, .int a1)] := hl
  have hk_f64 := hts (.fieldLink RX7 64 "BakeTurns$State" "waiting" "I") (by decide +kernel)
  have hk_f44 := hts (.fieldLink RX7 44 "BakeTurns$State" "inLine" "LBakeTurns$Row;") (by decide +kernel)
  have hc_104 := (cwV 1 hts gX7_placeInLine_X6_at rfl rfl rfl (by decide +kernel) ⟨by rw [hR1]; exact Nat.le_of_ble_eq_true rfl, by rw [hR2]; exact Nat.le_of_ble_eq_true rfl⟩ : CallW R s args RX7 RX6 104 yX6_at cX6_at 2 (some .int) wsX6_at rmX6_at 0 0 1)
  unfold m7_placeInLine at hf
  refine lv_iconst (v := 0) hx hb dX7_placeInLine_0 (by decide) ?_
  refine lv_istore_n (lv' := [(2, .int 0), (0, .ref (xa X (51*k+0))), (1, .int a1)]) hx hb dX7_placeInLine_1 rfl hl (by decide) rfl (fun ls hl => ?_)
  have L2 : ∀ (n : Nat) (x2 : Int32) (x3 : Int32)  (H : Heap) (locs : List Loc) (ls : Array Slot), m7_placeInLine_L2 N n x2 x3 f0 = some res9 → HW X (pk w k f0) H → va_S (xF b0) s.heap H locs → lv_has ls 3 [(0, .ref (xa X (51*k+0))), (1, .int x2), (2, .int x3)] → W p l e R s m args below meth c H locs 0 0 Q (F0 m 2 ls []) := by
    intro n; induction n with
    | zero => intro x2 x3 H locs ls hf; rw [m7_placeInLine_L2] at hf; cases hf
    | succ n ih =>
      intro x2 x3 H locs ls hf hP hS hl
      rw [m7_placeInLine_L2] at hf
      refine lv_iload_n hx hb dX7_placeInLine_2 rfl (lv_at hl 2 rfl) ?_
      refine lv_aload_n hx hb dX7_placeInLine_3 rfl (lv_at hl 0 rfl) ?_
      refine st_get (i0 := 0) hx hb hts iX7_placeInLine_X7 hown hP hK hk (by decide) rfl rfl 5 (by decide) hk_f64 rfl dX7_placeInLine_4 ?_
      refine lv_icmp_ge (tgt := 30) hx hb dX7_placeInLine_7 (by decide) (fun h4 => ?_) (fun h4 => ?_)
      · rw [if_pos h4] at hf
        refine lv_iconst (v := (-1)) hx hb dX7_placeInLine_30 (by decide) ?_
        have hf := Option.some.inj hf
        obtain rfl := hf
        rw [hQ]
        exact w_iret hx hb hr hlocks hP hK hS dX7_placeInLine_31 rfl rfl
      · rw [if_neg h4] at hf
        refine lv_aload_n hx hb dX7_placeInLine_10 rfl (lv_at hl 0 rfl) ?_
        refine st_get (i0 := 0) hx hb hts iX7_placeInLine_X7 hown hP hK hk (by decide) rfl rfl 4 (by decide) hk_f44 rfl dX7_placeInLine_11 ?_
        refine lv_iload_n hx hb dX7_placeInLine_14 rfl (lv_at hl 2 rfl) ?_
        refine st_at (j := 22) (n := 16) ⟨hx, hb, hml, hown, hts⟩ hP hK hS hk (by decide) rfl hc_104 hl.1 (Nat.le_of_ble_eq_true rfl) dX7_placeInLine_15 (fun H locs hP hS => ?_)
        refine lv_iload_n hx hb dX7_placeInLine_18 rfl (lv_at hl 1 rfl) ?_
        refine lv_icmp_ne (tgt := 24) hx hb dX7_placeInLine_19 (by decide) (fun h5 => ?_) (fun h5 => ?_)
        · rw [if_neg h5] at hf
          obtain ⟨x6, ex6⟩ : ∃ y : Int32, y = x3 + 1 := ⟨_, rfl⟩
          replace hf := ltn_s ex6 hf
          refine lv_iinc (v := x6) (lv' := [(2, .int x6), (0, .ref (xa X (51*k+0))), (1, .int x2)]) hx hb dX7_placeInLine_24 hl (k := 2) rfl (by rw [ex6]; rfl) (by decide) rfl (fun ls hl => ?_)
          refine lv_goto (tgt := 2) hx hb dX7_placeInLine_27 (by decide) ?_
          exact ih x2 x6  _ _ _ hf hP hS (lv_sub hl [1, 2, 0] rfl)
        · rw [if_pos h5] at hf
          refine lv_iload_n hx hb dX7_placeInLine_22 rfl (lv_at hl 2 rfl) ?_
          have hf := Option.some.inj hf
          obtain rfl := hf
          rw [hQ]
          exact w_iret hx hb hr hlocks hP hK hS dX7_placeInLine_23 rfl rfl
  exact L2 N a1 0  _ _ _ hf hP hS (lv_sub hl [1, 2, 0] rfl)
abbrev rmX7_setOfPlaces : Room := { frames := 1, cells := 0, slots := 0, locals := 21 }
theorem iX7_setOfPlaces_X5 : ∀ w ∈ wsX50, w ∈ wsX7_setOfPlaces := by decide +kernel
theorem iX7_setOfPlaces_X7 : ∀ w ∈ wsX70, w ∈ wsX7_setOfPlaces := by decide +kernel
set_option maxHeartbeats 4000000 in
set_option maxRecDepth 100000 in
theorem k7_setOfPlaces (l : Launch) {X : bkX} {b0 : Nat} (hX : XO X b0) {k : Nat} (hk : k < 6) (w : bkW) {N : Nat} {f0 : bkA} {a1 : Int32} {res9 : Int32} (hf : m7_setOfPlaces N f0 a1 = some res9) : cI l yX7_setOfPlaces wsX7_setOfPlaces rmX7_setOfPlaces X b0 [.ref (xa X (51*k+0)), .int a1] (pk w k f0) res9 (pk w k f0) := by
  refine Met.ofW (cc := cX7_setOfPlaces) (maxL := 4) (ret := (some .int)) (by decide) rfl ?_
  intro p e s m args below meth c s₁ B hml hv
  obtain ⟨ha, hP, hK⟩ := hv
  have hx := B.exec
  have hb := B.bytes
  have hr := B.returns
  have hts := atoms_spec (ws := wsX7_setOfPlaces) B.pre
  have hown : s.vm.findClass RX7 = some m.cls := findClass_of_methodNamed B.named
  have hlocks := B.notSynchronized
  obtain ⟨R, hR⟩ : ∃ R, R = (headSpec wsX7_setOfPlaces rmX7_setOfPlaces).room := ⟨_, rfl⟩
  rw [← hR]
  have hR1 : R.frames = 1 := by rw [hR]; rfl
  have hR2 : R.locals = 21 := by rw [hR]; rfl
  obtain ⟨Q, hQ⟩ : ∃ Q : State → Prop, Q = MQ below (va_Qi (fun r' (_ : Unit) => r' = res9) (fun _ t => WU X (pk w k f0) t) (xF b0)) args s 0 0 (xF b0) := ⟨_, rfl⟩
  rw [← hQ]
  have hS : va_S (xF b0) s.heap s.heap [] := va_S.rf
  have hl := lv_entry ([.ref (xa X (51*k+0)), .int a1]) (n := 4) (Nat.le_of_ble_eq_true rfl)
  refine W.eq ((congrArg (fun z => entryFrame m z 4) ha).trans (lg_entry_eq m _ 4)) ?_
  generalize (lg_sl ([.ref (xa X (51*k+0)), .int a1]) ++ List.replicate (4 - (lg_sl ([.ref (xa X (51*k+0)), .int a1])).length) Slot.unset).toArray = ls at hl ⊢
  have hl : lv_has ls 4 [(0, .ref (xa X (51*k+0))), (1, .int a1)] := hl
  have hk_f35 := hts (.fieldLink RX7 35 "BakeTurns$State" "places" "LBakeTurns$Places;") (by decide +kernel)
  have hk_f167 := hts (.fieldLink RX7 167 "BakeTurns$Places" "doughOn" "LBakeTurns$Row;") (by decide +kernel)
  have hc_104 := (cwV 1 hts gX7_setOfPlaces_X6_at rfl rfl rfl (by decide +kernel) ⟨by rw [hR1]; exact Nat.le_of_ble_eq_true rfl, by rw [hR2]; exact Nat.le_of_ble_eq_true rfl⟩ : CallW R s args RX7 RX6 104 yX6_at cX6_at 2 (some .int) wsX6_at rmX6_at 0 0 1)
  unfold m7_setOfPlaces at hf
  refine lv_iconst (v := 0) hx hb dX7_setOfPlaces_0 (by decide) ?_
  refine lv_istore_n (lv' := [(2, .int 0), (0, .ref (xa X (51*k+0))), (1, .int a1)]) hx hb dX7_setOfPlaces_1 rfl hl (by decide) rfl (fun ls hl => ?_)
  refine lv_iconst (v := 0) hx hb dX7_setOfPlaces_2 (by decide) ?_
  refine lv_istore_n (lv' := [(3, .int 0), (2, .int 0), (0, .ref (xa X (51*k+0))), (1, .int a1)]) hx hb dX7_setOfPlaces_3 rfl hl (by decide) rfl (fun ls hl => ?_)
  have L4 : ∀ (n : Nat) (x2 : Int32) (x3 : Int32) (x4 : Int32)  (o5 : Int32) (H : Heap) (locs : List Loc) (ls : Array Slot), m7_setOfPlaces_L4 N n x2 x3 x4 f0 = some o5 → HW X (pk w k f0) H → va_S (xF b0) s.heap H locs → lv_has ls 4 [(0, .ref (xa X (51*k+0))), (1, .int x2), (2, .int x3), (3, .int x4)] → (∀ (H1 : Heap) (locs1 : List Loc) (ls1 : Array Slot), HW X (pk w k f0) H1 → va_S (xF b0) s.heap H1 locs1 → lv_has ls1 4 [(2, .int o5)] → W p l e R s m args below meth c H1 locs1 0 0 Q (F0 m 37 ls1 [])) → W p l e R s m args below meth c H locs 0 0 Q (F0 m 4 ls []) := by
    intro n; induction n with
    | zero => intro x2 x3 x4 o5 H locs ls hf; rw [m7_setOfPlaces_L4] at hf; cases hf
    | succ n ih =>
      intro x2 x3 x4 o5 H locs ls hf hP hS hl K
      rw [m7_setOfPlaces_L4] at hf
      refine lv_iload_n hx hb dX7_setOfPlaces_4 rfl (lv_at hl 3 rfl) ?_
      refine lv_bipush (v := 12) hx hb dX7_setOfPlaces_5 (by decide) ?_
      refine lv_icmp_ge (tgt := 37) hx hb dX7_setOfPlaces_7 (by decide) (fun h6 => ?_) (fun h6 => ?_)
      · rw [if_pos h6] at hf
        have hf := Option.some.inj hf
        obtain rfl := hf
        exact K _ _ _ hP hS (lv_sub hl [2] rfl)
      · rw [if_neg h6] at hf
        refine lv_aload_n hx hb dX7_setOfPlaces_10 rfl (lv_at hl 0 rfl) ?_
        refine st_get (i0 := 0) hx hb hts iX7_setOfPlaces_X7 hown hP hK hk (by decide) rfl rfl 3 (by decide) hk_f35 rfl dX7_setOfPlaces_11 ?_
        refine st_get (i0 := 4) hx hb hts iX7_setOfPlaces_X5 hown hP hK hk (by decide) rfl rfl 0 (by decide) hk_f167 rfl dX7_setOfPlaces_14 ?_
        refine lv_iload_n hx hb dX7_setOfPlaces_17 rfl (lv_at hl 3 rfl) ?_
        refine st_at (j := 19) (n := 12) ⟨hx, hb, hml, hown, hts⟩ hP hK hS hk (by decide) rfl hc_104 hl.1 (Nat.le_of_ble_eq_true rfl) dX7_setOfPlaces_18 (fun H locs hP hS => ?_)
        refine lv_iload_n hx hb dX7_setOfPlaces_21 rfl (lv_at hl 1 rfl) ?_
        obtain ⟨x9, ejK10, hf⟩ := lt1_e hf
        have K10 : ∀ (H : Heap) (locs : List Loc) (ls : Array Slot), HW X (pk w k f0) H → va_S (xF b0) s.heap H locs → lv_has ls 4 [(0, .ref (xa X (51*k+0))), (1, .int x2), (2, .int x9), (3, .int x4)] → W p l e R s m args below meth c H locs 0 0 Q (F0 m 31 ls []) := by
          intro H locs ls hP hS hl
          obtain ⟨x12, ex12⟩ : ∃ y : Int32, y = x4 + 1 := ⟨_, rfl⟩
          replace hf := ltn_s ex12 hf
          refine lv_iinc (v := x12) (lv' := [(3, .int x12), (0, .ref (xa X (51*k+0))), (1, .int x2), (2, .int x9)]) hx hb dX7_setOfPlaces_31 hl (k := 3) rfl (by rw [ex12]; rfl) (by decide) rfl (fun ls hl => ?_)
          refine lv_goto (tgt := 4) hx hb dX7_setOfPlaces_34 (by decide) ?_
          exact ih x2 x9 x12 o5 _ _ _ hf hP hS (lv_sub hl [1, 2, 3, 0] rfl) K
        clear hf
        refine lv_icmp_ne (tgt := 31) hx hb dX7_setOfPlaces_22 (by decide) (fun h7 => ?_) (fun h7 => ?_)
        · rw [if_neg h7] at ejK10
          obtain rfl := ejK10
          exact K10 _ _ _ hP hS (lv_sub hl [0, 1, 2, 3] rfl)
        · rw [if_pos h7] at ejK10
          refine lv_iload_n hx hb dX7_setOfPlaces_25 rfl (lv_at hl 2 rfl) ?_
          refine lv_iconst (v := 1) hx hb dX7_setOfPlaces_26 (by decide) ?_
          refine lv_iload_n hx hb dX7_setOfPlaces_27 rfl (lv_at hl 3 rfl) ?_
          refine lv_ishl hx hb dX7_setOfPlaces_28 ?_
          refine lv_ior hx hb dX7_setOfPlaces_29 ?_
          refine lv_topi (fun x11 ex11 => ?_)
          replace ejK10 := ltn_s ex11 ejK10
          refine lv_istore_n (lv' := [(2, .int x11), (0, .ref (xa X (51*k+0))), (1, .int x2), (3, .int x4)]) hx hb dX7_setOfPlaces_30 rfl hl (by decide) rfl (fun ls hl => ?_)
          obtain rfl := ejK10
          exact K10 _ _ _ hP hS (lv_sub hl [1, 2, 0, 3] rfl)
  obtain ⟨x13, hc14, hf⟩ := ob1_e hf
  refine L4 N a1 0 0  x13 _ _ _ hc14 hP hS (lv_sub hl [2, 3, 1, 0] rfl) (fun H locs ls hP hS hl => ?_)
  refine lv_iload_n hx hb dX7_setOfPlaces_37 rfl (lv_at hl 0 rfl) ?_
  have hf := Option.some.inj hf
  obtain rfl := hf
  rw [hQ]
  exact w_iret hx hb hr hlocks hP hK hS dX7_setOfPlaces_38 rfl rfl
abbrev rmX7_valueOfPlace : Room := { frames := 2, cells := 0, slots := 0, locals := 42 }
theorem iX7_valueOfPlace_X5 : ∀ w ∈ wsX50, w ∈ wsX7_valueOfPlace := by decide +kernel
theorem iX7_valueOfPlace_X7 : ∀ w ∈ wsX70, w ∈ wsX7_valueOfPlace := by decide +kernel
set_option maxHeartbeats 4000000 in
set_option maxRecDepth 100000 in
theorem k7_valueOfPlace (l : Launch) {X : bkX} {b0 : Nat} (hX : XO X b0) {k : Nat} (hk : k < 6) (w : bkW) {f0 : bkA} {a1 : Int32} {a2 : Int32} {res9 : Int32} (hf : m7_valueOfPlace f0 a1 a2 = res9) : cI l yX7_valueOfPlace wsX7_valueOfPlace rmX7_valueOfPlace X b0 [.ref (xa X (51*k+0)), .int a1, .int a2] (pk w k f0) res9 (pk w k f0) := by
  refine Met.ofW (cc := cX7_valueOfPlace) (maxL := 3) (ret := (some .int)) (by decide) rfl ?_
  intro p e s m args below meth c s₁ B hml hv
  obtain ⟨ha, hP, hK⟩ := hv
  have hx := B.exec
  have hb := B.bytes
  have hr := B.returns
  have hts := atoms_spec (ws := wsX7_valueOfPlace) B.pre
  have hown : s.vm.findClass RX7 = some m.cls := findClass_of_methodNamed B.named
  have hlocks := B.notSynchronized
  obtain ⟨R, hR⟩ : ∃ R, R = (headSpec wsX7_valueOfPlace rmX7_valueOfPlace).room := ⟨_, rfl⟩
  rw [← hR]
  have hR1 : R.frames = 2 := by rw [hR]; rfl
  have hR2 : R.locals = 42 := by rw [hR]; rfl
  obtain ⟨Q, hQ⟩ : ∃ Q : State → Prop, Q = MQ below (va_Qi (fun r' (_ : Unit) => r' = res9) (fun _ t => WU X (pk w k f0) t) (xF b0)) args s 0 0 (xF b0) := ⟨_, rfl⟩
  rw [← hQ]
  have hS : va_S (xF b0) s.heap s.heap [] := va_S.rf
  have hl := lv_entry ([.ref (xa X (51*k+0)), .int a1, .int a2]) (n := 3) (Nat.le_of_ble_eq_true rfl)
  refine W.eq ((congrArg (fun z => entryFrame m z 3) ha).trans (lg_entry_eq m _ 3)) ?_
  generalize (lg_sl ([.ref (xa X (51*k+0)), .int a1, .int a2]) ++ List.replicate (3 - (lg_sl ([.ref (xa X (51*k+0)), .int a1, .int a2])).length) Slot.unset).toArray = ls at hl ⊢
  have hl : lv_has ls 3 [(0, .ref (xa X (51*k+0))), (1, .int a1), (2, .int a2)] := hl
  have hk_f35 := hts (.fieldLink RX7 35 "BakeTurns$State" "places" "LBakeTurns$Places;") (by decide +kernel)
  have hc_220 := (cwV 1 hts gX7_valueOfPlace_X5_isFree rfl rfl rfl (by decide +kernel) ⟨by rw [hR1]; exact Nat.le_of_ble_eq_true rfl, by rw [hR2]; exact Nat.le_of_ble_eq_true rfl⟩ : CallW R s args RX7 RX5 220 yX5_isFree cX5_isFree 2 (some .boolean) wsX5_isFree rmX5_isFree 0 0 1)
  have hk_f167 := hts (.fieldLink RX7 167 "BakeTurns$Places" "doughOn" "LBakeTurns$Row;") (by decide +kernel)
  have hc_104 := (cwV 1 hts gX7_valueOfPlace_X6_at rfl rfl rfl (by decide +kernel) ⟨by rw [hR1]; exact Nat.le_of_ble_eq_true rfl, by rw [hR2]; exact Nat.le_of_ble_eq_true rfl⟩ : CallW R s args RX7 RX6 104 yX6_at cX6_at 2 (some .int) wsX6_at rmX6_at 0 0 1)
  have hk_f226 := hts (.fieldLink RX7 226 "BakeTurns$Places" "baked" "LBakeTurns$Row;") (by decide +kernel)
  have hk_f229 := hts (.fieldLink RX7 229 "BakeTurns$Places" "scorched" "LBakeTurns$Row;") (by decide +kernel)
  have hk_f68 := hts (.fieldLink RX7 68 "BakeTurns$State" "heat" "I") (by decide +kernel)
  have hc_217 := (cwS 2 hts gX7_valueOfPlace_X7_warmthOf rfl rfl rfl (by decide +kernel) ⟨by rw [hR1]; exact Nat.le_of_ble_eq_true rfl, by rw [hR2]; exact Nat.le_of_ble_eq_true rfl⟩ : CallB R s args RX7 217 yX7_warmthOf cX7_warmthOf 2 (some .int) wsX7_warmthOf rmX7_warmthOf 0 0 2 ∧ (Cond.static yX7_warmthOf).before args s = true)
  unfold m7_valueOfPlace at hf
  refine lv_iload_n hx hb dX7_valueOfPlace_0 rfl (lv_at hl 2 rfl) ?_
  refine lv_if_ne (tgt := 13) hx hb dX7_valueOfPlace_1 (by decide) (fun h1 => ?_) (fun h1 => ?_)
  · rw [if_neg h1] at hf
    refine lv_aload_n hx hb dX7_valueOfPlace_13 rfl (lv_at hl 0 rfl) ?_
    refine st_get (i0 := 0) hx hb hts iX7_valueOfPlace_X7 hown hP hK hk (by decide) rfl rfl 3 (by decide) hk_f35 rfl dX7_valueOfPlace_14 ?_
    refine lv_iload_n hx hb dX7_valueOfPlace_17 rfl (lv_at hl 1 rfl) ?_
    obtain ⟨x2, hc3, hf⟩ := lt1_e hf
    refine w_ci ⟨hx, hb, hml, hown, hts⟩ hP hK hS (k5_isFree l hX hk w hc3) hc_220 (st_recv (i0 := 4) hP hK hk (by decide) rfl rfl) rfl hl.1 rfl (Nat.le_of_ble_eq_true rfl) dX7_valueOfPlace_18 ⟨Nat.zero_le _, Nat.zero_le _⟩ (fun H locs hP hS => ?_)
    refine lv_if_eq (tgt := 26) hx hb dX7_valueOfPlace_21 (by decide) (fun h4 => ?_) (fun h4 => ?_)
    · rw [if_pos h4] at hf
      refine lv_iload_n hx hb dX7_valueOfPlace_26 rfl (lv_at hl 2 rfl) ?_
      by_cases hsw7 : a2 = 1
      · rw [if_pos hsw7] at hf
        refine lv_lookup (off := 25) (tgt := 52) hx hb dX7_valueOfPlace_27 (by decide) (by rw [hsw7]; rfl) (by decide) ?_
        refine lv_aload_n hx hb dX7_valueOfPlace_52 rfl (lv_at hl 0 rfl) ?_
        refine st_get (i0 := 0) hx hb hts iX7_valueOfPlace_X7 hown hP hK hk (by decide) rfl rfl 3 (by decide) hk_f35 rfl dX7_valueOfPlace_53 ?_
        refine st_get (i0 := 4) hx hb hts iX7_valueOfPlace_X5 hown hP hK hk (by decide) rfl rfl 0 (by decide) hk_f167 rfl dX7_valueOfPlace_56 ?_
        refine lv_iload_n hx hb dX7_valueOfPlace_59 rfl (lv_at hl 1 rfl) ?_
        refine st_at (j := 19) (n := 12) ⟨hx, hb, hml, hown, hts⟩ hP hK hS hk (by decide) rfl hc_104 hl.1 (Nat.le_of_ble_eq_true rfl) dX7_valueOfPlace_60 (fun H locs hP hS => ?_)
        obtain rfl := hf
        rw [hQ]
        exact w_iret hx hb hr hlocks hP hK hS dX7_valueOfPlace_63 rfl rfl
      rw [if_neg hsw7] at hf
      by_cases hsw8 : a2 = 2
      · rw [if_pos hsw8] at hf
        refine lv_lookup (off := 37) (tgt := 64) hx hb dX7_valueOfPlace_27 (by decide) (by rw [hsw8]; rfl) (by decide) ?_
        refine lv_aload_n hx hb dX7_valueOfPlace_64 rfl (lv_at hl 0 rfl) ?_
        refine st_get (i0 := 0) hx hb hts iX7_valueOfPlace_X7 hown hP hK hk (by decide) rfl rfl 3 (by decide) hk_f35 rfl dX7_valueOfPlace_65 ?_
        refine st_get (i0 := 4) hx hb hts iX7_valueOfPlace_X5 hown hP hK hk (by decide) rfl rfl 1 (by decide) hk_f226 rfl dX7_valueOfPlace_68 ?_
        refine lv_iload_n hx hb dX7_valueOfPlace_71 rfl (lv_at hl 1 rfl) ?_
        refine st_at (j := 20) (n := 12) ⟨hx, hb, hml, hown, hts⟩ hP hK hS hk (by decide) rfl hc_104 hl.1 (Nat.le_of_ble_eq_true rfl) dX7_valueOfPlace_72 (fun H locs hP hS => ?_)
        obtain rfl := hf
        rw [hQ]
        exact w_iret hx hb hr hlocks hP hK hS dX7_valueOfPlace_75 rfl rfl
      rw [if_neg hsw8] at hf
      have ghsw7 := ne_i (z := 1) hsw7 (by decide)
      have ghsw8 := ne_i (z := 2) hsw8 (by decide)
      refine lv_lookup (off := 49) (tgt := 76) hx hb dX7_valueOfPlace_27 (by decide) (lsw_2 ghsw7 ghsw8) (by decide) ?_
      refine lv_aload_n hx hb dX7_valueOfPlace_76 rfl (lv_at hl 0 rfl) ?_
      refine st_get (i0 := 0) hx hb hts iX7_valueOfPlace_X7 hown hP hK hk (by decide) rfl rfl 3 (by decide) hk_f35 rfl dX7_valueOfPlace_77 ?_
      refine st_get (i0 := 4) hx hb hts iX7_valueOfPlace_X5 hown hP hK hk (by decide) rfl rfl 2 (by decide) hk_f229 rfl dX7_valueOfPlace_80 ?_
      refine lv_iload_n hx hb dX7_valueOfPlace_83 rfl (lv_at hl 1 rfl) ?_
      refine st_at (j := 21) (n := 12) ⟨hx, hb, hml, hown, hts⟩ hP hK hS hk (by decide) rfl hc_104 hl.1 (Nat.le_of_ble_eq_true rfl) dX7_valueOfPlace_84 (fun H locs hP hS => ?_)
      obtain rfl := hf
      rw [hQ]
      exact w_iret hx hb hr hlocks hP hK hS dX7_valueOfPlace_87 rfl rfl
    · rw [if_neg h4] at hf
      refine lv_iconst (v := (-1)) hx hb dX7_valueOfPlace_24 (by decide) ?_
      obtain rfl := hf
      rw [hQ]
      exact w_iret hx hb hr hlocks hP hK hS dX7_valueOfPlace_25 rfl rfl
  · rw [if_pos h1] at hf
    refine lv_iload_n hx hb dX7_valueOfPlace_4 rfl (lv_at hl 1 rfl) ?_
    refine lv_aload_n hx hb dX7_valueOfPlace_5 rfl (lv_at hl 0 rfl) ?_
    refine st_get (i0 := 0) hx hb hts iX7_valueOfPlace_X7 hown hP hK hk (by decide) rfl rfl 6 (by decide) hk_f68 rfl dX7_valueOfPlace_6 ?_
    obtain ⟨x5, hc6, hf⟩ := lt1_e hf
    refine w_csi ⟨hx, hb, hml, hown, hts⟩ hP hK hS (k7_warmthOf l hX hk w hc6) hc_217 rfl hl.1 rfl (Nat.le_of_ble_eq_true rfl) dX7_valueOfPlace_9 ⟨Nat.zero_le _, Nat.zero_le _⟩ (fun H locs hP hS => ?_)
    obtain rfl := hf
    rw [hQ]
    exact w_iret hx hb hr hlocks hP hK hS dX7_valueOfPlace_12 rfl rfl
abbrev rmX7_valueOfWholeHouse : Room := { frames := 3, cells := 0, slots := 0, locals := 64 }
theorem iX7_valueOfWholeHouse_X1 : ∀ w ∈ wsX10, w ∈ wsX7_valueOfWholeHouse := by decide +kernel
theorem iX7_valueOfWholeHouse_X3 : ∀ w ∈ wsX30, w ∈ wsX7_valueOfWholeHouse := by decide +kernel
theorem iX7_valueOfWholeHouse_X4 : ∀ w ∈ wsX40, w ∈ wsX7_valueOfWholeHouse := by decide +kernel
theorem iX7_valueOfWholeHouse_X7 : ∀ w ∈ wsX70, w ∈ wsX7_valueOfWholeHouse := by decide +kernel
set_option maxHeartbeats 4000000 in
set_option maxRecDepth 100000 in
theorem k7_valueOfWholeHouse (l : Launch) {X : bkX} {b0 : Nat} (hX : XO X b0) {k : Nat} (hk : k < 6) (w : bkW) {N : Nat} {f0 : bkA} {a1 : Int32} {res9 : Int32} (hf : m7_valueOfWholeHouse N f0 a1 = some res9) : cI l yX7_valueOfWholeHouse wsX7_valueOfWholeHouse rmX7_valueOfWholeHouse X b0 [.ref (xa X (51*k+0)), .int a1] (pk w k f0) res9 (pk w k f0) := by
  refine Met.ofW (cc := cX7_valueOfWholeHouse) (maxL := 2) (ret := (some .int)) (by decide) rfl ?_
  intro p e s m args below meth c s₁ B hml hv
  obtain ⟨ha, hP, hK⟩ := hv
  have hx := B.exec
  have hb := B.bytes
  have hr := B.returns
  have hts := atoms_spec (ws := wsX7_valueOfWholeHouse) B.pre
  have hown : s.vm.findClass RX7 = some m.cls := findClass_of_methodNamed B.named
  have hlocks := B.notSynchronized
  obtain ⟨R, hR⟩ : ∃ R, R = (headSpec wsX7_valueOfWholeHouse rmX7_valueOfWholeHouse).room := ⟨_, rfl⟩
  rw [← hR]
  have hR1 : R.frames = 3 := by rw [hR]; rfl
  have hR2 : R.locals = 64 := by rw [hR]; rfl
  obtain ⟨Q, hQ⟩ : ∃ Q : State → Prop, Q = MQ below (va_Qi (fun r' (_ : Unit) => r' = res9) (fun _ t => WU X (pk w k f0) t) (xF b0)) args s 0 0 (xF b0) := ⟨_, rfl⟩
  rw [← hQ]
  have hS : va_S (xF b0) s.heap s.heap [] := va_S.rf
  have hl := lv_entry ([.ref (xa X (51*k+0)), .int a1]) (n := 2) (Nat.le_of_ble_eq_true rfl)
  refine W.eq ((congrArg (fun z => entryFrame m z 2) ha).trans (lg_entry_eq m _ 2)) ?_
  generalize (lg_sl ([.ref (xa X (51*k+0)), .int a1]) ++ List.replicate (2 - (lg_sl ([.ref (xa X (51*k+0)), .int a1])).length) Slot.unset).toArray = ls at hl ⊢
  have hl : lv_has ls 2 [(0, .ref (xa X (51*k+0))), (1, .int a1)] := hl
  have hk_f12 := hts (.fieldLink RX7 12 "BakeTurns$State" "kinds" "LBakeTurns$Kinds;") (by decide +kernel)
  have hk_f92 := hts (.fieldLink RX7 92 "BakeTurns$Kinds" "count" "I") (by decide +kernel)
  have hk_f21 := hts (.fieldLink RX7 21 "BakeTurns$State" "houses" "LBakeTurns$Houses;") (by decide +kernel)
  have hk_f95 := hts (.fieldLink RX7 95 "BakeTurns$Houses" "count" "I") (by decide +kernel)
  have hk_f28 := hts (.fieldLink RX7 28 "BakeTurns$State" "doughs" "LBakeTurns$Doughs;") (by decide +kernel)
  have hk_f96 := hts (.fieldLink RX7 96 "BakeTurns$Doughs" "count" "I") (by decide +kernel)
  have hk_f68 := hts (.fieldLink RX7 68 "BakeTurns$State" "heat" "I") (by decide +kernel)
  have hk_f71 := hts (.fieldLink RX7 71 "BakeTurns$State" "ticks" "I") (by decide +kernel)
  have hk_f64 := hts (.fieldLink RX7 64 "BakeTurns$State" "waiting" "I") (by decide +kernel)
  have hk_f35 := hts (.fieldLink RX7 35 "BakeTurns$State" "places" "LBakeTurns$Places;") (by decide +kernel)
  have hc_254 := (cwV 0 hts gX7_valueOfWholeHouse_X5_countFree rfl rfl rfl (by decide +kernel) ⟨by rw [hR1]; exact Nat.le_of_ble_eq_true rfl, by rw [hR2]; exact Nat.le_of_ble_eq_true rfl⟩ : CallW R s args RX7 RX5 254 yX5_countFree cX5_countFree 3 (some .int) wsX5_countFree rmX5_countFree 0 0 0)
  have hk_f74 := hts (.fieldLink RX7 74 "BakeTurns$State" "unsettled" "I") (by decide +kernel)
  have hc_182 := (cwV 0 hts gX7_valueOfWholeHouse_X7_useOfAll rfl rfl rfl (by decide +kernel) ⟨by rw [hR1]; exact Nat.le_of_ble_eq_true rfl, by rw [hR2]; exact Nat.le_of_ble_eq_true rfl⟩ : CallW R s args RX7 RX7 182 yX7_useOfAll cX7_useOfAll 3 (some .int) wsX7_useOfAll rmX7_useOfAll 0 0 0)
  have hk_f77 := hts (.fieldLink RX7 77 "BakeTurns$State" "logsBurnt" "I") (by decide +kernel)
  have hk_f80 := hts (.fieldLink RX7 80 "BakeTurns$State" "logsBrought" "I") (by decide +kernel)
  have hk_f83 := hts (.fieldLink RX7 83 "BakeTurns$State" "openings" "I") (by decide +kernel)
  have hk_f86 := hts (.fieldLink RX7 86 "BakeTurns$State" "loavesDone" "I") (by decide +kernel)
  have hk_f89 := hts (.fieldLink RX7 89 "BakeTurns$State" "spoiledEver" "I") (by decide +kernel)
  unfold m7_valueOfWholeHouse at hf
  refine lv_iload_n hx hb dX7_valueOfWholeHouse_0 rfl (lv_at hl 1 rfl) ?_
  by_cases hsw5 : a1 = 0
  · rw [if_pos hsw5] at hf
    refine lv_tableIn (off := 67) (tgt := 68) hx hb dX7_valueOfWholeHouse_1 (by rw [hsw5]; decide) (by rw [hsw5]; decide) (by rw [hsw5]; rfl) (by decide) ?_
    refine lv_aload_n hx hb dX7_valueOfWholeHouse_68 rfl (lv_at hl 0 rfl) ?_
    refine st_get (i0 := 0) hx hb hts iX7_valueOfWholeHouse_X7 hown hP hK hk (by decide) rfl rfl 0 (by decide) hk_f12 rfl dX7_valueOfWholeHouse_69 ?_
    refine st_get (i0 := 1) hx hb hts iX7_valueOfWholeHouse_X4 hown hP hK hk (by decide) rfl rfl 0 (by decide) hk_f92 rfl dX7_valueOfWholeHouse_72 ?_
    have hf := Option.some.inj hf
    obtain rfl := hf
    rw [hQ]
    exact w_iret hx hb hr hlocks hP hK hS dX7_valueOfWholeHouse_75 rfl rfl
  rw [if_neg hsw5] at hf
  by_cases hsw6 : a1 = 1
  · rw [if_pos hsw6] at hf
    refine lv_tableIn (off := 75) (tgt := 76) hx hb dX7_valueOfWholeHouse_1 (by rw [hsw6]; decide) (by rw [hsw6]; decide) (by rw [hsw6]; rfl) (by decide) ?_
    refine lv_aload_n hx hb dX7_valueOfWholeHouse_76 rfl (lv_at hl 0 rfl) ?_
    refine st_get (i0 := 0) hx hb hts iX7_valueOfWholeHouse_X7 hown hP hK hk (by decide) rfl rfl 1 (by decide) hk_f21 rfl dX7_valueOfWholeHouse_77 ?_
    refine st_get (i0 := 2) hx hb hts iX7_valueOfWholeHouse_X3 hown hP hK hk (by decide) rfl rfl 0 (by decide) hk_f95 rfl dX7_valueOfWholeHouse_80 ?_
    have hf := Option.some.inj hf
    obtain rfl := hf
    rw [hQ]
    exact w_iret hx hb hr hlocks hP hK hS dX7_valueOfWholeHouse_83 rfl rfl
  rw [if_neg hsw6] at hf
  by_cases hsw7 : a1 = 2
  · rw [if_pos hsw7] at hf
    refine lv_tableIn (off := 83) (tgt := 84) hx hb dX7_valueOfWholeHouse_1 (by rw [hsw7]; decide) (by rw [hsw7]; decide) (by rw [hsw7]; rfl) (by decide) ?_
    refine lv_aload_n hx hb dX7_valueOfWholeHouse_84 rfl (lv_at hl 0 rfl) ?_
    refine st_get (i0 := 0) hx hb hts iX7_valueOfWholeHouse_X7 hown hP hK hk (by decide) rfl rfl 2 (by decide) hk_f28 rfl dX7_valueOfWholeHouse_85 ?_
    refine st_get (i0 := 3) hx hb hts iX7_valueOfWholeHouse_X1 hown hP hK hk (by decide) rfl rfl 0 (by decide) hk_f96 rfl dX7_valueOfWholeHouse_88 ?_
    have hf := Option.some.inj hf
    obtain rfl := hf
    rw [hQ]
    exact w_iret hx hb hr hlocks hP hK hS dX7_valueOfWholeHouse_91 rfl rfl
  rw [if_neg hsw7] at hf
  by_cases hsw8 : a1 = 3
  · rw [if_pos hsw8] at hf
    refine lv_tableIn (off := 91) (tgt := 92) hx hb dX7_valueOfWholeHouse_1 (by rw [hsw8]; decide) (by rw [hsw8]; decide) (by rw [hsw8]; rfl) (by decide) ?_
    refine lv_aload_n hx hb dX7_valueOfWholeHouse_92 rfl (lv_at hl 0 rfl) ?_
    refine st_get (i0 := 0) hx hb hts iX7_valueOfWholeHouse_X7 hown hP hK hk (by decide) rfl rfl 6 (by decide) hk_f68 rfl dX7_valueOfWholeHouse_93 ?_
    have hf := Option.some.inj hf
    obtain rfl := hf
    rw [hQ]
    exact w_iret hx hb hr hlocks hP hK hS dX7_valueOfWholeHouse_96 rfl rfl
  rw [if_neg hsw8] at hf
  by_cases hsw9 : a1 = 4
  · rw [if_pos hsw9] at hf
    refine lv_tableIn (off := 96) (tgt := 97) hx hb dX7_valueOfWholeHouse_1 (by rw [hsw9]; decide) (by rw [hsw9]; decide) (by rw [hsw9]; rfl) (by decide) ?_
    refine lv_aload_n hx hb dX7_valueOfWholeHouse_97 rfl (lv_at hl 0 rfl) ?_
    refine st_get (i0 := 0) hx hb hts iX7_valueOfWholeHouse_X7 hown hP hK hk (by decide) rfl rfl 7 (by decide) hk_f71 rfl dX7_valueOfWholeHouse_98 ?_
    have hf := Option.some.inj hf
    obtain rfl := hf
    rw [hQ]
    exact w_iret hx hb hr hlocks hP hK hS dX7_valueOfWholeHouse_101 rfl rfl
  rw [if_neg hsw9] at hf
  by_cases hsw10 : a1 = 5
  · rw [if_pos hsw10] at hf
    refine lv_tableIn (off := 101) (tgt := 102) hx hb dX7_valueOfWholeHouse_1 (by rw [hsw10]; decide) (by rw [hsw10]; decide) (by rw [hsw10]; rfl) (by decide) ?_
    refine lv_aload_n hx hb dX7_valueOfWholeHouse_102 rfl (lv_at hl 0 rfl) ?_
    refine st_get (i0 := 0) hx hb hts iX7_valueOfWholeHouse_X7 hown hP hK hk (by decide) rfl rfl 5 (by decide) hk_f64 rfl dX7_valueOfWholeHouse_103 ?_
    have hf := Option.some.inj hf
    obtain rfl := hf
    rw [hQ]
    exact w_iret hx hb hr hlocks hP hK hS dX7_valueOfWholeHouse_106 rfl rfl
  rw [if_neg hsw10] at hf
  by_cases hsw11 : a1 = 6
  · rw [if_pos hsw11] at hf
    refine lv_tableIn (off := 106) (tgt := 107) hx hb dX7_valueOfWholeHouse_1 (by rw [hsw11]; decide) (by rw [hsw11]; decide) (by rw [hsw11]; rfl) (by decide) ?_
    refine lv_aload_n hx hb dX7_valueOfWholeHouse_107 rfl (lv_at hl 0 rfl) ?_
    refine st_get (i0 := 0) hx hb hts iX7_valueOfWholeHouse_X7 hown hP hK hk (by decide) rfl rfl 3 (by decide) hk_f35 rfl dX7_valueOfWholeHouse_108 ?_
    obtain ⟨x1, hc2, hf⟩ := ob1_e hf
    refine w_ci ⟨hx, hb, hml, hown, hts⟩ hP hK hS (k5_countFree l hX hk w hc2) hc_254 (st_recv (i0 := 4) hP hK hk (by decide) rfl rfl) rfl hl.1 rfl (Nat.le_of_ble_eq_true rfl) dX7_valueOfWholeHouse_111 ⟨Nat.zero_le _, Nat.zero_le _⟩ (fun H locs hP hS => ?_)
    have hf := Option.some.inj hf
    obtain rfl := hf
    rw [hQ]
    exact w_iret hx hb hr hlocks hP hK hS dX7_valueOfWholeHouse_114 rfl rfl
  rw [if_neg hsw11] at hf
  by_cases hsw12 : a1 = 7
  · rw [if_pos hsw12] at hf
    refine lv_tableIn (off := 114) (tgt := 115) hx hb dX7_valueOfWholeHouse_1 (by rw [hsw12]; decide) (by rw [hsw12]; decide) (by rw [hsw12]; rfl) (by decide) ?_
    refine lv_aload_n hx hb dX7_valueOfWholeHouse_115 rfl (lv_at hl 0 rfl) ?_
    refine st_get (i0 := 0) hx hb hts iX7_valueOfWholeHouse_X7 hown hP hK hk (by decide) rfl rfl 8 (by decide) hk_f74 rfl dX7_valueOfWholeHouse_116 ?_
    have hf := Option.some.inj hf
    obtain rfl := hf
    rw [hQ]
    exact w_iret hx hb hr hlocks hP hK hS dX7_valueOfWholeHouse_119 rfl rfl
  rw [if_neg hsw12] at hf
  by_cases hsw13 : a1 = 8
  · rw [if_pos hsw13] at hf
    refine lv_tableIn (off := 119) (tgt := 120) hx hb dX7_valueOfWholeHouse_1 (by rw [hsw13]; decide) (by rw [hsw13]; decide) (by rw [hsw13]; rfl) (by decide) ?_
    refine lv_aload_n hx hb dX7_valueOfWholeHouse_120 rfl (lv_at hl 0 rfl) ?_
    obtain ⟨x3, hc4, hf⟩ := ob1_e hf
    refine w_ci ⟨hx, hb, hml, hown, hts⟩ hP hK hS (k7_useOfAll l hX hk w hc4) hc_182 (st_recv (i0 := 0) hP hK hk (by decide) rfl rfl) rfl hl.1 rfl (Nat.le_of_ble_eq_true rfl) dX7_valueOfWholeHouse_121 ⟨Nat.zero_le _, Nat.zero_le _⟩ (fun H locs hP hS => ?_)
    have hf := Option.some.inj hf
    obtain rfl := hf
    rw [hQ]
    exact w_iret hx hb hr hlocks hP hK hS dX7_valueOfWholeHouse_124 rfl rfl
  rw [if_neg hsw13] at hf
  by_cases hsw14 : a1 = 9
  · rw [if_pos hsw14] at hf
    refine lv_tableIn (off := 124) (tgt := 125) hx hb dX7_valueOfWholeHouse_1 (by rw [hsw14]; decide) (by rw [hsw14]; decide) (by rw [hsw14]; rfl) (by decide) ?_
    refine lv_aload_n hx hb dX7_valueOfWholeHouse_125 rfl (lv_at hl 0 rfl) ?_
    refine st_get (i0 := 0) hx hb hts iX7_valueOfWholeHouse_X7 hown hP hK hk (by decide) rfl rfl 9 (by decide) hk_f77 rfl dX7_valueOfWholeHouse_126 ?_
    have hf := Option.some.inj hf
    obtain rfl := hf
    rw [hQ]
    exact w_iret hx hb hr hlocks hP hK hS dX7_valueOfWholeHouse_129 rfl rfl
  rw [if_neg hsw14] at hf
  by_cases hsw15 : a1 = 10
  · rw [if_pos hsw15] at hf
    refine lv_tableIn (off := 129) (tgt := 130) hx hb dX7_valueOfWholeHouse_1 (by rw [hsw15]; decide) (by rw [hsw15]; decide) (by rw [hsw15]; rfl) (by decide) ?_
    refine lv_aload_n hx hb dX7_valueOfWholeHouse_130 rfl (lv_at hl 0 rfl) ?_
    refine st_get (i0 := 0) hx hb hts iX7_valueOfWholeHouse_X7 hown hP hK hk (by decide) rfl rfl 10 (by decide) hk_f80 rfl dX7_valueOfWholeHouse_131 ?_
    have hf := Option.some.inj hf
    obtain rfl := hf
    rw [hQ]
    exact w_iret hx hb hr hlocks hP hK hS dX7_valueOfWholeHouse_134 rfl rfl
  rw [if_neg hsw15] at hf
  by_cases hsw16 : a1 = 11
  · rw [if_pos hsw16] at hf
    refine lv_tableIn (off := 134) (tgt := 135) hx hb dX7_valueOfWholeHouse_1 (by rw [hsw16]; decide) (by rw [hsw16]; decide) (by rw [hsw16]; rfl) (by decide) ?_
    refine lv_aload_n hx hb dX7_valueOfWholeHouse_135 rfl (lv_at hl 0 rfl) ?_
    refine st_get (i0 := 0) hx hb hts iX7_valueOfWholeHouse_X7 hown hP hK hk (by decide) rfl rfl 11 (by decide) hk_f83 rfl dX7_valueOfWholeHouse_136 ?_
    have hf := Option.some.inj hf
    obtain rfl := hf
    rw [hQ]
    exact w_iret hx hb hr hlocks hP hK hS dX7_valueOfWholeHouse_139 rfl rfl
  rw [if_neg hsw16] at hf
  by_cases hsw17 : a1 = 12
  · rw [if_pos hsw17] at hf
    refine lv_tableIn (off := 139) (tgt := 140) hx hb dX7_valueOfWholeHouse_1 (by rw [hsw17]; decide) (by rw [hsw17]; decide) (by rw [hsw17]; rfl) (by decide) ?_
    refine lv_aload_n hx hb dX7_valueOfWholeHouse_140 rfl (lv_at hl 0 rfl) ?_
    refine st_get (i0 := 0) hx hb hts iX7_valueOfWholeHouse_X7 hown hP hK hk (by decide) rfl rfl 12 (by decide) hk_f86 rfl dX7_valueOfWholeHouse_141 ?_
    have hf := Option.some.inj hf
    obtain rfl := hf
    rw [hQ]
    exact w_iret hx hb hr hlocks hP hK hS dX7_valueOfWholeHouse_144 rfl rfl
  rw [if_neg hsw17] at hf
  have hdf : (a1).toInt < 0 ∨ 12 < (a1).toInt := by
    have ghsw5 := ne_i (z := 0) hsw5 (by decide)
    have ghsw6 := ne_i (z := 1) hsw6 (by decide)
    have ghsw7 := ne_i (z := 2) hsw7 (by decide)
    have ghsw8 := ne_i (z := 3) hsw8 (by decide)
    have ghsw9 := ne_i (z := 4) hsw9 (by decide)
    have ghsw10 := ne_i (z := 5) hsw10 (by decide)
    have ghsw11 := ne_i (z := 6) hsw11 (by decide)
    have ghsw12 := ne_i (z := 7) hsw12 (by decide)
    have ghsw13 := ne_i (z := 8) hsw13 (by decide)
    have ghsw14 := ne_i (z := 9) hsw14 (by decide)
    have ghsw15 := ne_i (z := 10) hsw15 (by decide)
    have ghsw16 := ne_i (z := 11) hsw16 (by decide)
    have ghsw17 := ne_i (z := 12) hsw17 (by decide)
    omega
  refine lv_tableOut (tgt := 145) hx hb dX7_valueOfWholeHouse_1 hdf (by decide) ?_
  refine lv_aload_n hx hb dX7_valueOfWholeHouse_145 rfl (lv_at hl 0 rfl) ?_
  refine st_get (i0 := 0) hx hb hts iX7_valueOfWholeHouse_X7 hown hP hK hk (by decide) rfl rfl 13 (by decide) hk_f89 rfl dX7_valueOfWholeHouse_146 ?_
  have hf := Option.some.inj hf
  obtain rfl := hf
  rw [hQ]
  exact w_iret hx hb hr hlocks hP hK hS dX7_valueOfWholeHouse_149 rfl rfl
abbrev rmX7_doughInLine : Room := { frames := 1, cells := 0, slots := 0, locals := 21 }
theorem iX7_doughInLine_X7 : ∀ w ∈ wsX70, w ∈ wsX7_doughInLine := by decide +kernel
set_option maxHeartbeats 4000000 in
set_option maxRecDepth 100000 in
theorem k7_doughInLine (l : Launch) {X : bkX} {b0 : Nat} (hX : XO X b0) {k : Nat} (hk : k < 6) (w : bkW) {f0 : bkA} {a1 : Int32} {res9 : Int32} (hf : m7_doughInLine f0 a1 = res9) : cI l yX7_doughInLine wsX7_doughInLine rmX7_doughInLine X b0 [.ref (xa X (51*k+0)), .int a1] (pk w k f0) res9 (pk w k f0) := by
  refine Met.ofW (cc := cX7_doughInLine) (maxL := 2) (ret := (some .int)) (by decide) rfl ?_
  intro p e s m args below meth c s₁ B hml hv
  obtain ⟨ha, hP, hK⟩ := hv
  have hx := B.exec
  have hb := B.bytes
  have hr := B.returns
  have hts := atoms_spec (ws := wsX7_doughInLine) B.pre
  have hown : s.vm.findClass RX7 = some m.cls := findClass_of_methodNamed B.named
  have hlocks := B.notSynchronized
  obtain ⟨R, hR⟩ : ∃ R, R = (headSpec wsX7_doughInLine rmX7_doughInLine).room := ⟨_, rfl⟩
  rw [← hR]
  have hR1 : R.frames = 1 := by rw [hR]; rfl
  have hR2 : R.locals = 21 := by rw [hR]; rfl
  obtain ⟨Q, hQ⟩ : ∃ Q : State → Prop, Q = MQ below (va_Qi (fun r' (_ : Unit) => r' = res9) (fun _ t => WU X (pk w k f0) t) (xF b0)) args s 0 0 (xF b0) := ⟨_, rfl⟩
  rw [← hQ]
  have hS : va_S (xF b0) s.heap s.heap [] := va_S.rf
  have hl := lv_entry ([.ref (xa X (51*k+0)), .int a1]) (n := 2) (Nat.le_of_ble_eq_true rfl)
  refine W.eq ((congrArg (fun z => entryFrame m z 2) ha).trans (lg_entry_eq m _ 2)) ?_
  generalize (lg_sl ([.ref (xa X (51*k+0)), .int a1]) ++ List.replicate (2 - (lg_sl ([.ref (xa X (51*k+0)), .int a1])).length) Slot.unset).toArray = ls at hl ⊢
  have hl : lv_has ls 2 [(0, .ref (xa X (51*k+0))), (1, .int a1)] := hl
  have hk_f64 := hts (.fieldLink RX7 64 "BakeTurns$State" "waiting" "I") (by decide +kernel)
  have hk_f44 := hts (.fieldLink RX7 44 "BakeTurns$State" "inLine" "LBakeTurns$Row;") (by decide +kernel)
  have hc_104 := (cwV 1 hts gX7_doughInLine_X6_at rfl rfl rfl (by decide +kernel) ⟨by rw [hR1]; exact Nat.le_of_ble_eq_true rfl, by rw [hR2]; exact Nat.le_of_ble_eq_true rfl⟩ : CallW R s args RX7 RX6 104 yX6_at cX6_at 2 (some .int) wsX6_at rmX6_at 0 0 1)
  unfold m7_doughInLine at hf
  refine lv_iload_n hx hb dX7_doughInLine_0 rfl (lv_at hl 1 rfl) ?_
  refine lv_if_lt (tgt := 23) hx hb dX7_doughInLine_1 (by decide) (fun h1 => ?_) (fun h1 => ?_)
  · rw [if_pos h1] at hf
    refine lv_iconst (v := (-1)) hx hb dX7_doughInLine_23 (by decide) ?_
    obtain rfl := hf
    rw [hQ]
    exact w_iret hx hb hr hlocks hP hK hS dX7_doughInLine_24 rfl rfl
  · rw [if_neg h1] at hf
    refine lv_iload_n hx hb dX7_doughInLine_4 rfl (lv_at hl 1 rfl) ?_
    refine lv_aload_n hx hb dX7_doughInLine_5 rfl (lv_at hl 0 rfl) ?_
    refine st_get (i0 := 0) hx hb hts iX7_doughInLine_X7 hown hP hK hk (by decide) rfl rfl 5 (by decide) hk_f64 rfl dX7_doughInLine_6 ?_
    refine lv_icmp_ge (tgt := 23) hx hb dX7_doughInLine_9 (by decide) (fun h2 => ?_) (fun h2 => ?_)
    · rw [if_pos h2] at hf
      refine lv_iconst (v := (-1)) hx hb dX7_doughInLine_23 (by decide) ?_
      obtain rfl := hf
      rw [hQ]
      exact w_iret hx hb hr hlocks hP hK hS dX7_doughInLine_24 rfl rfl
    · rw [if_neg h2] at hf
      refine lv_aload_n hx hb dX7_doughInLine_12 rfl (lv_at hl 0 rfl) ?_
      refine st_get (i0 := 0) hx hb hts iX7_doughInLine_X7 hown hP hK hk (by decide) rfl rfl 4 (by decide) hk_f44 rfl dX7_doughInLine_13 ?_
      refine lv_iload_n hx hb dX7_doughInLine_16 rfl (lv_at hl 1 rfl) ?_
      refine st_at (j := 22) (n := 16) ⟨hx, hb, hml, hown, hts⟩ hP hK hS hk (by decide) rfl hc_104 hl.1 (Nat.le_of_ble_eq_true rfl) dX7_doughInLine_17 (fun H locs hP hS => ?_)
      refine lv_goto (tgt := 24) hx hb dX7_doughInLine_20 (by decide) ?_
      obtain rfl := hf
      rw [hQ]
      exact w_iret hx hb hr hlocks hP hK hS dX7_doughInLine_24 rfl rfl
abbrev rmX7_clearAway : Room := { frames := 2, cells := 0, slots := 0, locals := 45 }
theorem iX7_clearAway_X1 : ∀ w ∈ wsX10, w ∈ wsX7_clearAway := by decide +kernel
theorem iX7_clearAway_X7 : ∀ w ∈ wsX70, w ∈ wsX7_clearAway := by decide +kernel
set_option maxHeartbeats 4000000 in
set_option maxRecDepth 100000 in
theorem k7_clearAway (l : Launch) {X : bkX} {b0 : Nat} (hX : XO X b0) {k : Nat} (hk : k < 6) (w : bkW) {N : Nat} {f0 : bkA} {res9 : Int32} {f9 : bkA} (hf : m7_clearAway N f0 = some (res9, f9)) : cI l yX7_clearAway wsX7_clearAway rmX7_clearAway X b0 [.ref (xa X (51*k+0))] (pk w k f0) res9 (pk w k f9) := by
  refine Met.ofW (cc := cX7_clearAway) (maxL := 5) (ret := (some .int)) (by decide) rfl ?_
  intro p e s m args below meth c s₁ B hml hv
  obtain ⟨ha, hP, hK⟩ := hv
  have hx := B.exec
  have hb := B.bytes
  have hr := B.returns
  have hts := atoms_spec (ws := wsX7_clearAway) B.pre
  have hown : s.vm.findClass RX7 = some m.cls := findClass_of_methodNamed B.named
  have hlocks := B.notSynchronized
  obtain ⟨R, hR⟩ : ∃ R, R = (headSpec wsX7_clearAway rmX7_clearAway).room := ⟨_, rfl⟩
  rw [← hR]
  have hR1 : R.frames = 2 := by rw [hR]; rfl
  have hR2 : R.locals = 45 := by rw [hR]; rfl
  obtain ⟨Q, hQ⟩ : ∃ Q : State → Prop, Q = MQ below (va_Qi (fun r' (_ : Unit) => r' = res9) (fun _ t => WU X (pk w k f9) t) (xF b0)) args s 0 0 (xF b0) := ⟨_, rfl⟩
  rw [← hQ]
  have hS : va_S (xF b0) s.heap s.heap [] := va_S.rf
  have hl := lv_entry ([.ref (xa X (51*k+0))]) (n := 5) (Nat.le_of_ble_eq_true rfl)
  refine W.eq ((congrArg (fun z => entryFrame m z 5) ha).trans (lg_entry_eq m _ 5)) ?_
  generalize (lg_sl ([.ref (xa X (51*k+0))]) ++ List.replicate (5 - (lg_sl ([.ref (xa X (51*k+0))])).length) Slot.unset).toArray = ls at hl ⊢
  have hl : lv_has ls 5 [(0, .ref (xa X (51*k+0)))] := hl
  have hk_f28 := hts (.fieldLink RX7 28 "BakeTurns$State" "doughs" "LBakeTurns$Doughs;") (by decide +kernel)
  have hk_f96 := hts (.fieldLink RX7 96 "BakeTurns$Doughs" "count" "I") (by decide +kernel)
  have hk_f101 := hts (.fieldLink RX7 101 "BakeTurns$Doughs" "phase" "LBakeTurns$Row;") (by decide +kernel)
  have hc_104 := (cwV 1 hts gX7_clearAway_X6_at rfl rfl rfl (by decide +kernel) ⟨by rw [hR1]; exact Nat.le_of_ble_eq_true rfl, by rw [hR2]; exact Nat.le_of_ble_eq_true rfl⟩ : CallW R s args RX7 RX6 104 yX6_at cX6_at 2 (some .int) wsX6_at rmX6_at 0 0 1)
  have hc_161 := (cwV 2 hts gX7_clearAway_X1_move rfl rfl rfl (by decide +kernel) ⟨by rw [hR1]; exact Nat.le_of_ble_eq_true rfl, by rw [hR2]; exact Nat.le_of_ble_eq_true rfl⟩ : CallW R s args RX7 RX1 161 yX1_move cX1_move 3 none wsX1_move rmX1_move 0 0 2)
  have hc_164 := (cwV 2 hts gX7_clearAway_X7_renumber rfl rfl rfl (by decide +kernel) ⟨by rw [hR1]; exact Nat.le_of_ble_eq_true rfl, by rw [hR2]; exact Nat.le_of_ble_eq_true rfl⟩ : CallW R s args RX7 RX7 164 yX7_renumber cX7_renumber 4 none wsX7_renumber rmX7_renumber 0 0 2)
  unfold m7_clearAway at hf
  refine lv_aload_n hx hb dX7_clearAway_0 rfl (lv_at hl 0 rfl) ?_
  refine st_get (i0 := 0) hx hb hts iX7_clearAway_X7 hown hP hK hk (by decide) rfl rfl 2 (by decide) hk_f28 rfl dX7_clearAway_1 ?_
  refine st_get (i0 := 3) hx hb hts iX7_clearAway_X1 hown hP hK hk (by decide) rfl rfl 0 (by decide) hk_f96 rfl dX7_clearAway_4 ?_
  refine lv_topi (fun x1 ex1 => ?_)
  replace hf := ltn_s ex1 hf
  refine lv_istore_n (lv' := [(1, .int x1), (0, .ref (xa X (51*k+0)))]) hx hb dX7_clearAway_7 rfl hl (by decide) rfl (fun ls hl => ?_)
  refine lv_iconst (v := 0) hx hb dX7_clearAway_8 (by decide) ?_
  refine lv_istore_n (lv' := [(2, .int 0), (1, .int x1), (0, .ref (xa X (51*k+0)))]) hx hb dX7_clearAway_9 rfl hl (by decide) rfl (fun ls hl => ?_)
  refine lv_iconst (v := 0) hx hb dX7_clearAway_10 (by decide) ?_
  refine lv_istore_n (lv' := [(3, .int 0), (2, .int 0), (1, .int x1), (0, .ref (xa X (51*k+0)))]) hx hb dX7_clearAway_11 rfl hl (by decide) rfl (fun ls hl => ?_)
  have L12 : ∀ (n : Nat) (x3 : Int32) (x4 : Int32) (x5 : Int32) (f6 : bkA) (o7 : Int32) (of8 : bkA) (H : Heap) (locs : List Loc) (ls : Array Slot), m7_clearAway_L12 N n x3 x4 x5 f6 = some (o7, of8) → HW X (pk w k f6) H → va_S (xF b0) s.heap H locs → lv_has ls 5 [(0, .ref (xa X (51*k+0))), (1, .int x3), (2, .int x4), (3, .int x5)] → (∀ (H1 : Heap) (locs1 : List Loc) (ls1 : Array Slot), HW X (pk w k of8) H1 → va_S (xF b0) s.heap H1 locs1 → lv_has ls1 5 [(0, .ref (xa X (51*k+0))), (2, .int o7)] → W p l e R s m args below meth c H1 locs1 0 0 Q (F0 m 65 ls1 [])) → W p l e R s m args below meth c H locs 0 0 Q (F0 m 12 ls []) := by
    intro n; induction n with
    | zero => intro x3 x4 x5 f6 o7 of8 H locs ls hf; rw [m7_clearAway_L12] at hf; cases hf
    | succ n ih =>
      intro x3 x4 x5 f6 o7 of8 H locs ls hf hP hS hl K
      rw [m7_clearAway_L12] at hf
      refine lv_iload_n hx hb dX7_clearAway_12 rfl (lv_at hl 3 rfl) ?_
      refine lv_iload_n hx hb dX7_clearAway_13 rfl (lv_at hl 1 rfl) ?_
      refine lv_icmp_ge (tgt := 65) hx hb dX7_clearAway_14 (by decide) (fun h9 => ?_) (fun h9 => ?_)
      · rw [if_pos h9] at hf
        have hf := Option.some.inj hf
        simp only [Prod.mk.injEq] at hf
        obtain ⟨rfl, rfl⟩ := hf
        exact K _ _ _ hP hS (lv_sub hl [0, 2] rfl)
      · rw [if_neg h9] at hf
        refine lv_aload_n hx hb dX7_clearAway_17 rfl (lv_at hl 0 rfl) ?_
        refine st_get (i0 := 0) hx hb hts iX7_clearAway_X7 hown hP hK hk (by decide) rfl rfl 2 (by decide) hk_f28 rfl dX7_clearAway_18 ?_
        refine st_get (i0 := 3) hx hb hts iX7_clearAway_X1 hown hP hK hk (by decide) rfl rfl 5 (by decide) hk_f101 rfl dX7_clearAway_21 ?_
        refine lv_iload_n hx hb dX7_clearAway_24 rfl (lv_at hl 3 rfl) ?_
        refine st_at (j := 15) (n := 16) ⟨hx, hb, hml, hown, hts⟩ hP hK hS hk (by decide) rfl hc_104 hl.1 (Nat.le_of_ble_eq_true rfl) dX7_clearAway_25 (fun H locs hP hS => ?_)
        refine lv_topi (fun x10 ex10 => ?_)
        replace hf := ltn_s ex10 hf
        refine lv_istore (lv' := [(4, .int x10), (0, .ref (xa X (51*k+0))), (1, .int x3), (2, .int x4), (3, .int x5)]) hx hb dX7_clearAway_28 hl (by decide) rfl (fun ls hl => ?_)
        refine lv_iload hx hb dX7_clearAway_30 (lv_at hl 0 rfl) ?_
        obtain ⟨x23, f24, ejK25, hf⟩ := ob2_e hf
        have K25 : ∀ (H : Heap) (locs : List Loc) (ls : Array Slot), HW X (pk w k f24) H → va_S (xF b0) s.heap H locs → lv_has ls 5 [(0, .ref (xa X (51*k+0))), (1, .int x3), (2, .int x23), (3, .int x5)] → W p l e R s m args below meth c H locs 0 0 Q (F0 m 59 ls []) := by
          intro H locs ls hP hS hl
          obtain ⟨x37, ex37⟩ : ∃ y : Int32, y = x5 + 1 := ⟨_, rfl⟩
          replace hf := ltn_s ex37 hf
          refine lv_iinc (v := x37) (lv' := [(3, .int x37), (0, .ref (xa X (51*k+0))), (1, .int x3), (2, .int x23)]) hx hb dX7_clearAway_59 hl (k := 3) rfl (by rw [ex37]; rfl) (by decide) rfl (fun ls hl => ?_)
          refine lv_goto (tgt := 12) hx hb dX7_clearAway_62 (by decide) ?_
          exact ih x3 x23 x37 f24 o7 of8 _ _ _ hf hP hS (lv_sub hl [1, 2, 3, 0] rfl) K
        clear hf
        refine lv_if_eq (tgt := 41) hx hb dX7_clearAway_32 (by decide) (fun h11 => ?_) (fun h11 => ?_)
        · rw [if_pos h11] at ejK25
          refine lv_aload_n hx hb dX7_clearAway_41 rfl (lv_at hl 1 rfl) ?_
          refine st_get (i0 := 0) hx hb hts iX7_clearAway_X7 hown hP hK hk (by decide) rfl rfl 2 (by decide) hk_f28 rfl dX7_clearAway_42 ?_
          refine lv_iload_n hx hb dX7_clearAway_45 rfl (lv_at hl 4 rfl) ?_
          refine lv_iload_n hx hb dX7_clearAway_46 rfl (lv_at hl 3 rfl) ?_
          obtain ⟨f26, hc27, ejK25⟩ := lt1_e ejK25
          refine w_cv ⟨hx, hb, hml, hown, hts⟩ hP hK hS (k1_move l hX hk w hc27) hc_161 (st_recv (i0 := 3) hP hK hk (by decide) rfl rfl) rfl hl.1 rfl (Nat.le_of_ble_eq_true rfl) dX7_clearAway_47 ⟨Nat.zero_le _, Nat.zero_le _⟩ (fun H locs hP hS => ?_)
          refine lv_aload_n hx hb dX7_clearAway_50 rfl (lv_at hl 1 rfl) ?_
          refine lv_iload_n hx hb dX7_clearAway_51 rfl (lv_at hl 4 rfl) ?_
          refine lv_iload_n hx hb dX7_clearAway_52 rfl (lv_at hl 3 rfl) ?_
          obtain ⟨f28, hc29, ejK25⟩ := ob1_e ejK25
          refine w_cv ⟨hx, hb, hml, hown, hts⟩ hP hK hS (k7_renumber l hX hk w hc29) hc_164 (st_recv (i0 := 0) hP hK hk (by decide) rfl rfl) rfl hl.1 rfl (Nat.le_of_ble_eq_true rfl) dX7_clearAway_53 ⟨Nat.zero_le _, Nat.zero_le _⟩ (fun H locs hP hS => ?_)
          obtain ⟨x30, ex30⟩ : ∃ y : Int32, y = x4 + 1 := ⟨_, rfl⟩
          replace ejK25 := ltn_s ex30 ejK25
          refine lv_iinc (v := x30) (lv' := [(2, .int x30), (4, .int x10), (0, .ref (xa X (51*k+0))), (1, .int x3), (3, .int x5)]) hx hb dX7_clearAway_56 hl (k := 3) rfl (by rw [ex30]; rfl) (by decide) rfl (fun ls hl => ?_)
          have ejK25 := Option.some.inj ejK25
          simp only [Prod.mk.injEq] at ejK25
          obtain ⟨rfl, rfl⟩ := ejK25
          exact K25 _ _ _ hP hS (lv_sub hl [2, 3, 0, 4] rfl)
        · rw [if_neg h11] at ejK25
          refine lv_iload hx hb dX7_clearAway_35 (lv_at hl 0 rfl) ?_
          refine lv_iconst (v := 1) hx hb dX7_clearAway_37 (by decide) ?_
          refine lv_icmp_ne (tgt := 59) hx hb dX7_clearAway_38 (by decide) (fun h31 => ?_) (fun h31 => ?_)
          · rw [if_neg h31] at ejK25
            have ejK25 := Option.some.inj ejK25
            simp only [Prod.mk.injEq] at ejK25
            obtain ⟨rfl, rfl⟩ := ejK25
            exact K25 _ _ _ hP hS (lv_sub hl [1, 2, 3, 4] rfl)
          · rw [if_pos h31] at ejK25
            refine lv_aload_n hx hb dX7_clearAway_41 rfl (lv_at hl 1 rfl) ?_
            refine st_get (i0 := 0) hx hb hts iX7_clearAway_X7 hown hP hK hk (by decide) rfl rfl 2 (by decide) hk_f28 rfl dX7_clearAway_42 ?_
            refine lv_iload_n hx hb dX7_clearAway_45 rfl (lv_at hl 4 rfl) ?_
            refine lv_iload_n hx hb dX7_clearAway_46 rfl (lv_at hl 3 rfl) ?_
            obtain ⟨f32, hc33, ejK25⟩ := lt1_e ejK25
            refine w_cv ⟨hx, hb, hml, hown, hts⟩ hP hK hS (k1_move l hX hk w hc33) hc_161 (st_recv (i0 := 3) hP hK hk (by decide) rfl rfl) rfl hl.1 rfl (Nat.le_of_ble_eq_true rfl) dX7_clearAway_47 ⟨Nat.zero_le _, Nat.zero_le _⟩ (fun H locs hP hS => ?_)
            refine lv_aload_n hx hb dX7_clearAway_50 rfl (lv_at hl 1 rfl) ?_
            refine lv_iload_n hx hb dX7_clearAway_51 rfl (lv_at hl 4 rfl) ?_
            refine lv_iload_n hx hb dX7_clearAway_52 rfl (lv_at hl 3 rfl) ?_
            obtain ⟨f34, hc35, ejK25⟩ := ob1_e ejK25
            refine w_cv ⟨hx, hb, hml, hown, hts⟩ hP hK hS (k7_renumber l hX hk w hc35) hc_164 (st_recv (i0 := 0) hP hK hk (by decide) rfl rfl) rfl hl.1 rfl (Nat.le_of_ble_eq_true rfl) dX7_clearAway_53 ⟨Nat.zero_le _, Nat.zero_le _⟩ (fun H locs hP hS => ?_)
            obtain ⟨x36, ex36⟩ : ∃ y : Int32, y = x4 + 1 := ⟨_, rfl⟩
            replace ejK25 := ltn_s ex36 ejK25
            refine lv_iinc (v := x36) (lv' := [(2, .int x36), (4, .int x10), (0, .ref (xa X (51*k+0))), (1, .int x3), (3, .int x5)]) hx hb dX7_clearAway_56 hl (k := 3) rfl (by rw [ex36]; rfl) (by decide) rfl (fun ls hl => ?_)
            have ejK25 := Option.some.inj ejK25
            simp only [Prod.mk.injEq] at ejK25
            obtain ⟨rfl, rfl⟩ := ejK25
            exact K25 _ _ _ hP hS (lv_sub hl [2, 3, 0, 4] rfl)
  obtain ⟨x38, f39, hc40, hf⟩ := ob2_e hf
  refine L12 N x1 0 0 f0 x38 f39 _ _ _ hc40 hP hS (lv_sub hl [3, 2, 1, 0] rfl) (fun H locs ls hP hS hl => ?_)
  refine lv_aload_n hx hb dX7_clearAway_65 rfl (lv_at hl 0 rfl) ?_
  refine st_get (i0 := 0) hx hb hts iX7_clearAway_X7 hown hP hK hk (by decide) rfl rfl 2 (by decide) hk_f28 rfl dX7_clearAway_66 ?_
  refine lv_iload_n hx hb dX7_clearAway_69 rfl (lv_at hl 1 rfl) ?_
  refine st_put (i0 := 3) hx hb hts iX7_clearAway_X1 tyX1 tyX1_ok nmX1 hown hX hP hK hS hk (by decide) rfl rfl 0 (by decide) hk_f96 rfl rfl (Nat.le_of_ble_eq_true rfl) es_2 dX7_clearAway_70 (fun f41 ef41 H locs hP hS => ?_)
  replace hf := ltn_s ef41 hf
  refine lv_iload_n hx hb dX7_clearAway_73 rfl (lv_at hl 1 rfl) ?_
  have hf := Option.some.inj hf
  simp only [Prod.mk.injEq] at hf
  obtain ⟨rfl, rfl⟩ := hf
  rw [hQ]
  exact w_iret hx hb hr hlocks hP hK hS dX7_clearAway_74 rfl rfl
