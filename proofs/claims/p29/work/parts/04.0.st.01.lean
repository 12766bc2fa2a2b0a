abbrev rmX7_refusalOfBring : Room := { frames := 1, cells := 0, slots := 0, locals := 21 }
theorem iX7_refusalOfBring_X3 : ∀ w ∈ wsX30, w ∈ wsX7_refusalOfBring := by decide +kernel
theorem iX7_refusalOfBring_X7 : ∀ w ∈ wsX70, w ∈ wsX7_refusalOfBring := by decide +kernel
set_option maxHeartbeats 4000000 in
set_option maxRecDepth 100000 in
theorem k7_refusalOfBring (l : Launch) {X : bkX} {b0 : Nat} (hX : XO X b0) {k : Nat} (hk : k < 6) (w : bkW) {f0 : bkA} {a1 : Int32} {a2 : Int32} {res9 : Int32} (hf : m7_refusalOfBring f0 a1 a2 = res9) : cI l yX7_refusalOfBring wsX7_refusalOfBring rmX7_refusalOfBring X b0 [.ref (xa X (51*k+0)), .int a1, .int a2] (pk w k f0) res9 (pk w k f0) := by
  refine Met.ofW (cc := cX7_refusalOfBring) (maxL := 3) (ret := (some .int)) (by decide) rfl ?_
  intro p e s m args below meth c s₁ B hml hv
  obtain ⟨ha, hP, hK⟩ := hv
  have hx := B.exec
  have hb := B.bytes
  have hr := B.returns
  have hts := atoms_spec (ws := wsX7_refusalOfBring) B.pre
  have hown : s.vm.findClass RX7 = some m.cls := findClass_of_methodNamed B.named
  have hlocks := B.notSynchronized
  obtain ⟨R, hR⟩ : ∃ R, R = (headSpec wsX7_refusalOfBring rmX7_refusalOfBring).room := ⟨_, rfl⟩
  rw [← hR]
  have hR1 : R.frames = 1 := by rw [hR]; rfl
  have hR2 : R.locals = 21 := by rw [hR]; rfl
  obtain ⟨Q, hQ⟩ : ∃ Q : State → Prop, Q = MQ below (va_Qi (fun r' (_ : Unit) => r' = res9) (fun _ t => WU X (pk w k f0) t) (xF b0)) args s 0 0 (xF b0) := ⟨_, rfl⟩
  rw [← hQ]
  have hS : va_S (xF b0) s.heap s.heap [] := va_S.rf
  have hl := lv_entry ([.ref (xa X (51*k+0)), .int a1, .int a2]) (n := 3) (Nat.le_of_ble_eq_true rfl)
  refine W.eq ((congrArg (fun z => entryFrame m z 3) ha).trans (lg_entry_eq m _ 3)) ?_
  generalize (lg_sl ([.ref (xa X (51*k+0)), .int a1, .int a2]) ++ List.replicate (3 - (lg_sl ([.ref (xa X (51*k+0)), .int a1, .int a2])).length) Slot.unset).toArray = ls at hl ⊢
  have hl : lv_has ls 3 [(0, .ref (xa X (51*k+0))), (1, .int a1), (2, .int a2)] := hl
  have hc_111 := (cwV 1 hts gX7_refusalOfBring_X7_isHouse rfl rfl rfl (by decide +kernel) ⟨by rw [hR1]; exact Nat.le_of_ble_eq_true rfl, by rw [hR2]; exact Nat.le_of_ble_eq_true rfl⟩ : CallW R s args RX7 RX7 111 yX7_isHouse cX7_isHouse 2 (some .boolean) wsX7_isHouse rmX7_isHouse 0 0 1)
  have hk_f21 := hts (.fieldLink RX7 21 "BakeTurns$State" "houses" "LBakeTurns$Houses;") (by decide +kernel)
  have hk_f120 := hts (.fieldLink RX7 120 "BakeTurns$Houses" "balance" "LBakeTurns$Row;") (by decide +kernel)
  have hc_104 := (cwV 1 hts gX7_refusalOfBring_X6_at rfl rfl rfl (by decide +kernel) ⟨by rw [hR1]; exact Nat.le_of_ble_eq_true rfl, by rw [hR2]; exact Nat.le_of_ble_eq_true rfl⟩ : CallW R s args RX7 RX6 104 yX6_at cX6_at 2 (some .int) wsX6_at rmX6_at 0 0 1)
  unfold m7_refusalOfBring at hf
  refine lv_aload_n hx hb dX7_refusalOfBring_0 rfl (lv_at hl 0 rfl) ?_
  refine lv_iload_n hx hb dX7_refusalOfBring_1 rfl (lv_at hl 1 rfl) ?_
  obtain ⟨x1, hc2, hf⟩ := lt1_e hf
  refine w_ci ⟨hx, hb, hml, hown, hts⟩ hP hK hS (k7_isHouse l hX hk w hc2) hc_111 (st_recv (i0 := 0) hP hK hk (by decide) rfl rfl) rfl hl.1 rfl (Nat.le_of_ble_eq_true rfl) dX7_refusalOfBring_2 ⟨Nat.zero_le _, Nat.zero_le _⟩ (fun H locs hP hS => ?_)
  refine lv_if_ne (tgt := 10) hx hb dX7_refusalOfBring_5 (by decide) (fun h3 => ?_) (fun h3 => ?_)
  · rw [if_neg h3] at hf
    refine lv_iload_n hx hb dX7_refusalOfBring_10 rfl (lv_at hl 2 rfl) ?_
    refine lv_iconst (v := 1) hx hb dX7_refusalOfBring_11 (by decide) ?_
    refine lv_icmp_lt (tgt := 21) hx hb dX7_refusalOfBring_12 (by decide) (fun h4 => ?_) (fun h4 => ?_)
    · rw [if_pos h4] at hf
      refine lv_iconst (v := 2) hx hb dX7_refusalOfBring_21 (by decide) ?_
      obtain rfl := hf
      rw [hQ]
      exact w_iret hx hb hr hlocks hP hK hS dX7_refusalOfBring_22 rfl rfl
    · rw [if_neg h4] at hf
      refine lv_iload_n hx hb dX7_refusalOfBring_15 rfl (lv_at hl 2 rfl) ?_
      refine lv_bipush (v := 99) hx hb dX7_refusalOfBring_16 (by decide) ?_
      refine lv_icmp_le (tgt := 23) hx hb dX7_refusalOfBring_18 (by decide) (fun h5 => ?_) (fun h5 => ?_)
      · rw [if_pos h5] at hf
        refine lv_aload_n hx hb dX7_refusalOfBring_23 rfl (lv_at hl 0 rfl) ?_
        refine st_get (i0 := 0) hx hb hts iX7_refusalOfBring_X7 hown hP hK hk (by decide) rfl rfl 1 (by decide) hk_f21 rfl dX7_refusalOfBring_24 ?_
        refine st_get (i0 := 2) hx hb hts iX7_refusalOfBring_X3 hown hP hK hk (by decide) rfl rfl 1 (by decide) hk_f120 rfl dX7_refusalOfBring_27 ?_
        refine lv_iload_n hx hb dX7_refusalOfBring_30 rfl (lv_at hl 1 rfl) ?_
        refine st_at (j := 5) (n := 8) ⟨hx, hb, hml, hown, hts⟩ hP hK hS hk (by decide) rfl hc_104 hl.1 (Nat.le_of_ble_eq_true rfl) dX7_refusalOfBring_31 (fun H locs hP hS => ?_)
        refine lv_iload_n hx hb dX7_refusalOfBring_34 rfl (lv_at hl 2 rfl) ?_
        refine lv_iadd hx hb dX7_refusalOfBring_35 ?_
        refine lv_sipush (v := 999) hx hb dX7_refusalOfBring_36 (by decide) ?_
        refine lv_icmp_le (tgt := 46) hx hb dX7_refusalOfBring_39 (by decide) (fun h6 => ?_) (fun h6 => ?_)
        · rw [if_pos h6] at hf
          refine lv_iconst (v := 0) hx hb dX7_refusalOfBring_46 (by decide) ?_
          obtain rfl := hf
          rw [hQ]
          exact w_iret hx hb hr hlocks hP hK hS dX7_refusalOfBring_47 rfl rfl
        · rw [if_neg h6] at hf
          refine lv_iconst (v := 3) hx hb dX7_refusalOfBring_42 (by decide) ?_
          refine lv_goto (tgt := 47) hx hb dX7_refusalOfBring_43 (by decide) ?_
          obtain rfl := hf
          rw [hQ]
          exact w_iret hx hb hr hlocks hP hK hS dX7_refusalOfBring_47 rfl rfl
      · rw [if_neg h5] at hf
        refine lv_iconst (v := 2) hx hb dX7_refusalOfBring_21 (by decide) ?_
        obtain rfl := hf
        rw [hQ]
        exact w_iret hx hb hr hlocks hP hK hS dX7_refusalOfBring_22 rfl rfl
  · rw [if_pos h3] at hf
    refine lv_iconst (v := 1) hx hb dX7_refusalOfBring_8 (by decide) ?_
    obtain rfl := hf
    rw [hQ]
    exact w_iret hx hb hr hlocks hP hK hS dX7_refusalOfBring_9 rfl rfl
abbrev rmX7_refusalOfStoke : Room := { frames := 1, cells := 0, slots := 0, locals := 21 }
theorem iX7_refusalOfStoke_X3 : ∀ w ∈ wsX30, w ∈ wsX7_refusalOfStoke := by decide +kernel
theorem iX7_refusalOfStoke_X7 : ∀ w ∈ wsX70, w ∈ wsX7_refusalOfStoke := by decide +kernel
set_option maxHeartbeats 4000000 in
set_option maxRecDepth 100000 in
theorem k7_refusalOfStoke (l : Launch) {X : bkX} {b0 : Nat} (hX : XO X b0) {k : Nat} (hk : k < 6) (w : bkW) {f0 : bkA} {a1 : Int32} {a2 : Int32} {res9 : Int32} (hf : m7_refusalOfStoke f0 a1 a2 = res9) : cI l yX7_refusalOfStoke wsX7_refusalOfStoke rmX7_refusalOfStoke X b0 [.ref (xa X (51*k+0)), .int a1, .int a2] (pk w k f0) res9 (pk w k f0) := by
  refine Met.ofW (cc := cX7_refusalOfStoke) (maxL := 4) (ret := (some .int)) (by decide) rfl ?_
  intro p e s m args below meth c s₁ B hml hv
  obtain ⟨ha, hP, hK⟩ := hv
  have hx := B.exec
  have hb := B.bytes
  have hr := B.returns
  have hts := atoms_spec (ws := wsX7_refusalOfStoke) B.pre
  have hown : s.vm.findClass RX7 = some m.cls := findClass_of_methodNamed B.named
  have hlocks := B.notSynchronized
  obtain ⟨R, hR⟩ : ∃ R, R = (headSpec wsX7_refusalOfStoke rmX7_refusalOfStoke).room := ⟨_, rfl⟩
  rw [← hR]
  have hR1 : R.frames = 1 := by rw [hR]; rfl
  have hR2 : R.locals = 21 := by rw [hR]; rfl
  obtain ⟨Q, hQ⟩ : ∃ Q : State → Prop, Q = MQ below (va_Qi (fun r' (_ : Unit) => r' = res9) (fun _ t => WU X (pk w k f0) t) (xF b0)) args s 0 0 (xF b0) := ⟨_, rfl⟩
  rw [← hQ]
  have hS : va_S (xF b0) s.heap s.heap [] := va_S.rf
  have hl := lv_entry ([.ref (xa X (51*k+0)), .int a1, .int a2]) (n := 4) (Nat.le_of_ble_eq_true rfl)
  refine W.eq ((congrArg (fun z => entryFrame m z 4) ha).trans (lg_entry_eq m _ 4)) ?_
  generalize (lg_sl ([.ref (xa X (51*k+0)), .int a1, .int a2]) ++ List.replicate (4 - (lg_sl ([.ref (xa X (51*k+0)), .int a1, .int a2])).length) Slot.unset).toArray = ls at hl ⊢
  have hl : lv_has ls 4 [(0, .ref (xa X (51*k+0))), (1, .int a1), (2, .int a2)] := hl
  have hc_111 := (cwV 1 hts gX7_refusalOfStoke_X7_isHouse rfl rfl rfl (by decide +kernel) ⟨by rw [hR1]; exact Nat.le_of_ble_eq_true rfl, by rw [hR2]; exact Nat.le_of_ble_eq_true rfl⟩ : CallW R s args RX7 RX7 111 yX7_isHouse cX7_isHouse 2 (some .boolean) wsX7_isHouse rmX7_isHouse 0 0 1)
  have hk_f21 := hts (.fieldLink RX7 21 "BakeTurns$State" "houses" "LBakeTurns$Houses;") (by decide +kernel)
  have hk_f120 := hts (.fieldLink RX7 120 "BakeTurns$Houses" "balance" "LBakeTurns$Row;") (by decide +kernel)
  have hc_104 := (cwV 1 hts gX7_refusalOfStoke_X6_at rfl rfl rfl (by decide +kernel) ⟨by rw [hR1]; exact Nat.le_of_ble_eq_true rfl, by rw [hR2]; exact Nat.le_of_ble_eq_true rfl⟩ : CallW R s args RX7 RX6 104 yX6_at cX6_at 2 (some .int) wsX6_at rmX6_at 0 0 1)
  have hk_f68 := hts (.fieldLink RX7 68 "BakeTurns$State" "heat" "I") (by decide +kernel)
  unfold m7_refusalOfStoke at hf
  refine lv_aload_n hx hb dX7_refusalOfStoke_0 rfl (lv_at hl 0 rfl) ?_
  refine lv_iload_n hx hb dX7_refusalOfStoke_1 rfl (lv_at hl 1 rfl) ?_
  obtain ⟨x1, hc2, hf⟩ := lt1_e hf
  refine w_ci ⟨hx, hb, hml, hown, hts⟩ hP hK hS (k7_isHouse l hX hk w hc2) hc_111 (st_recv (i0 := 0) hP hK hk (by decide) rfl rfl) rfl hl.1 rfl (Nat.le_of_ble_eq_true rfl) dX7_refusalOfStoke_2 ⟨Nat.zero_le _, Nat.zero_le _⟩ (fun H locs hP hS => ?_)
  refine lv_if_ne (tgt := 10) hx hb dX7_refusalOfStoke_5 (by decide) (fun h3 => ?_) (fun h3 => ?_)
  · rw [if_neg h3] at hf
    refine lv_iload_n hx hb dX7_refusalOfStoke_10 rfl (lv_at hl 2 rfl) ?_
    refine lv_iconst (v := 1) hx hb dX7_refusalOfStoke_11 (by decide) ?_
    refine lv_icmp_lt (tgt := 21) hx hb dX7_refusalOfStoke_12 (by decide) (fun h4 => ?_) (fun h4 => ?_)
    · rw [if_pos h4] at hf
      refine lv_iconst (v := 2) hx hb dX7_refusalOfStoke_21 (by decide) ?_
      obtain rfl := hf
      rw [hQ]
      exact w_iret hx hb hr hlocks hP hK hS dX7_refusalOfStoke_22 rfl rfl
    · rw [if_neg h4] at hf
      refine lv_iload_n hx hb dX7_refusalOfStoke_15 rfl (lv_at hl 2 rfl) ?_
      refine lv_bipush (v := 16) hx hb dX7_refusalOfStoke_16 (by decide) ?_
      refine lv_icmp_le (tgt := 23) hx hb dX7_refusalOfStoke_18 (by decide) (fun h5 => ?_) (fun h5 => ?_)
      · rw [if_pos h5] at hf
        refine lv_aload_n hx hb dX7_refusalOfStoke_23 rfl (lv_at hl 0 rfl) ?_
        refine st_get (i0 := 0) hx hb hts iX7_refusalOfStoke_X7 hown hP hK hk (by decide) rfl rfl 1 (by decide) hk_f21 rfl dX7_refusalOfStoke_24 ?_
        refine st_get (i0 := 2) hx hb hts iX7_refusalOfStoke_X3 hown hP hK hk (by decide) rfl rfl 1 (by decide) hk_f120 rfl dX7_refusalOfStoke_27 ?_
        refine lv_iload_n hx hb dX7_refusalOfStoke_30 rfl (lv_at hl 1 rfl) ?_
        refine st_at (j := 5) (n := 8) ⟨hx, hb, hml, hown, hts⟩ hP hK hS hk (by decide) rfl hc_104 hl.1 (Nat.le_of_ble_eq_true rfl) dX7_refusalOfStoke_31 (fun H locs hP hS => ?_)
        refine lv_iload_n hx hb dX7_refusalOfStoke_34 rfl (lv_at hl 2 rfl) ?_
        refine lv_isub hx hb dX7_refusalOfStoke_35 ?_
        refine lv_bipush (v := (-20)) hx hb dX7_refusalOfStoke_36 (by decide) ?_
        obtain ⟨x7, ejK8, hf⟩ := lt1_e hf
        have K8 : ∀ (H : Heap) (locs : List Loc) (ls : Array Slot), HW X (pk w k f0) H → va_S (xF b0) s.heap H locs → lv_has ls 4 [(0, .ref (xa X (51*k+0))), (2, .int a2)] → W p l e R s m args below meth c H locs 0 0 Q (F0 m 46 ls [.int x7]) := by
          intro H locs ls hP hS hl
          refine lv_istore_n (lv' := [(3, .int x7), (0, .ref (xa X (51*k+0))), (2, .int a2)]) hx hb dX7_refusalOfStoke_46 rfl hl (by decide) rfl (fun ls hl => ?_)
          refine lv_iload_n hx hb dX7_refusalOfStoke_47 rfl (lv_at hl 0 rfl) ?_
          refine lv_if_ne (tgt := 66) hx hb dX7_refusalOfStoke_48 (by decide) (fun h9 => ?_) (fun h9 => ?_)
          · rw [if_neg h9] at hf
            refine lv_iconst (v := 3) hx hb dX7_refusalOfStoke_66 (by decide) ?_
            refine lv_goto (tgt := 71) hx hb dX7_refusalOfStoke_67 (by decide) ?_
            obtain rfl := hf
            rw [hQ]
            exact w_iret hx hb hr hlocks hP hK hS dX7_refusalOfStoke_71 rfl rfl
          · rw [if_pos h9] at hf
            refine lv_aload_n hx hb dX7_refusalOfStoke_51 rfl (lv_at hl 1 rfl) ?_
            refine st_get (i0 := 0) hx hb hts iX7_refusalOfStoke_X7 hown hP hK hk (by decide) rfl rfl 6 (by decide) hk_f68 rfl dX7_refusalOfStoke_52 ?_
            refine lv_bipush (v := 25) hx hb dX7_refusalOfStoke_55 (by decide) ?_
            refine lv_iload_n hx hb dX7_refusalOfStoke_57 rfl (lv_at hl 2 rfl) ?_
            refine lv_imul hx hb dX7_refusalOfStoke_58 ?_
            refine lv_iadd hx hb dX7_refusalOfStoke_59 ?_
            refine lv_sipush (v := 400) hx hb dX7_refusalOfStoke_60 (by decide) ?_
            refine lv_icmp_le (tgt := 70) hx hb dX7_refusalOfStoke_63 (by decide) (fun h10 => ?_) (fun h10 => ?_)
            · rw [if_pos h10] at hf
              refine lv_iconst (v := 0) hx hb dX7_refusalOfStoke_70 (by decide) ?_
              obtain rfl := hf
              rw [hQ]
              exact w_iret hx hb hr hlocks hP hK hS dX7_refusalOfStoke_71 rfl rfl
            · rw [if_neg h10] at hf
              refine lv_iconst (v := 3) hx hb dX7_refusalOfStoke_66 (by decide) ?_
              refine lv_goto (tgt := 71) hx hb dX7_refusalOfStoke_67 (by decide) ?_
              obtain rfl := hf
              rw [hQ]
              exact w_iret hx hb hr hlocks hP hK hS dX7_refusalOfStoke_71 rfl rfl
        clear hf
        refine lv_icmp_ge (tgt := 45) hx hb dX7_refusalOfStoke_38 (by decide) (fun h6 => ?_) (fun h6 => ?_)
        · rw [if_pos h6] at ejK8
          refine lv_iconst (v := 0) hx hb dX7_refusalOfStoke_45 (by decide) ?_
          obtain rfl := ejK8
          exact K8 _ _ _ hP hS (lv_sub hl [0, 2] rfl)
        · rw [if_neg h6] at ejK8
          refine lv_iconst (v := 1) hx hb dX7_refusalOfStoke_41 (by decide) ?_
          refine lv_goto (tgt := 46) hx hb dX7_refusalOfStoke_42 (by decide) ?_
          obtain rfl := ejK8
          exact K8 _ _ _ hP hS (lv_sub hl [0, 2] rfl)
      · rw [if_neg h5] at hf
        refine lv_iconst (v := 2) hx hb dX7_refusalOfStoke_21 (by decide) ?_
        obtain rfl := hf
        rw [hQ]
        exact w_iret hx hb hr hlocks hP hK hS dX7_refusalOfStoke_22 rfl rfl
  · rw [if_pos h3] at hf
    refine lv_iconst (v := 1) hx hb dX7_refusalOfStoke_8 (by decide) ?_
    obtain rfl := hf
    rw [hQ]
    exact w_iret hx hb hr hlocks hP hK hS dX7_refusalOfStoke_9 rfl rfl
abbrev rmX7_refusalOfPass : Room := { frames := 0, cells := 0, slots := 0, locals := 0 }
theorem iX7_refusalOfPass_X7 : ∀ w ∈ wsX70, w ∈ wsX7_refusalOfPass := by decide +kernel
set_option maxHeartbeats 4000000 in
set_option maxRecDepth 100000 in
theorem k7_refusalOfPass (l : Launch) {X : bkX} {b0 : Nat} (hX : XO X b0) {k : Nat} (hk : k < 6) (w : bkW) {f0 : bkA} {a1 : Int32} {res9 : Int32} (hf : m7_refusalOfPass f0 a1 = res9) : cI l yX7_refusalOfPass wsX7_refusalOfPass rmX7_refusalOfPass X b0 [.ref (xa X (51*k+0)), .int a1] (pk w k f0) res9 (pk w k f0) := by
  refine Met.ofW (cc := cX7_refusalOfPass) (maxL := 2) (ret := (some .int)) (by decide) rfl ?_
  intro p e s m args below meth c s₁ B hml hv
  obtain ⟨ha, hP, hK⟩ := hv
  have hx := B.exec
  have hb := B.bytes
  have hr := B.returns
  have hts := atoms_spec (ws := wsX7_refusalOfPass) B.pre
  have hown : s.vm.findClass RX7 = some m.cls := findClass_of_methodNamed B.named
  have hlocks := B.notSynchronized
  obtain ⟨R, hR⟩ : ∃ R, R = (headSpec wsX7_refusalOfPass rmX7_refusalOfPass).room := ⟨_, rfl⟩
  rw [← hR]
  have hR1 : R.frames = 0 := by rw [hR]; rfl
  have hR2 : R.locals = 0 := by rw [hR]; rfl
  obtain ⟨Q, hQ⟩ : ∃ Q : State → Prop, Q = MQ below (va_Qi (fun r' (_ : Unit) => r' = res9) (fun _ t => WU X (pk w k f0) t) (xF b0)) args s 0 0 (xF b0) := ⟨_, rfl⟩
  rw [← hQ]
  have hS : va_S (xF b0) s.heap s.heap [] := va_S.rf
  have hl := lv_entry ([.ref (xa X (51*k+0)), .int a1]) (n := 2) (Nat.le_of_ble_eq_true rfl)
  refine W.eq ((congrArg (fun z => entryFrame m z 2) ha).trans (lg_entry_eq m _ 2)) ?_
  generalize (lg_sl ([.ref (xa X (51*k+0)), .int a1]) ++ List.replicate (2 - (lg_sl ([.ref (xa X (51*k+0)), .int a1])).length) Slot.unset).toArray = ls at hl ⊢
  have hl : lv_has ls 2 [(0, .ref (xa X (51*k+0))), (1, .int a1)] := hl
  have hk_f71 := hts (.fieldLink RX7 71 "BakeTurns$State" "ticks" "I") (by decide +kernel)
  have hk_c123 := hts (.constant RX7 123 100000) (by decide +kernel)
  unfold m7_refusalOfPass at hf
  refine lv_iload_n hx hb dX7_refusalOfPass_0 rfl (lv_at hl 1 rfl) ?_
  refine lv_iconst (v := 1) hx hb dX7_refusalOfPass_1 (by decide) ?_
  refine lv_icmp_lt (tgt := 11) hx hb dX7_refusalOfPass_2 (by decide) (fun h1 => ?_) (fun h1 => ?_)
  · rw [if_pos h1] at hf
    refine lv_iconst (v := 2) hx hb dX7_refusalOfPass_11 (by decide) ?_
    obtain rfl := hf
    rw [hQ]
    exact w_iret hx hb hr hlocks hP hK hS dX7_refusalOfPass_12 rfl rfl
  · rw [if_neg h1] at hf
    refine lv_iload_n hx hb dX7_refusalOfPass_5 rfl (lv_at hl 1 rfl) ?_
    refine lv_bipush (v := 100) hx hb dX7_refusalOfPass_6 (by decide) ?_
    refine lv_icmp_le (tgt := 13) hx hb dX7_refusalOfPass_8 (by decide) (fun h2 => ?_) (fun h2 => ?_)
    · rw [if_pos h2] at hf
      refine lv_aload_n hx hb dX7_refusalOfPass_13 rfl (lv_at hl 0 rfl) ?_
      refine st_get (i0 := 0) hx hb hts iX7_refusalOfPass_X7 hown hP hK hk (by decide) rfl rfl 7 (by decide) hk_f71 rfl dX7_refusalOfPass_14 ?_
      refine lv_iload_n hx hb dX7_refusalOfPass_17 rfl (lv_at hl 1 rfl) ?_
      refine lv_iadd hx hb dX7_refusalOfPass_18 ?_
      refine lv_ldc (v := 100000) hx hb hown hk_c123 dX7_refusalOfPass_19 ?_
      refine lv_icmp_le (tgt := 28) hx hb dX7_refusalOfPass_21 (by decide) (fun h3 => ?_) (fun h3 => ?_)
      · rw [if_pos h3] at hf
        refine lv_iconst (v := 0) hx hb dX7_refusalOfPass_28 (by decide) ?_
        obtain rfl := hf
        rw [hQ]
        exact w_iret hx hb hr hlocks hP hK hS dX7_refusalOfPass_29 rfl rfl
      · rw [if_neg h3] at hf
        refine lv_iconst (v := 3) hx hb dX7_refusalOfPass_24 (by decide) ?_
        refine lv_goto (tgt := 29) hx hb dX7_refusalOfPass_25 (by decide) ?_
        obtain rfl := hf
        rw [hQ]
        exact w_iret hx hb hr hlocks hP hK hS dX7_refusalOfPass_29 rfl rfl
    · rw [if_neg h2] at hf
      refine lv_iconst (v := 2) hx hb dX7_refusalOfPass_11 (by decide) ?_
      obtain rfl := hf
      rw [hQ]
      exact w_iret hx hb hr hlocks hP hK hS dX7_refusalOfPass_12 rfl rfl
abbrev rmX7_newKind : Room := { frames := 1, cells := 0, slots := 0, locals := 22 }
theorem iX7_newKind_X4 : ∀ w ∈ wsX40, w ∈ wsX7_newKind := by decide +kernel
theorem iX7_newKind_X7 : ∀ w ∈ wsX70, w ∈ wsX7_newKind := by decide +kernel
set_option maxHeartbeats 4000000 in
set_option maxRecDepth 100000 in
theorem k7_newKind (l : Launch) {X : bkX} {b0 : Nat} (hX : XO X b0) {k : Nat} (hk : k < 6) (w : bkW) {f0 : bkA} {a1 : Int32} {a2 : Int32} {a3 : Int32} {a4 : Int32} {a5 : Int32} {res9 : Int32} {f9 : bkA} (hf : m7_newKind f0 a1 a2 a3 a4 a5 = (res9, f9)) : cI l yX7_newKind wsX7_newKind rmX7_newKind X b0 [.ref (xa X (51*k+0)), .int a1, .int a2, .int a3, .int a4, .int a5] (pk w k f0) res9 (pk w k f9) := by
  refine Met.ofW (cc := cX7_newKind) (maxL := 7) (ret := (some .int)) (by decide) rfl ?_
  intro p e s m args below meth c s₁ B hml hv
  obtain ⟨ha, hP, hK⟩ := hv
  have hx := B.exec
  have hb := B.bytes
  have hr := B.returns
  have hts := atoms_spec (ws := wsX7_newKind) B.pre
  have hown : s.vm.findClass RX7 = some m.cls := findClass_of_methodNamed B.named
  have hlocks := B.notSynchronized
  obtain ⟨R, hR⟩ : ∃ R, R = (headSpec wsX7_newKind rmX7_newKind).room := ⟨_, rfl⟩
  rw [← hR]
  have hR1 : R.frames = 1 := by rw [hR]; rfl
  have hR2 : R.locals = 22 := by rw [hR]; rfl
  obtain ⟨Q, hQ⟩ : ∃ Q : State → Prop, Q = MQ below (va_Qi (fun r' (_ : Unit) => r' = res9) (fun _ t => WU X (pk w k f9) t) (xF b0)) args s 0 0 (xF b0) := ⟨_, rfl⟩
  rw [← hQ]
  have hS : va_S (xF b0) s.heap s.heap [] := va_S.rf
  have hl := lv_entry ([.ref (xa X (51*k+0)), .int a1, .int a2, .int a3, .int a4, .int a5]) (n := 7) (Nat.le_of_ble_eq_true rfl)
  refine W.eq ((congrArg (fun z => entryFrame m z 7) ha).trans (lg_entry_eq m _ 7)) ?_
  generalize (lg_sl ([.ref (xa X (51*k+0)), .int a1, .int a2, .int a3, .int a4, .int a5]) ++ List.replicate (7 - (lg_sl ([.ref (xa X (51*k+0)), .int a1, .int a2, .int a3, .int a4, .int a5])).length) Slot.unset).toArray = ls at hl ⊢
  have hl : lv_has ls 7 [(0, .ref (xa X (51*k+0))), (1, .int a1), (2, .int a2), (3, .int a3), (4, .int a4), (5, .int a5)] := hl
  have hk_f12 := hts (.fieldLink RX7 12 "BakeTurns$State" "kinds" "LBakeTurns$Kinds;") (by decide +kernel)
  have hk_f92 := hts (.fieldLink RX7 92 "BakeTurns$Kinds" "count" "I") (by decide +kernel)
  have hk_f124 := hts (.fieldLink RX7 124 "BakeTurns$Kinds" "least" "LBakeTurns$Row;") (by decide +kernel)
  have hc_127 := (cwV 2 hts gX7_newKind_X6_put rfl rfl rfl (by decide +kernel) ⟨by rw [hR1]; exact Nat.le_of_ble_eq_true rfl, by rw [hR2]; exact Nat.le_of_ble_eq_true rfl⟩ : CallW R s args RX7 RX6 127 yX6_put cX6_put 3 none wsX6_put rmX6_put 0 0 2)
  have hk_f131 := hts (.fieldLink RX7 131 "BakeTurns$Kinds" "greatest" "LBakeTurns$Row;") (by decide +kernel)
  have hk_f134 := hts (.fieldLink RX7 134 "BakeTurns$Kinds" "bake" "LBakeTurns$Row;") (by decide +kernel)
  have hk_f137 := hts (.fieldLink RX7 137 "BakeTurns$Kinds" "ripen" "LBakeTurns$Row;") (by decide +kernel)
  have hk_f140 := hts (.fieldLink RX7 140 "BakeTurns$Kinds" "keep" "LBakeTurns$Row;") (by decide +kernel)
  unfold m7_newKind at hf
  refine lv_aload_n hx hb dX7_newKind_0 rfl (lv_at hl 0 rfl) ?_
  refine st_get (i0 := 0) hx hb hts iX7_newKind_X7 hown hP hK hk (by decide) rfl rfl 0 (by decide) hk_f12 rfl dX7_newKind_1 ?_
  refine st_get (i0 := 1) hx hb hts iX7_newKind_X4 hown hP hK hk (by decide) rfl rfl 0 (by decide) hk_f92 rfl dX7_newKind_4 ?_
  refine lv_topi (fun x1 ex1 => ?_)
  replace hf := ltn_s ex1 hf
  refine lv_istore (lv' := [(6, .int x1), (0, .ref (xa X (51*k+0))), (1, .int a1), (2, .int a2), (3, .int a3), (4, .int a4), (5, .int a5)]) hx hb dX7_newKind_7 hl (by decide) rfl (fun ls hl => ?_)
  refine lv_aload_n hx hb dX7_newKind_9 rfl (lv_at hl 1 rfl) ?_
  refine st_get (i0 := 0) hx hb hts iX7_newKind_X7 hown hP hK hk (by decide) rfl rfl 0 (by decide) hk_f12 rfl dX7_newKind_10 ?_
  refine st_get (i0 := 1) hx hb hts iX7_newKind_X4 hown hP hK hk (by decide) rfl rfl 1 (by decide) hk_f124 rfl dX7_newKind_13 ?_
  refine lv_iload hx hb dX7_newKind_16 (lv_at hl 0 rfl) ?_
  refine lv_iload_n hx hb dX7_newKind_18 rfl (lv_at hl 2 rfl) ?_
  refine st_putr hX (j := 0) (n := 5) ⟨hx, hb, hml, hown, hts⟩ hP hK hS hk (by decide) rfl hc_127 hl.1 (Nat.le_of_ble_eq_true rfl) dX7_newKind_19 (fun f2 ef2 H locs hP hS => ?_)
  replace hf := ltn_s ef2 hf
  refine lv_aload_n hx hb dX7_newKind_22 rfl (lv_at hl 1 rfl) ?_
  refine st_get (i0 := 0) hx hb hts iX7_newKind_X7 hown hP hK hk (by decide) rfl rfl 0 (by decide) hk_f12 rfl dX7_newKind_23 ?_
  refine st_get (i0 := 1) hx hb hts iX7_newKind_X4 hown hP hK hk (by decide) rfl rfl 2 (by decide) hk_f131 rfl dX7_newKind_26 ?_
  refine lv_iload hx hb dX7_newKind_29 (lv_at hl 0 rfl) ?_
  refine lv_iload_n hx hb dX7_newKind_31 rfl (lv_at hl 3 rfl) ?_
  refine st_putr hX (j := 1) (n := 5) ⟨hx, hb, hml, hown, hts⟩ hP hK hS hk (by decide) rfl hc_127 hl.1 (Nat.le_of_ble_eq_true rfl) dX7_newKind_32 (fun f3 ef3 H locs hP hS => ?_)
  replace hf := ltn_s ef3 hf
  refine lv_aload_n hx hb dX7_newKind_35 rfl (lv_at hl 1 rfl) ?_
  refine st_get (i0 := 0) hx hb hts iX7_newKind_X7 hown hP hK hk (by decide) rfl rfl 0 (by decide) hk_f12 rfl dX7_newKind_36 ?_
  refine st_get (i0 := 1) hx hb hts iX7_newKind_X4 hown hP hK hk (by decide) rfl rfl 3 (by decide) hk_f134 rfl dX7_newKind_39 ?_
  refine lv_iload hx hb dX7_newKind_42 (lv_at hl 0 rfl) ?_
  refine lv_iload_n hx hb dX7_newKind_44 rfl (lv_at hl 4 rfl) ?_
  refine st_putr hX (j := 2) (n := 5) ⟨hx, hb, hml, hown, hts⟩ hP hK hS hk (by decide) rfl hc_127 hl.1 (Nat.le_of_ble_eq_true rfl) dX7_newKind_45 (fun f4 ef4 H locs hP hS => ?_)
  replace hf := ltn_s ef4 hf
  refine lv_aload_n hx hb dX7_newKind_48 rfl (lv_at hl 1 rfl) ?_
  refine st_get (i0 := 0) hx hb hts iX7_newKind_X7 hown hP hK hk (by decide) rfl rfl 0 (by decide) hk_f12 rfl dX7_newKind_49 ?_
  refine st_get (i0 := 1) hx hb hts iX7_newKind_X4 hown hP hK hk (by decide) rfl rfl 4 (by decide) hk_f137 rfl dX7_newKind_52 ?_
  refine lv_iload hx hb dX7_newKind_55 (lv_at hl 0 rfl) ?_
  refine lv_iload hx hb dX7_newKind_57 (lv_at hl 5 rfl) ?_
  refine st_putr hX (j := 3) (n := 5) ⟨hx, hb, hml, hown, hts⟩ hP hK hS hk (by decide) rfl hc_127 hl.1 (Nat.le_of_ble_eq_true rfl) dX7_newKind_59 (fun f5 ef5 H locs hP hS => ?_)
  replace hf := ltn_s ef5 hf
  refine lv_aload_n hx hb dX7_newKind_62 rfl (lv_at hl 1 rfl) ?_
  refine st_get (i0 := 0) hx hb hts iX7_newKind_X7 hown hP hK hk (by decide) rfl rfl 0 (by decide) hk_f12 rfl dX7_newKind_63 ?_
  refine st_get (i0 := 1) hx hb hts iX7_newKind_X4 hown hP hK hk (by decide) rfl rfl 5 (by decide) hk_f140 rfl dX7_newKind_66 ?_
  refine lv_iload hx hb dX7_newKind_69 (lv_at hl 0 rfl) ?_
  refine lv_iload hx hb dX7_newKind_71 (lv_at hl 6 rfl) ?_
  refine st_putr hX (j := 4) (n := 5) ⟨hx, hb, hml, hown, hts⟩ hP hK hS hk (by decide) rfl hc_127 hl.1 (Nat.le_of_ble_eq_true rfl) dX7_newKind_73 (fun f6 ef6 H locs hP hS => ?_)
  replace hf := ltn_s ef6 hf
  refine lv_aload_n hx hb dX7_newKind_76 rfl (lv_at hl 1 rfl) ?_
  refine st_get (i0 := 0) hx hb hts iX7_newKind_X7 hown hP hK hk (by decide) rfl rfl 0 (by decide) hk_f12 rfl dX7_newKind_77 ?_
  refine lv_iload hx hb dX7_newKind_80 (lv_at hl 0 rfl) ?_
  refine lv_iconst (v := 1) hx hb dX7_newKind_82 (by decide) ?_
  refine lv_iadd hx hb dX7_newKind_83 ?_
  refine st_put (i0 := 1) hx hb hts iX7_newKind_X4 tyX4 tyX4_ok nmX4 hown hX hP hK hS hk (by decide) rfl rfl 0 (by decide) hk_f92 rfl rfl (Nat.le_of_ble_eq_true rfl) es_0 dX7_newKind_84 (fun f7 ef7 H locs hP hS => ?_)
  replace hf := ltn_s ef7 hf
  refine lv_iload hx hb dX7_newKind_87 (lv_at hl 0 rfl) ?_
  simp only [Prod.mk.injEq] at hf
  obtain ⟨rfl, rfl⟩ := hf
  rw [hQ]
  exact w_iret hx hb hr hlocks hP hK hS dX7_newKind_89 rfl rfl
abbrev rmX7_newHouse : Room := { frames := 0, cells := 0, slots := 0, locals := 0 }
theorem iX7_newHouse_X3 : ∀ w ∈ wsX30, w ∈ wsX7_newHouse := by decide +kernel
theorem iX7_newHouse_X7 : ∀ w ∈ wsX70, w ∈ wsX7_newHouse := by decide +kernel
set_option maxHeartbeats 4000000 in
set_option maxRecDepth 100000 in
theorem k7_newHouse (l : Launch) {X : bkX} {b0 : Nat} (hX : XO X b0) {k : Nat} (hk : k < 6) (w : bkW) {f0 : bkA} {res9 : Int32} {f9 : bkA} (hf : m7_newHouse f0 = (res9, f9)) : cI l yX7_newHouse wsX7_newHouse rmX7_newHouse X b0 [.ref (xa X (51*k+0))] (pk w k f0) res9 (pk w k f9) := by
  refine Met.ofW (cc := cX7_newHouse) (maxL := 2) (ret := (some .int)) (by decide) rfl ?_
  intro p e s m args below meth c s₁ B hml hv
  obtain ⟨ha, hP, hK⟩ := hv
  have hx := B.exec
  have hb := B.bytes
  have hr := B.returns
  have hts := atoms_spec (ws := wsX7_newHouse) B.pre
  have hown : s.vm.findClass RX7 = some m.cls := findClass_of_methodNamed B.named
  have hlocks := B.notSynchronized
  obtain ⟨R, hR⟩ : ∃ R, R = (headSpec wsX7_newHouse rmX7_newHouse).room := ⟨_, rfl⟩
  rw [← hR]
  have hR1 : R.frames = 0 := by rw [hR]; rfl
  have hR2 : R.locals = 0 := by rw [hR]; rfl
  obtain ⟨Q, hQ⟩ : ∃ Q : State → Prop, Q = MQ below (va_Qi (fun r' (_ : Unit) => r' = res9) (fun _ t => WU X (pk w k f9) t) (xF b0)) args s 0 0 (xF b0) := ⟨_, rfl⟩
  rw [← hQ]
  have hS : va_S (xF b0) s.heap s.heap [] := va_S.rf
  have hl := lv_entry ([.ref (xa X (51*k+0))]) (n := 2) (Nat.le_of_ble_eq_true rfl)
  refine W.eq ((congrArg (fun z => entryFrame m z 2) ha).trans (lg_entry_eq m _ 2)) ?_
  generalize (lg_sl ([.ref (xa X (51*k+0))]) ++ List.replicate (2 - (lg_sl ([.ref (xa X (51*k+0))])).length) Slot.unset).toArray = ls at hl ⊢
  have hl : lv_has ls 2 [(0, .ref (xa X (51*k+0)))] := hl
  have hk_f21 := hts (.fieldLink RX7 21 "BakeTurns$State" "houses" "LBakeTurns$Houses;") (by decide +kernel)
  have hk_f95 := hts (.fieldLink RX7 95 "BakeTurns$Houses" "count" "I") (by decide +kernel)
  unfold m7_newHouse at hf
  refine lv_aload_n hx hb dX7_newHouse_0 rfl (lv_at hl 0 rfl) ?_
  refine st_get (i0 := 0) hx hb hts iX7_newHouse_X7 hown hP hK hk (by decide) rfl rfl 1 (by decide) hk_f21 rfl dX7_newHouse_1 ?_
  refine st_get (i0 := 2) hx hb hts iX7_newHouse_X3 hown hP hK hk (by decide) rfl rfl 0 (by decide) hk_f95 rfl dX7_newHouse_4 ?_
  refine lv_topi (fun x1 ex1 => ?_)
  replace hf := ltn_s ex1 hf
  refine lv_istore_n (lv' := [(1, .int x1), (0, .ref (xa X (51*k+0)))]) hx hb dX7_newHouse_7 rfl hl (by decide) rfl (fun ls hl => ?_)
  refine lv_aload_n hx hb dX7_newHouse_8 rfl (lv_at hl 1 rfl) ?_
  refine st_get (i0 := 0) hx hb hts iX7_newHouse_X7 hown hP hK hk (by decide) rfl rfl 1 (by decide) hk_f21 rfl dX7_newHouse_9 ?_
  refine lv_iload_n hx hb dX7_newHouse_12 rfl (lv_at hl 0 rfl) ?_
  refine lv_iconst (v := 1) hx hb dX7_newHouse_13 (by decide) ?_
  refine lv_iadd hx hb dX7_newHouse_14 ?_
  refine st_put (i0 := 2) hx hb hts iX7_newHouse_X3 tyX3 tyX3_ok nmX3 hown hX hP hK hS hk (by decide) rfl rfl 0 (by decide) hk_f95 rfl rfl (Nat.le_of_ble_eq_true rfl) es_1 dX7_newHouse_15 (fun f2 ef2 H locs hP hS => ?_)
  replace hf := ltn_s ef2 hf
  refine lv_iload_n hx hb dX7_newHouse_18 rfl (lv_at hl 0 rfl) ?_
  simp only [Prod.mk.injEq] at hf
  obtain ⟨rfl, rfl⟩ := hf
  rw [hQ]
  exact w_iret hx hb hr hlocks hP hK hS dX7_newHouse_19 rfl rfl
abbrev rmX7_newDough : Room := { frames := 1, cells := 0, slots := 0, locals := 22 }
theorem iX7_newDough_X1 : ∀ w ∈ wsX10, w ∈ wsX7_newDough := by decide +kernel
theorem iX7_newDough_X7 : ∀ w ∈ wsX70, w ∈ wsX7_newDough := by decide +kernel
set_option maxHeartbeats 4000000 in
set_option maxRecDepth 100000 in
theorem k7_newDough (l : Launch) {X : bkX} {b0 : Nat} (hX : XO X b0) {k : Nat} (hk : k < 6) (w : bkW) {f0 : bkA} {a1 : Int32} {a2 : Int32} {a3 : Int32} {res9 : Int32} {f9 : bkA} (hf : m7_newDough f0 a1 a2 a3 = (res9, f9)) : cI l yX7_newDough wsX7_newDough rmX7_newDough X b0 [.ref (xa X (51*k+0)), .int a1, .int a2, .int a3] (pk w k f0) res9 (pk w k f9) := by
  refine Met.ofW (cc := cX7_newDough) (maxL := 5) (ret := (some .int)) (by decide) rfl ?_
  intro p e s m args below meth c s₁ B hml hv
  obtain ⟨ha, hP, hK⟩ := hv
  have hx := B.exec
  have hb := B.bytes
  have hr := B.returns
  have hts := atoms_spec (ws := wsX7_newDough) B.pre
  have hown : s.vm.findClass RX7 = some m.cls := findClass_of_methodNamed B.named
  have hlocks := B.notSynchronized
  obtain ⟨R, hR⟩ : ∃ R, R = (headSpec wsX7_newDough rmX7_newDough).room := ⟨_, rfl⟩
  rw [← hR]
  have hR1 : R.frames = 1 := by rw [hR]; rfl
  have hR2 : R.locals = 22 := by rw [hR]; rfl
  obtain ⟨Q, hQ⟩ : ∃ Q : State → Prop, Q = MQ below (va_Qi (fun r' (_ : Unit) => r' = res9) (fun _ t => WU X (pk w k f9) t) (xF b0)) args s 0 0 (xF b0) := ⟨_, rfl⟩
  rw [← hQ]
  have hS : va_S (xF b0) s.heap s.heap [] := va_S.rf
  have hl := lv_entry ([.ref (xa X (51*k+0)), .int a1, .int a2, .int a3]) (n := 5) (Nat.le_of_ble_eq_true rfl)
  refine W.eq ((congrArg (fun z => entryFrame m z 5) ha).trans (lg_entry_eq m _ 5)) ?_
  generalize (lg_sl ([.ref (xa X (51*k+0)), .int a1, .int a2, .int a3]) ++ List.replicate (5 - (lg_sl ([.ref (xa X (51*k+0)), .int a1, .int a2, .int a3])).length) Slot.unset).toArray = ls at hl ⊢
  have hl : lv_has ls 5 [(0, .ref (xa X (51*k+0))), (1, .int a1), (2, .int a2), (3, .int a3)] := hl
  have hk_f28 := hts (.fieldLink RX7 28 "BakeTurns$State" "doughs" "LBakeTurns$Doughs;") (by decide +kernel)
  have hk_f96 := hts (.fieldLink RX7 96 "BakeTurns$Doughs" "count" "I") (by decide +kernel)
  have hk_f143 := hts (.fieldLink RX7 143 "BakeTurns$Doughs" "houseOf" "LBakeTurns$Row;") (by decide +kernel)
  have hc_127 := (cwV 2 hts gX7_newDough_X6_put rfl rfl rfl (by decide +kernel) ⟨by rw [hR1]; exact Nat.le_of_ble_eq_true rfl, by rw [hR2]; exact Nat.le_of_ble_eq_true rfl⟩ : CallW R s args RX7 RX6 127 yX6_put cX6_put 3 none wsX6_put rmX6_put 0 0 2)
  have hk_f146 := hts (.fieldLink RX7 146 "BakeTurns$Doughs" "kindOf" "LBakeTurns$Row;") (by decide +kernel)
  have hk_f149 := hts (.fieldLink RX7 149 "BakeTurns$Doughs" "loaves" "LBakeTurns$Row;") (by decide +kernel)
  have hk_f152 := hts (.fieldLink RX7 152 "BakeTurns$Doughs" "age" "LBakeTurns$Row;") (by decide +kernel)
  have hk_f101 := hts (.fieldLink RX7 101 "BakeTurns$Doughs" "phase" "LBakeTurns$Row;") (by decide +kernel)
  have hk_f155 := hts (.fieldLink RX7 155 "BakeTurns$Doughs" "lastReason" "LBakeTurns$Row;") (by decide +kernel)
  have hk_f108 := hts (.fieldLink RX7 108 "BakeTurns$Doughs" "loadedAt" "LBakeTurns$Row;") (by decide +kernel)
  have hk_f158 := hts (.fieldLink RX7 158 "BakeTurns$Doughs" "burnt" "LBakeTurns$Row;") (by decide +kernel)
  have hk_f44 := hts (.fieldLink RX7 44 "BakeTurns$State" "inLine" "LBakeTurns$Row;") (by decide +kernel)
  have hk_f64 := hts (.fieldLink RX7 64 "BakeTurns$State" "waiting" "I") (by decide +kernel)
  unfold m7_newDough at hf
  refine lv_aload_n hx hb dX7_newDough_0 rfl (lv_at hl 0 rfl) ?_
  refine st_get (i0 := 0) hx hb hts iX7_newDough_X7 hown hP hK hk (by decide) rfl rfl 2 (by decide) hk_f28 rfl dX7_newDough_1 ?_
  refine st_get (i0 := 3) hx hb hts iX7_newDough_X1 hown hP hK hk (by decide) rfl rfl 0 (by decide) hk_f96 rfl dX7_newDough_4 ?_
  refine lv_topi (fun x1 ex1 => ?_)
  replace hf := ltn_s ex1 hf
  refine lv_istore (lv' := [(4, .int x1), (0, .ref (xa X (51*k+0))), (1, .int a1), (2, .int a2), (3, .int a3)]) hx hb dX7_newDough_7 hl (by decide) rfl (fun ls hl => ?_)
  refine lv_aload_n hx hb dX7_newDough_9 rfl (lv_at hl 1 rfl) ?_
  refine st_get (i0 := 0) hx hb hts iX7_newDough_X7 hown hP hK hk (by decide) rfl rfl 2 (by decide) hk_f28 rfl dX7_newDough_10 ?_
  refine st_get (i0 := 3) hx hb hts iX7_newDough_X1 hown hP hK hk (by decide) rfl rfl 1 (by decide) hk_f143 rfl dX7_newDough_13 ?_
  refine lv_iload hx hb dX7_newDough_16 (lv_at hl 0 rfl) ?_
  refine lv_iload_n hx hb dX7_newDough_18 rfl (lv_at hl 2 rfl) ?_
  refine st_putr hX (j := 11) (n := 16) ⟨hx, hb, hml, hown, hts⟩ hP hK hS hk (by decide) rfl hc_127 hl.1 (Nat.le_of_ble_eq_true rfl) dX7_newDough_19 (fun f2 ef2 H locs hP hS => ?_)
  replace hf := ltn_s ef2 hf
  refine lv_aload_n hx hb dX7_newDough_22 rfl (lv_at hl 1 rfl) ?_
  refine st_get (i0 := 0) hx hb hts iX7_newDough_X7 hown hP hK hk (by decide) rfl rfl 2 (by decide) hk_f28 rfl dX7_newDough_23 ?_
  refine st_get (i0 := 3) hx hb hts iX7_newDough_X1 hown hP hK hk (by decide) rfl rfl 2 (by decide) hk_f146 rfl dX7_newDough_26 ?_
  refine lv_iload hx hb dX7_newDough_29 (lv_at hl 0 rfl) ?_
  refine lv_iload_n hx hb dX7_newDough_31 rfl (lv_at hl 3 rfl) ?_
  refine st_putr hX (j := 12) (n := 16) ⟨hx, hb, hml, hown, hts⟩ hP hK hS hk (by decide) rfl hc_127 hl.1 (Nat.le_of_ble_eq_true rfl) dX7_newDough_32 (fun f3 ef3 H locs hP hS => ?_)
  replace hf := ltn_s ef3 hf
  refine lv_aload_n hx hb dX7_newDough_35 rfl (lv_at hl 1 rfl) ?_
  refine st_get (i0 := 0) hx hb hts iX7_newDough_X7 hown hP hK hk (by decide) rfl rfl 2 (by decide) hk_f28 rfl dX7_newDough_36 ?_
  refine st_get (i0 := 3) hx hb hts iX7_newDough_X1 hown hP hK hk (by decide) rfl rfl 3 (by decide) hk_f149 rfl dX7_newDough_39 ?_
  refine lv_iload hx hb dX7_newDough_42 (lv_at hl 0 rfl) ?_
  refine lv_iload_n hx hb dX7_newDough_44 rfl (lv_at hl 4 rfl) ?_
  refine st_putr hX (j := 13) (n := 16) ⟨hx, hb, hml, hown, hts⟩ hP hK hS hk (by decide) rfl hc_127 hl.1 (Nat.le_of_ble_eq_true rfl) dX7_newDough_45 (fun f4 ef4 H locs hP hS => ?_)
  replace hf := ltn_s ef4 hf
  refine lv_aload_n hx hb dX7_newDough_48 rfl (lv_at hl 1 rfl) ?_
  refine st_get (i0 := 0) hx hb hts iX7_newDough_X7 hown hP hK hk (by decide) rfl rfl 2 (by decide) hk_f28 rfl dX7_newDough_49 ?_
  refine st_get (i0 := 3) hx hb hts iX7_newDough_X1 hown hP hK hk (by decide) rfl rfl 4 (by decide) hk_f152 rfl dX7_newDough_52 ?_
  refine lv_iload hx hb dX7_newDough_55 (lv_at hl 0 rfl) ?_
  refine lv_iconst (v := 0) hx hb dX7_newDough_57 (by decide) ?_
  refine st_putr hX (j := 14) (n := 16) ⟨hx, hb, hml, hown, hts⟩ hP hK hS hk (by decide) rfl hc_127 hl.1 (Nat.le_of_ble_eq_true rfl) dX7_newDough_58 (fun f5 ef5 H locs hP hS => ?_)
  replace hf := ltn_s ef5 hf
  refine lv_aload_n hx hb dX7_newDough_61 rfl (lv_at hl 1 rfl) ?_
  refine st_get (i0 := 0) hx hb hts iX7_newDough_X7 hown hP hK hk (by decide) rfl rfl 2 (by decide) hk_f28 rfl dX7_newDough_62 ?_
  refine st_get (i0 := 3) hx hb hts iX7_newDough_X1 hown hP hK hk (by decide) rfl rfl 5 (by decide) hk_f101 rfl dX7_newDough_65 ?_
  refine lv_iload hx hb dX7_newDough_68 (lv_at hl 0 rfl) ?_
  refine lv_iconst (v := 0) hx hb dX7_newDough_70 (by decide) ?_
  refine st_putr hX (j := 15) (n := 16) ⟨hx, hb, hml, hown, hts⟩ hP hK hS hk (by decide) rfl hc_127 hl.1 (Nat.le_of_ble_eq_true rfl) dX7_newDough_71 (fun f6 ef6 H locs hP hS => ?_)
  replace hf := ltn_s ef6 hf
  refine lv_aload_n hx hb dX7_newDough_74 rfl (lv_at hl 1 rfl) ?_
  refine st_get (i0 := 0) hx hb hts iX7_newDough_X7 hown hP hK hk (by decide) rfl rfl 2 (by decide) hk_f28 rfl dX7_newDough_75 ?_
  refine st_get (i0 := 3) hx hb hts iX7_newDough_X1 hown hP hK hk (by decide) rfl rfl 6 (by decide) hk_f155 rfl dX7_newDough_78 ?_
  refine lv_iload hx hb dX7_newDough_81 (lv_at hl 0 rfl) ?_
  refine lv_iconst (v := 0) hx hb dX7_newDough_83 (by decide) ?_
  refine st_putr hX (j := 16) (n := 16) ⟨hx, hb, hml, hown, hts⟩ hP hK hS hk (by decide) rfl hc_127 hl.1 (Nat.le_of_ble_eq_true rfl) dX7_newDough_84 (fun f7 ef7 H locs hP hS => ?_)
  replace hf := ltn_s ef7 hf
  refine lv_aload_n hx hb dX7_newDough_87 rfl (lv_at hl 1 rfl) ?_
  refine st_get (i0 := 0) hx hb hts iX7_newDough_X7 hown hP hK hk (by decide) rfl rfl 2 (by decide) hk_f28 rfl dX7_newDough_88 ?_
  refine st_get (i0 := 3) hx hb hts iX7_newDough_X1 hown hP hK hk (by decide) rfl rfl 7 (by decide) hk_f108 rfl dX7_newDough_91 ?_
  refine lv_iload hx hb dX7_newDough_94 (lv_at hl 0 rfl) ?_
  refine lv_iconst (v := (-1)) hx hb dX7_newDough_96 (by decide) ?_
  refine st_putr hX (j := 17) (n := 16) ⟨hx, hb, hml, hown, hts⟩ hP hK hS hk (by decide) rfl hc_127 hl.1 (Nat.le_of_ble_eq_true rfl) dX7_newDough_97 (fun f8 ef8 H locs hP hS => ?_)
  replace hf := ltn_s ef8 hf
  refine lv_aload_n hx hb dX7_newDough_100 rfl (lv_at hl 1 rfl) ?_
  refine st_get (i0 := 0) hx hb hts iX7_newDough_X7 hown hP hK hk (by decide) rfl rfl 2 (by decide) hk_f28 rfl dX7_newDough_101 ?_
  refine st_get (i0 := 3) hx hb hts iX7_newDough_X1 hown hP hK hk (by decide) rfl rfl 8 (by decide) hk_f158 rfl dX7_newDough_104 ?_
  refine lv_iload hx hb dX7_newDough_107 (lv_at hl 0 rfl) ?_
  refine lv_iconst (v := 0) hx hb dX7_newDough_109 (by decide) ?_
  refine st_putr hX (j := 18) (n := 16) ⟨hx, hb, hml, hown, hts⟩ hP hK hS hk (by decide) rfl hc_127 hl.1 (Nat.le_of_ble_eq_true rfl) dX7_newDough_110 (fun f9 ef9 H locs hP hS => ?_)
  replace hf := ltn_s ef9 hf
  refine lv_aload_n hx hb dX7_newDough_113 rfl (lv_at hl 1 rfl) ?_
  refine st_get (i0 := 0) hx hb hts iX7_newDough_X7 hown hP hK hk (by decide) rfl rfl 2 (by decide) hk_f28 rfl dX7_newDough_114 ?_
  refine lv_iload hx hb dX7_newDough_117 (lv_at hl 0 rfl) ?_
  refine lv_iconst (v := 1) hx hb dX7_newDough_119 (by decide) ?_
  refine lv_iadd hx hb dX7_newDough_120 ?_
  refine st_put (i0 := 3) hx hb hts iX7_newDough_X1 tyX1 tyX1_ok nmX1 hown hX hP hK hS hk (by decide) rfl rfl 0 (by decide) hk_f96 rfl rfl (Nat.le_of_ble_eq_true rfl) es_2 dX7_newDough_121 (fun f10 ef10 H locs hP hS => ?_)
  replace hf := ltn_s ef10 hf
  refine lv_aload_n hx hb dX7_newDough_124 rfl (lv_at hl 1 rfl) ?_
  refine st_get (i0 := 0) hx hb hts iX7_newDough_X7 hown hP hK hk (by decide) rfl rfl 4 (by decide) hk_f44 rfl dX7_newDough_125 ?_
  refine lv_aload_n hx hb dX7_newDough_128 rfl (lv_at hl 1 rfl) ?_
  refine st_get (i0 := 0) hx hb hts iX7_newDough_X7 hown hP hK hk (by decide) rfl rfl 5 (by decide) hk_f64 rfl dX7_newDough_129 ?_
  refine lv_iload hx hb dX7_newDough_132 (lv_at hl 0 rfl) ?_
  refine st_putr hX (j := 22) (n := 16) ⟨hx, hb, hml, hown, hts⟩ hP hK hS hk (by decide) rfl hc_127 hl.1 (Nat.le_of_ble_eq_true rfl) dX7_newDough_134 (fun f11 ef11 H locs hP hS => ?_)
  replace hf := ltn_s ef11 hf
  refine lv_aload_n hx hb dX7_newDough_137 rfl (lv_at hl 1 rfl) ?_
  refine lv_dup hx hb dX7_newDough_138 rfl ?_
  refine st_get (i0 := 0) hx hb hts iX7_newDough_X7 hown hP hK hk (by decide) rfl rfl 5 (by decide) hk_f64 rfl dX7_newDough_139 ?_
  refine lv_iconst (v := 1) hx hb dX7_newDough_142 (by decide) ?_
  refine lv_iadd hx hb dX7_newDough_143 ?_
  refine st_put (i0 := 0) hx hb hts iX7_newDough_X7 tyX7 tyX7_ok nmX7 hown hX hP hK hS hk (by decide) rfl rfl 5 (by decide) hk_f64 rfl rfl (Nat.le_of_ble_eq_true rfl) es_3 dX7_newDough_144 (fun f12 ef12 H locs hP hS => ?_)
  replace hf := ltn_s ef12 hf
  refine lv_iload hx hb dX7_newDough_147 (lv_at hl 0 rfl) ?_
  simp only [Prod.mk.injEq] at hf
  obtain ⟨rfl, rfl⟩ := hf
  rw [hQ]
  exact w_iret hx hb hr hlocks hP hK hS dX7_newDough_149 rfl rfl
abbrev rmX7_renumber : Room := { frames := 1, cells := 0, slots := 0, locals := 22 }
theorem iX7_renumber_X5 : ∀ w ∈ wsX50, w ∈ wsX7_renumber := by decide +kernel
theorem iX7_renumber_X7 : ∀ w ∈ wsX70, w ∈ wsX7_renumber := by decide +kernel
set_option maxHeartbeats 4000000 in
set_option maxRecDepth 100000 in
theorem k7_renumber (l : Launch) {X : bkX} {b0 : Nat} (hX : XO X b0) {k : Nat} (hk : k < 6) (w : bkW) {N : Nat} {f0 : bkA} {a1 : Int32} {a2 : Int32} {f9 : bkA} (hf : m7_renumber N f0 a1 a2 = some f9) : cV l yX7_renumber wsX7_renumber rmX7_renumber X b0 [.ref (xa X (51*k+0)), .int a1, .int a2] (pk w k f0) (pk w k f9) := by
  refine Met.ofW (cc := cX7_renumber) (maxL := 4) (ret := none) (by decide) rfl ?_
  intro p e s m args below meth c s₁ B hml hv
  obtain ⟨ha, hP, hK⟩ := hv
  have hx := B.exec
  have hb := B.bytes
  have hr := B.returns
  have hts := atoms_spec (ws := wsX7_renumber) B.pre
  have hown : s.vm.findClass RX7 = some m.cls := findClass_of_methodNamed B.named
  have hlocks := B.notSynchronized
  obtain ⟨R, hR⟩ : ∃ R, R = (headSpec wsX7_renumber rmX7_renumber).room := ⟨_, rfl⟩
  rw [← hR]
  have hR1 : R.frames = 1 := by rw [hR]; rfl
  have hR2 : R.locals = 22 := by rw [hR]; rfl
  obtain ⟨Q, hQ⟩ : ∃ Q : State → Prop, Q = MQ below (va_Qv (fun (_ : Unit) => True) (fun _ t => WU X (pk w k f9) t) (xF b0)) args s 0 0 (xF b0) := ⟨_, rfl⟩
  rw [← hQ]
  have hS : va_S (xF b0) s.heap s.heap [] := va_S.rf
  have hl := lv_entry ([.ref (xa X (51*k+0)), .int a1, .int a2]) (n := 4) (Nat.le_of_ble_eq_true rfl)
  refine W.eq ((congrArg (fun z => entryFrame m z 4) ha).trans (lg_entry_eq m _ 4)) ?_
  generalize (lg_sl ([.ref (xa X (51*k+0)), .int a1, .int a2]) ++ List.replicate (4 - (lg_sl ([.ref (xa X (51*k+0)), .int a1, .int a2])).length) Slot.unset).toArray = ls at hl ⊢
  have hl : lv_has ls 4 [(0, .ref (xa X (51*k+0))), (1, .int a1), (2, .int a2)] := hl
  have hk_f64 := hts (.fieldLink RX7 64 "BakeTurns$State" "waiting" "I") (by decide +kernel)
  have hk_f44 := hts (.fieldLink RX7 44 "BakeTurns$State" "inLine" "LBakeTurns$Row;") (by decide +kernel)
  have hc_104 := (cwV 1 hts gX7_renumber_X6_at rfl rfl rfl (by decide +kernel) ⟨by rw [hR1]; exact Nat.le_of_ble_eq_true rfl, by rw [hR2]; exact Nat.le_of_ble_eq_true rfl⟩ : CallW R s args RX7 RX6 104 yX6_at cX6_at 2 (some .int) wsX6_at rmX6_at 0 0 1)
  have hc_127 := (cwV 2 hts gX7_renumber_X6_put rfl rfl rfl (by decide +kernel) ⟨by rw [hR1]; exact Nat.le_of_ble_eq_true rfl, by rw [hR2]; exact Nat.le_of_ble_eq_true rfl⟩ : CallW R s args RX7 RX6 127 yX6_put cX6_put 3 none wsX6_put rmX6_put 0 0 2)
  have hk_f35 := hts (.fieldLink RX7 35 "BakeTurns$State" "places" "LBakeTurns$Places;") (by decide +kernel)
  have hk_f167 := hts (.fieldLink RX7 167 "BakeTurns$Places" "doughOn" "LBakeTurns$Row;") (by decide +kernel)
  unfold m7_renumber at hf
  refine lv_iconst (v := 0) hx hb dX7_renumber_0 (by decide) ?_
  refine lv_istore_n (lv' := [(3, .int 0), (0, .ref (xa X (51*k+0))), (1, .int a1), (2, .int a2)]) hx hb dX7_renumber_1 rfl hl (by decide) rfl (fun ls hl => ?_)
  have L2 : ∀ (n : Nat) (x2 : Int32) (x3 : Int32) (x4 : Int32) (f5 : bkA) (of6 : bkA) (H : Heap) (locs : List Loc) (ls : Array Slot), m7_renumber_L2 N n x2 x3 x4 f5 = some of6 → HW X (pk w k f5) H → va_S (xF b0) s.heap H locs → lv_has ls 4 [(0, .ref (xa X (51*k+0))), (1, .int x2), (2, .int x3), (3, .int x4)] → (∀ (H1 : Heap) (locs1 : List Loc) (ls1 : Array Slot), HW X (pk w k of6) H1 → va_S (xF b0) s.heap H1 locs1 → lv_has ls1 4 [(0, .ref (xa X (51*k+0))), (1, .int x2), (2, .int x3)] → W p l e R s m args below meth c H1 locs1 0 0 Q (F0 m 37 ls1 [])) → W p l e R s m args below meth c H locs 0 0 Q (F0 m 2 ls []) := by
    intro n; induction n with
    | zero => intro x2 x3 x4 f5 of6 H locs ls hf; rw [m7_renumber_L2] at hf; cases hf
    | succ n ih =>
      intro x2 x3 x4 f5 of6 H locs ls hf hP hS hl K
      rw [m7_renumber_L2] at hf
      refine lv_iload_n hx hb dX7_renumber_2 rfl (lv_at hl 3 rfl) ?_
      refine lv_aload_n hx hb dX7_renumber_3 rfl (lv_at hl 0 rfl) ?_
      refine st_get (i0 := 0) hx hb hts iX7_renumber_X7 hown hP hK hk (by decide) rfl rfl 5 (by decide) hk_f64 rfl dX7_renumber_4 ?_
      refine lv_icmp_ge (tgt := 37) hx hb dX7_renumber_7 (by decide) (fun h7 => ?_) (fun h7 => ?_)
      · rw [if_pos h7] at hf
        have hf := Option.some.inj hf
        obtain rfl := hf
        exact K _ _ _ hP hS (lv_sub hl [0, 1, 2] rfl)
      · rw [if_neg h7] at hf
        refine lv_aload_n hx hb dX7_renumber_10 rfl (lv_at hl 0 rfl) ?_
        refine st_get (i0 := 0) hx hb hts iX7_renumber_X7 hown hP hK hk (by decide) rfl rfl 4 (by decide) hk_f44 rfl dX7_renumber_11 ?_
        refine lv_iload_n hx hb dX7_renumber_14 rfl (lv_at hl 3 rfl) ?_
        refine st_at (j := 22) (n := 16) ⟨hx, hb, hml, hown, hts⟩ hP hK hS hk (by decide) rfl hc_104 hl.1 (Nat.le_of_ble_eq_true rfl) dX7_renumber_15 (fun H locs hP hS => ?_)
        refine lv_iload_n hx hb dX7_renumber_18 rfl (lv_at hl 1 rfl) ?_
        obtain ⟨f10, ejK11, hf⟩ := lt1_e hf
        have K11 : ∀ (H : Heap) (locs : List Loc) (ls : Array Slot), HW X (pk w k f10) H → va_S (xF b0) s.heap H locs → lv_has ls 4 [(0, .ref (xa X (51*k+0))), (1, .int x2), (2, .int x3), (3, .int x4)] → W p l e R s m args below meth c H locs 0 0 Q (F0 m 31 ls []) := by
          intro H locs ls hP hS hl
          obtain ⟨x13, ex13⟩ : ∃ y : Int32, y = x4 + 1 := ⟨_, rfl⟩
          replace hf := ltn_s ex13 hf
          refine lv_iinc (v := x13) (lv' := [(3, .int x13), (0, .ref (xa X (51*k+0))), (1, .int x2), (2, .int x3)]) hx hb dX7_renumber_31 hl (k := 3) rfl (by rw [ex13]; rfl) (by decide) rfl (fun ls hl => ?_)
          refine lv_goto (tgt := 2) hx hb dX7_renumber_34 (by decide) ?_
          exact ih x2 x3 x13 f10 of6 _ _ _ hf hP hS (lv_sub hl [1, 2, 3, 0] rfl) K
        clear hf
        refine lv_icmp_ne (tgt := 31) hx hb dX7_renumber_19 (by decide) (fun h8 => ?_) (fun h8 => ?_)
        · rw [if_neg h8] at ejK11
          obtain rfl := ejK11
          exact K11 _ _ _ hP hS (lv_sub hl [0, 1, 2, 3] rfl)
        · rw [if_pos h8] at ejK11
          refine lv_aload_n hx hb dX7_renumber_22 rfl (lv_at hl 0 rfl) ?_
          refine st_get (i0 := 0) hx hb hts iX7_renumber_X7 hown hP hK hk (by decide) rfl rfl 4 (by decide) hk_f44 rfl dX7_renumber_23 ?_
          refine lv_iload_n hx hb dX7_renumber_26 rfl (lv_at hl 3 rfl) ?_
          refine lv_iload_n hx hb dX7_renumber_27 rfl (lv_at hl 2 rfl) ?_
          refine st_putr hX (j := 22) (n := 16) ⟨hx, hb, hml, hown, hts⟩ hP hK hS hk (by decide) rfl hc_127 hl.1 (Nat.le_of_ble_eq_true rfl) dX7_renumber_28 (fun f12 ef12 H locs hP hS => ?_)
          replace ejK11 := ltn_s ef12 ejK11
          obtain rfl := ejK11
          exact K11 _ _ _ hP hS (lv_sub hl [0, 1, 2, 3] rfl)
  obtain ⟨f14, hc15, hf⟩ := ob1_e hf
  refine L2 N a1 a2 0 f0 f14 _ _ _ hc15 hP hS (lv_sub hl [1, 2, 3, 0] rfl) (fun H locs ls hP hS hl => ?_)
  refine lv_iconst (v := 0) hx hb dX7_renumber_37 (by decide) ?_
  refine lv_istore_n (lv' := [(3, .int 0), (0, .ref (xa X (51*k+0))), (1, .int a1), (2, .int a2)]) hx hb dX7_renumber_38 rfl hl (by decide) rfl (fun ls hl => ?_)
  have L39 : ∀ (n : Nat) (x17 : Int32) (x18 : Int32) (x19 : Int32) (f20 : bkA) (of21 : bkA) (H : Heap) (locs : List Loc) (ls : Array Slot), m7_renumber_L39 N n x17 x18 x19 f20 = some of21 → HW X (pk w k f20) H → va_S (xF b0) s.heap H locs → lv_has ls 4 [(0, .ref (xa X (51*k+0))), (1, .int x17), (2, .int x18), (3, .int x19)] → (∀ (H1 : Heap) (locs1 : List Loc) (ls1 : Array Slot), HW X (pk w k of21) H1 → va_S (xF b0) s.heap H1 locs1 → lv_has ls1 4 [] → W p l e R s m args below meth c H1 locs1 0 0 Q (F0 m 78 ls1 [])) → W p l e R s m args below meth c H locs 0 0 Q (F0 m 39 ls []) := by
    intro n; induction n with
    | zero => intro x17 x18 x19 f20 of21 H locs ls hf; rw [m7_renumber_L39] at hf; cases hf
    | succ n ih =>
      intro x17 x18 x19 f20 of21 H locs ls hf hP hS hl K
      rw [m7_renumber_L39] at hf
      refine lv_iload_n hx hb dX7_renumber_39 rfl (lv_at hl 3 rfl) ?_
      refine lv_bipush (v := 12) hx hb dX7_renumber_40 (by decide) ?_
      refine lv_icmp_ge (tgt := 78) hx hb dX7_renumber_42 (by decide) (fun h22 => ?_) (fun h22 => ?_)
      · rw [if_pos h22] at hf
        have hf := Option.some.inj hf
        obtain rfl := hf
        exact K _ _ _ hP hS (lv_sub hl [] rfl)
      · rw [if_neg h22] at hf
        refine lv_aload_n hx hb dX7_renumber_45 rfl (lv_at hl 0 rfl) ?_
        refine st_get (i0 := 0) hx hb hts iX7_renumber_X7 hown hP hK hk (by decide) rfl rfl 3 (by decide) hk_f35 rfl dX7_renumber_46 ?_
        refine st_get (i0 := 4) hx hb hts iX7_renumber_X5 hown hP hK hk (by decide) rfl rfl 0 (by decide) hk_f167 rfl dX7_renumber_49 ?_
        refine lv_iload_n hx hb dX7_renumber_52 rfl (lv_at hl 3 rfl) ?_
        refine st_at (j := 19) (n := 12) ⟨hx, hb, hml, hown, hts⟩ hP hK hS hk (by decide) rfl hc_104 hl.1 (Nat.le_of_ble_eq_true rfl) dX7_renumber_53 (fun H locs hP hS => ?_)
        refine lv_iload_n hx hb dX7_renumber_56 rfl (lv_at hl 1 rfl) ?_
        obtain ⟨f25, ejK26, hf⟩ := lt1_e hf
        have K26 : ∀ (H : Heap) (locs : List Loc) (ls : Array Slot), HW X (pk w k f25) H → va_S (xF b0) s.heap H locs → lv_has ls 4 [(0, .ref (xa X (51*k+0))), (1, .int x17), (2, .int x18), (3, .int x19)] → W p l e R s m args below meth c H locs 0 0 Q (F0 m 72 ls []) := by
          intro H locs ls hP hS hl
          obtain ⟨x28, ex28⟩ : ∃ y : Int32, y = x19 + 1 := ⟨_, rfl⟩
          replace hf := ltn_s ex28 hf
          refine lv_iinc (v := x28) (lv' := [(3, .int x28), (0, .ref (xa X (51*k+0))), (1, .int x17), (2, .int x18)]) hx hb dX7_renumber_72 hl (k := 3) rfl (by rw [ex28]; rfl) (by decide) rfl (fun ls hl => ?_)
          refine lv_goto (tgt := 39) hx hb dX7_renumber_75 (by decide) ?_
          exact ih x17 x18 x28 f25 of21 _ _ _ hf hP hS (lv_sub hl [1, 2, 3, 0] rfl) K
        clear hf
        refine lv_icmp_ne (tgt := 72) hx hb dX7_renumber_57 (by decide) (fun h23 => ?_) (fun h23 => ?_)
        · rw [if_neg h23] at ejK26
          obtain rfl := ejK26
          exact K26 _ _ _ hP hS (lv_sub hl [0, 1, 2, 3] rfl)
        · rw [if_pos h23] at ejK26
          refine lv_aload_n hx hb dX7_renumber_60 rfl (lv_at hl 0 rfl) ?_
          refine st_get (i0 := 0) hx hb hts iX7_renumber_X7 hown hP hK hk (by decide) rfl rfl 3 (by decide) hk_f35 rfl dX7_renumber_61 ?_
          refine st_get (i0 := 4) hx hb hts iX7_renumber_X5 hown hP hK hk (by decide) rfl rfl 0 (by decide) hk_f167 rfl dX7_renumber_64 ?_
          refine lv_iload_n hx hb dX7_renumber_67 rfl (lv_at hl 3 rfl) ?_
          refine lv_iload_n hx hb dX7_renumber_68 rfl (lv_at hl 2 rfl) ?_
          refine st_putr hX (j := 19) (n := 12) ⟨hx, hb, hml, hown, hts⟩ hP hK hS hk (by decide) rfl hc_127 hl.1 (Nat.le_of_ble_eq_true rfl) dX7_renumber_69 (fun f27 ef27 H locs hP hS => ?_)
          replace ejK26 := ltn_s ef27 ejK26
          obtain rfl := ejK26
          exact K26 _ _ _ hP hS (lv_sub hl [0, 1, 2, 3] rfl)
  obtain ⟨f29, hc30, hf⟩ := ob1_e hf
  refine L39 N a1 a2 0 f14 f29 _ _ _ hc30 hP hS (lv_sub hl [1, 2, 3, 0] rfl) (fun H locs ls hP hS hl => ?_)
  have hf := Option.some.inj hf
  obtain rfl := hf
  rw [hQ]
  exact w_vret hx hb hr hlocks hP hK hS dX7_renumber_78 rfl
abbrev rmX7_takeLogs : Room := { frames := 2, cells := 0, slots := 0, locals := 44 }
theorem iX7_takeLogs_X3 : ∀ w ∈ wsX30, w ∈ wsX7_takeLogs := by decide +kernel
theorem iX7_takeLogs_X7 : ∀ w ∈ wsX70, w ∈ wsX7_takeLogs := by decide +kernel
set_option maxHeartbeats 4000000 in
set_option maxRecDepth 100000 in
theorem k7_takeLogs (l : Launch) {X : bkX} {b0 : Nat} (hX : XO X b0) {k : Nat} (hk : k < 6) (w : bkW) {f0 : bkA} {a1 : Int32} {a2 : Int32} {res9 : Int32} {f9 : bkA} (hf : m7_takeLogs f0 a1 a2 = (res9, f9)) : cI l yX7_takeLogs wsX7_takeLogs rmX7_takeLogs X b0 [.ref (xa X (51*k+0)), .int a1, .int a2] (pk w k f0) res9 (pk w k f9) := by
  refine Met.ofW (cc := cX7_takeLogs) (maxL := 3) (ret := (some .int)) (by decide) rfl ?_
  intro p e s m args below meth c s₁ B hml hv
  obtain ⟨ha, hP, hK⟩ := hv
  have hx := B.exec
  have hb := B.bytes
  have hr := B.returns
  have hts := atoms_spec (ws := wsX7_takeLogs) B.pre
  have hown : s.vm.findClass RX7 = some m.cls := findClass_of_methodNamed B.named
  have hlocks := B.notSynchronized
  obtain ⟨R, hR⟩ : ∃ R, R = (headSpec wsX7_takeLogs rmX7_takeLogs).room := ⟨_, rfl⟩
  rw [← hR]
  have hR1 : R.frames = 2 := by rw [hR]; rfl
  have hR2 : R.locals = 44 := by rw [hR]; rfl
  obtain ⟨Q, hQ⟩ : ∃ Q : State → Prop, Q = MQ below (va_Qi (fun r' (_ : Unit) => r' = res9) (fun _ t => WU X (pk w k f9) t) (xF b0)) args s 0 0 (xF b0) := ⟨_, rfl⟩
  rw [← hQ]
  have hS : va_S (xF b0) s.heap s.heap [] := va_S.rf
  have hl := lv_entry ([.ref (xa X (51*k+0)), .int a1, .int a2]) (n := 3) (Nat.le_of_ble_eq_true rfl)
  refine W.eq ((congrArg (fun z => entryFrame m z 3) ha).trans (lg_entry_eq m _ 3)) ?_
  generalize (lg_sl ([.ref (xa X (51*k+0)), .int a1, .int a2]) ++ List.replicate (3 - (lg_sl ([.ref (xa X (51*k+0)), .int a1, .int a2])).length) Slot.unset).toArray = ls at hl ⊢
  have hl : lv_has ls 3 [(0, .ref (xa X (51*k+0))), (1, .int a1), (2, .int a2)] := hl
  have hk_f21 := hts (.fieldLink RX7 21 "BakeTurns$State" "houses" "LBakeTurns$Houses;") (by decide +kernel)
  have hk_f120 := hts (.fieldLink RX7 120 "BakeTurns$Houses" "balance" "LBakeTurns$Row;") (by decide +kernel)
  have hc_173 := (cwV 2 hts gX7_takeLogs_X6_increase rfl rfl rfl (by decide +kernel) ⟨by rw [hR1]; exact Nat.le_of_ble_eq_true rfl, by rw [hR2]; exact Nat.le_of_ble_eq_true rfl⟩ : CallW R s args RX7 RX6 173 yX6_increase cX6_increase 3 none wsX6_increase rmX6_increase 0 0 2)
  have hk_f176 := hts (.fieldLink RX7 176 "BakeTurns$Houses" "brought" "LBakeTurns$Row;") (by decide +kernel)
  have hk_f80 := hts (.fieldLink RX7 80 "BakeTurns$State" "logsBrought" "I") (by decide +kernel)
  have hc_104 := (cwV 1 hts gX7_takeLogs_X6_at rfl rfl rfl (by decide +kernel) ⟨by rw [hR1]; exact Nat.le_of_ble_eq_true rfl, by rw [hR2]; exact Nat.le_of_ble_eq_true rfl⟩ : CallW R s args RX7 RX6 104 yX6_at cX6_at 2 (some .int) wsX6_at rmX6_at 0 0 1)
  unfold m7_takeLogs at hf
  refine lv_aload_n hx hb dX7_takeLogs_0 rfl (lv_at hl 0 rfl) ?_
  refine st_get (i0 := 0) hx hb hts iX7_takeLogs_X7 hown hP hK hk (by decide) rfl rfl 1 (by decide) hk_f21 rfl dX7_takeLogs_1 ?_
  refine st_get (i0 := 2) hx hb hts iX7_takeLogs_X3 hown hP hK hk (by decide) rfl rfl 1 (by decide) hk_f120 rfl dX7_takeLogs_4 ?_
  refine lv_iload_n hx hb dX7_takeLogs_7 rfl (lv_at hl 1 rfl) ?_
  refine lv_iload_n hx hb dX7_takeLogs_8 rfl (lv_at hl 2 rfl) ?_
  refine st_incr hX (j := 5) (n := 8) ⟨hx, hb, hml, hown, hts⟩ hP hK hS hk (by decide) rfl hc_173 hl.1 (Nat.le_of_ble_eq_true rfl) dX7_takeLogs_9 (fun f1 ef1 H locs hP hS => ?_)
  replace hf := ltn_s ef1 hf
  refine lv_aload_n hx hb dX7_takeLogs_12 rfl (lv_at hl 0 rfl) ?_
  refine st_get (i0 := 0) hx hb hts iX7_takeLogs_X7 hown hP hK hk (by decide) rfl rfl 1 (by decide) hk_f21 rfl dX7_takeLogs_13 ?_
  refine st_get (i0 := 2) hx hb hts iX7_takeLogs_X3 hown hP hK hk (by decide) rfl rfl 4 (by decide) hk_f176 rfl dX7_takeLogs_16 ?_
  refine lv_iload_n hx hb dX7_takeLogs_19 rfl (lv_at hl 1 rfl) ?_
  refine lv_iload_n hx hb dX7_takeLogs_20 rfl (lv_at hl 2 rfl) ?_
  refine st_incr hX (j := 8) (n := 8) ⟨hx, hb, hml, hown, hts⟩ hP hK hS hk (by decide) rfl hc_173 hl.1 (Nat.le_of_ble_eq_true rfl) dX7_takeLogs_21 (fun f2 ef2 H locs hP hS => ?_)
  replace hf := ltn_s ef2 hf
  refine lv_aload_n hx hb dX7_takeLogs_24 rfl (lv_at hl 0 rfl) ?_
  refine lv_dup hx hb dX7_takeLogs_25 rfl ?_
  refine st_get (i0 := 0) hx hb hts iX7_takeLogs_X7 hown hP hK hk (by decide) rfl rfl 10 (by decide) hk_f80 rfl dX7_takeLogs_26 ?_
  refine lv_iload_n hx hb dX7_takeLogs_29 rfl (lv_at hl 2 rfl) ?_
  refine lv_iadd hx hb dX7_takeLogs_30 ?_
  refine st_put (i0 := 0) hx hb hts iX7_takeLogs_X7 tyX7 tyX7_ok nmX7 hown hX hP hK hS hk (by decide) rfl rfl 10 (by decide) hk_f80 rfl rfl (Nat.le_of_ble_eq_true rfl) es_8 dX7_takeLogs_31 (fun f3 ef3 H locs hP hS => ?_)
  replace hf := ltn_s ef3 hf
  refine lv_aload_n hx hb dX7_takeLogs_34 rfl (lv_at hl 0 rfl) ?_
  refine st_get (i0 := 0) hx hb hts iX7_takeLogs_X7 hown hP hK hk (by decide) rfl rfl 1 (by decide) hk_f21 rfl dX7_takeLogs_35 ?_
  refine st_get (i0 := 2) hx hb hts iX7_takeLogs_X3 hown hP hK hk (by decide) rfl rfl 1 (by decide) hk_f120 rfl dX7_takeLogs_38 ?_
  refine lv_iload_n hx hb dX7_takeLogs_41 rfl (lv_at hl 1 rfl) ?_
  refine st_at (j := 5) (n := 8) ⟨hx, hb, hml, hown, hts⟩ hP hK hS hk (by decide) rfl hc_104 hl.1 (Nat.le_of_ble_eq_true rfl) dX7_takeLogs_42 (fun H locs hP hS => ?_)
  simp only [Prod.mk.injEq] at hf
  obtain ⟨rfl, rfl⟩ := hf
  rw [hQ]
  exact w_iret hx hb hr hlocks hP hK hS dX7_takeLogs_45 rfl rfl
abbrev rmX7_burnLogs : Room := { frames := 2, cells := 0, slots := 0, locals := 44 }
theorem iX7_burnLogs_X3 : ∀ w ∈ wsX30, w ∈ wsX7_burnLogs := by decide +kernel
theorem iX7_burnLogs_X7 : ∀ w ∈ wsX70, w ∈ wsX7_burnLogs := by decide +kernel
set_option maxHeartbeats 4000000 in
set_option maxRecDepth 100000 in
theorem k7_burnLogs (l : Launch) {X : bkX} {b0 : Nat} (hX : XO X b0) {k : Nat} (hk : k < 6) (w : bkW) {f0 : bkA} {a1 : Int32} {a2 : Int32} {res9 : Int32} {f9 : bkA} (hf : m7_burnLogs f0 a1 a2 = (res9, f9)) : cI l yX7_burnLogs wsX7_burnLogs rmX7_burnLogs X b0 [.ref (xa X (51*k+0)), .int a1, .int a2] (pk w k f0) res9 (pk w k f9) := by
  refine Met.ofW (cc := cX7_burnLogs) (maxL := 3) (ret := (some .int)) (by decide) rfl ?_
  intro p e s m args below meth c s₁ B hml hv
  obtain ⟨ha, hP, hK⟩ := hv
  have hx := B.exec
  have hb := B.bytes
  have hr := B.returns
  have hts := atoms_spec (ws := wsX7_burnLogs) B.pre
  have hown : s.vm.findClass RX7 = some m.cls := findClass_of_methodNamed B.named
  have hlocks := B.notSynchronized
  obtain ⟨R, hR⟩ : ∃ R, R = (headSpec wsX7_burnLogs rmX7_burnLogs).room := ⟨_, rfl⟩
  rw [← hR]
  have hR1 : R.frames = 2 := by rw [hR]; rfl
  have hR2 : R.locals = 44 := by rw [hR]; rfl
  obtain ⟨Q, hQ⟩ : ∃ Q : State → Prop, Q = MQ below (va_Qi (fun r' (_ : Unit) => r' = res9) (fun _ t => WU X (pk w k f9) t) (xF b0)) args s 0 0 (xF b0) := ⟨_, rfl⟩
  rw [← hQ]
  have hS : va_S (xF b0) s.heap s.heap [] := va_S.rf
  have hl := lv_entry ([.ref (xa X (51*k+0)), .int a1, .int a2]) (n := 3) (Nat.le_of_ble_eq_true rfl)
  refine W.eq ((congrArg (fun z => entryFrame m z 3) ha).trans (lg_entry_eq m _ 3)) ?_
  generalize (lg_sl ([.ref (xa X (51*k+0)), .int a1, .int a2]) ++ List.replicate (3 - (lg_sl ([.ref (xa X (51*k+0)), .int a1, .int a2])).length) Slot.unset).toArray = ls at hl ⊢
  have hl : lv_has ls 3 [(0, .ref (xa X (51*k+0))), (1, .int a1), (2, .int a2)] := hl
  have hk_f21 := hts (.fieldLink RX7 21 "BakeTurns$State" "houses" "LBakeTurns$Houses;") (by decide +kernel)
  have hk_f120 := hts (.fieldLink RX7 120 "BakeTurns$Houses" "balance" "LBakeTurns$Row;") (by decide +kernel)
  have hc_173 := (cwV 2 hts gX7_burnLogs_X6_increase rfl rfl rfl (by decide +kernel) ⟨by rw [hR1]; exact Nat.le_of_ble_eq_true rfl, by rw [hR2]; exact Nat.le_of_ble_eq_true rfl⟩ : CallW R s args RX7 RX6 173 yX6_increase cX6_increase 3 none wsX6_increase rmX6_increase 0 0 2)
  have hk_f179 := hts (.fieldLink RX7 179 "BakeTurns$Houses" "paid" "LBakeTurns$Row;") (by decide +kernel)
  have hk_f74 := hts (.fieldLink RX7 74 "BakeTurns$State" "unsettled" "I") (by decide +kernel)
  have hk_f77 := hts (.fieldLink RX7 77 "BakeTurns$State" "logsBurnt" "I") (by decide +kernel)
  have hk_f68 := hts (.fieldLink RX7 68 "BakeTurns$State" "heat" "I") (by decide +kernel)
  unfold m7_burnLogs at hf
  refine lv_aload_n hx hb dX7_burnLogs_0 rfl (lv_at hl 0 rfl) ?_
  refine st_get (i0 := 0) hx hb hts iX7_burnLogs_X7 hown hP hK hk (by decide) rfl rfl 1 (by decide) hk_f21 rfl dX7_burnLogs_1 ?_
  refine st_get (i0 := 2) hx hb hts iX7_burnLogs_X3 hown hP hK hk (by decide) rfl rfl 1 (by decide) hk_f120 rfl dX7_burnLogs_4 ?_
  refine lv_iload_n hx hb dX7_burnLogs_7 rfl (lv_at hl 1 rfl) ?_
  refine lv_iload_n hx hb dX7_burnLogs_8 rfl (lv_at hl 2 rfl) ?_
  refine lv_ineg hx hb dX7_burnLogs_9 ?_
  refine st_incr hX (j := 5) (n := 8) ⟨hx, hb, hml, hown, hts⟩ hP hK hS hk (by decide) rfl hc_173 hl.1 (Nat.le_of_ble_eq_true rfl) dX7_burnLogs_10 (fun f1 ef1 H locs hP hS => ?_)
  replace hf := ltn_s ef1 hf
  refine lv_aload_n hx hb dX7_burnLogs_13 rfl (lv_at hl 0 rfl) ?_
  refine st_get (i0 := 0) hx hb hts iX7_burnLogs_X7 hown hP hK hk (by decide) rfl rfl 1 (by decide) hk_f21 rfl dX7_burnLogs_14 ?_
  refine st_get (i0 := 2) hx hb hts iX7_burnLogs_X3 hown hP hK hk (by decide) rfl rfl 3 (by decide) hk_f179 rfl dX7_burnLogs_17 ?_
  refine lv_iload_n hx hb dX7_burnLogs_20 rfl (lv_at hl 1 rfl) ?_
  refine lv_iload_n hx hb dX7_burnLogs_21 rfl (lv_at hl 2 rfl) ?_
  refine st_incr hX (j := 7) (n := 8) ⟨hx, hb, hml, hown, hts⟩ hP hK hS hk (by decide) rfl hc_173 hl.1 (Nat.le_of_ble_eq_true rfl) dX7_burnLogs_22 (fun f2 ef2 H locs hP hS => ?_)
  replace hf := ltn_s ef2 hf
  refine lv_aload_n hx hb dX7_burnLogs_25 rfl (lv_at hl 0 rfl) ?_
  refine lv_dup hx hb dX7_burnLogs_26 rfl ?_
  refine st_get (i0 := 0) hx hb hts iX7_burnLogs_X7 hown hP hK hk (by decide) rfl rfl 8 (by decide) hk_f74 rfl dX7_burnLogs_27 ?_
  refine lv_iload_n hx hb dX7_burnLogs_30 rfl (lv_at hl 2 rfl) ?_
  refine lv_iadd hx hb dX7_burnLogs_31 ?_
  refine st_put (i0 := 0) hx hb hts iX7_burnLogs_X7 tyX7 tyX7_ok nmX7 hown hX hP hK hS hk (by decide) rfl rfl 8 (by decide) hk_f74 rfl rfl (Nat.le_of_ble_eq_true rfl) es_6 dX7_burnLogs_32 (fun f3 ef3 H locs hP hS => ?_)
  replace hf := ltn_s ef3 hf
  refine lv_aload_n hx hb dX7_burnLogs_35 rfl (lv_at hl 0 rfl) ?_
  refine lv_dup hx hb dX7_burnLogs_36 rfl ?_
  refine st_get (i0 := 0) hx hb hts iX7_burnLogs_X7 hown hP hK hk (by decide) rfl rfl 9 (by decide) hk_f77 rfl dX7_burnLogs_37 ?_
  refine lv_iload_n hx hb dX7_burnLogs_40 rfl (lv_at hl 2 rfl) ?_
  refine lv_iadd hx hb dX7_burnLogs_41 ?_
  refine st_put (i0 := 0) hx hb hts iX7_burnLogs_X7 tyX7 tyX7_ok nmX7 hown hX hP hK hS hk (by decide) rfl rfl 9 (by decide) hk_f77 rfl rfl (Nat.le_of_ble_eq_true rfl) es_7 dX7_burnLogs_42 (fun f4 ef4 H locs hP hS => ?_)
  replace hf := ltn_s ef4 hf
  refine lv_aload_n hx hb dX7_burnLogs_45 rfl (lv_at hl 0 rfl) ?_
  refine lv_dup hx hb dX7_burnLogs_46 rfl ?_
  refine st_get (i0 := 0) hx hb hts iX7_burnLogs_X7 hown hP hK hk (by decide) rfl rfl 6 (by decide) hk_f68 rfl dX7_burnLogs_47 ?_
  refine lv_bipush (v := 25) hx hb dX7_burnLogs_50 (by decide) ?_
  refine lv_iload_n hx hb dX7_burnLogs_52 rfl (lv_at hl 2 rfl) ?_
  refine lv_imul hx hb dX7_burnLogs_53 ?_
  refine lv_iadd hx hb dX7_burnLogs_54 ?_
  refine st_put (i0 := 0) hx hb hts iX7_burnLogs_X7 tyX7 tyX7_ok nmX7 hown hX hP hK hS hk (by decide) rfl rfl 6 (by decide) hk_f68 rfl rfl (Nat.le_of_ble_eq_true rfl) es_4 dX7_burnLogs_55 (fun f5 ef5 H locs hP hS => ?_)
  replace hf := ltn_s ef5 hf
  refine lv_aload_n hx hb dX7_burnLogs_58 rfl (lv_at hl 0 rfl) ?_
  refine st_get (i0 := 0) hx hb hts iX7_burnLogs_X7 hown hP hK hk (by decide) rfl rfl 6 (by decide) hk_f68 rfl dX7_burnLogs_59 ?_
  simp only [Prod.mk.injEq] at hf
  obtain ⟨rfl, rfl⟩ := hf
  rw [hQ]
  exact w_iret hx hb hr hlocks hP hK hS dX7_burnLogs_62 rfl rfl
abbrev rmX7_useOfAll : Room := { frames := 1, cells := 0, slots := 0, locals := 21 }
theorem iX7_useOfAll_X3 : ∀ w ∈ wsX30, w ∈ wsX7_useOfAll := by decide +kernel
theorem iX7_useOfAll_X7 : ∀ w ∈ wsX70, w ∈ wsX7_useOfAll := by decide +kernel
set_option maxHeartbeats 4000000 in
set_option maxRecDepth 100000 in
theorem k7_useOfAll (l : Launch) {X : bkX} {b0 : Nat} (hX : XO X b0) {k : Nat} (hk : k < 6) (w : bkW) {N : Nat} {f0 : bkA} {res9 : Int32} (hf : m7_useOfAll N f0 = some res9) : cI l yX7_useOfAll wsX7_useOfAll rmX7_useOfAll X b0 [.ref (xa X (51*k+0))] (pk w k f0) res9 (pk w k f0) := by
  refine Met.ofW (cc := cX7_useOfAll) (maxL := 3) (ret := (some .int)) (by decide) rfl ?_
  intro p e s m args below meth c s₁ B hml hv
  obtain ⟨ha, hP, hK⟩ := hv
  have hx := B.exec
  have hb := B.bytes
  have hr := B.returns
  have hts := atoms_spec (ws := wsX7_useOfAll) B.pre
  have hown : s.vm.findClass RX7 = some m.cls := findClass_of_methodNamed B.named
  have hlocks := B.notSynchronized
  obtain ⟨R, hR⟩ : ∃ R, R = (headSpec wsX7_useOfAll rmX7_useOfAll).room := ⟨_, rfl⟩
  rw [← hR]
  have hR1 : R.frames = 1 := by rw [hR]; rfl
  have hR2 : R.locals = 21 := by rw [hR]; rfl
  obtain ⟨Q, hQ⟩ : ∃ Q : State → Prop, Q = MQ below (va_Qi (fun r' (_ : Unit) => r' = res9) (fun _ t => WU X (pk w k f0) t) (xF b0)) args s 0 0 (xF b0) := ⟨_, rfl⟩
  rw [← hQ]
  have hS : va_S (xF b0) s.heap s.heap [] := va_S.rf
  have hl := lv_entry ([.ref (xa X (51*k+0))]) (n := 3) (Nat.le_of_ble_eq_true rfl)
  refine W.eq ((congrArg (fun z => entryFrame m z 3) ha).trans (lg_entry_eq m _ 3)) ?_
  generalize (lg_sl ([.ref (xa X (51*k+0))]) ++ List.replicate (3 - (lg_sl ([.ref (xa X (51*k+0))])).length) Slot.unset).toArray = ls at hl ⊢
  have hl : lv_has ls 3 [(0, .ref (xa X (51*k+0)))] := hl
  have hk_f21 := hts (.fieldLink RX7 21 "BakeTurns$State" "houses" "LBakeTurns$Houses;") (by decide +kernel)
  have hk_f95 := hts (.fieldLink RX7 95 "BakeTurns$Houses" "count" "I") (by decide +kernel)
  have hk_f189 := hts (.fieldLink RX7 189 "BakeTurns$Houses" "use" "LBakeTurns$Row;") (by decide +kernel)
  have hc_104 := (cwV 1 hts gX7_useOfAll_X6_at rfl rfl rfl (by decide +kernel) ⟨by rw [hR1]; exact Nat.le_of_ble_eq_true rfl, by rw [hR2]; exact Nat.le_of_ble_eq_true rfl⟩ : CallW R s args RX7 RX6 104 yX6_at cX6_at 2 (some .int) wsX6_at rmX6_at 0 0 1)
  unfold m7_useOfAll at hf
  refine lv_iconst (v := 0) hx hb dX7_useOfAll_0 (by decide) ?_
  refine lv_istore_n (lv' := [(1, .int 0), (0, .ref (xa X (51*k+0)))]) hx hb dX7_useOfAll_1 rfl hl (by decide) rfl (fun ls hl => ?_)
  refine lv_iconst (v := 0) hx hb dX7_useOfAll_2 (by decide) ?_
  refine lv_istore_n (lv' := [(2, .int 0), (1, .int 0), (0, .ref (xa X (51*k+0)))]) hx hb dX7_useOfAll_3 rfl hl (by decide) rfl (fun ls hl => ?_)
  have L4 : ∀ (n : Nat) (x2 : Int32) (x3 : Int32)  (o4 : Int32) (H : Heap) (locs : List Loc) (ls : Array Slot), m7_useOfAll_L4 N n x2 x3 f0 = some o4 → HW X (pk w k f0) H → va_S (xF b0) s.heap H locs → lv_has ls 3 [(0, .ref (xa X (51*k+0))), (1, .int x2), (2, .int x3)] → (∀ (H1 : Heap) (locs1 : List Loc) (ls1 : Array Slot), HW X (pk w k f0) H1 → va_S (xF b0) s.heap H1 locs1 → lv_has ls1 3 [(1, .int o4)] → W p l e R s m args below meth c H1 locs1 0 0 Q (F0 m 35 ls1 [])) → W p l e R s m args below meth c H locs 0 0 Q (F0 m 4 ls []) := by
    intro n; induction n with
    | zero => intro x2 x3 o4 H locs ls hf; rw [m7_useOfAll_L4] at hf; cases hf
    | succ n ih =>
      intro x2 x3 o4 H locs ls hf hP hS hl K
      rw [m7_useOfAll_L4] at hf
      refine lv_iload_n hx hb dX7_useOfAll_4 rfl (lv_at hl 2 rfl) ?_
      refine lv_aload_n hx hb dX7_useOfAll_5 rfl (lv_at hl 0 rfl) ?_
      refine st_get (i0 := 0) hx hb hts iX7_useOfAll_X7 hown hP hK hk (by decide) rfl rfl 1 (by decide) hk_f21 rfl dX7_useOfAll_6 ?_
      refine st_get (i0 := 2) hx hb hts iX7_useOfAll_X3 hown hP hK hk (by decide) rfl rfl 0 (by decide) hk_f95 rfl dX7_useOfAll_9 ?_
      refine lv_icmp_ge (tgt := 35) hx hb dX7_useOfAll_12 (by decide) (fun h5 => ?_) (fun h5 => ?_)
      · rw [if_pos h5] at hf
        have hf := Option.some.inj hf
        obtain rfl := hf
        exact K _ _ _ hP hS (lv_sub hl [1] rfl)
      · rw [if_neg h5] at hf
        refine lv_iload_n hx hb dX7_useOfAll_15 rfl (lv_at hl 1 rfl) ?_
        refine lv_aload_n hx hb dX7_useOfAll_16 rfl (lv_at hl 0 rfl) ?_
        refine st_get (i0 := 0) hx hb hts iX7_useOfAll_X7 hown hP hK hk (by decide) rfl rfl 1 (by decide) hk_f21 rfl dX7_useOfAll_17 ?_
        refine st_get (i0 := 2) hx hb hts iX7_useOfAll_X3 hown hP hK hk (by decide) rfl rfl 2 (by decide) hk_f189 rfl dX7_useOfAll_20 ?_
        refine lv_iload_n hx hb dX7_useOfAll_23 rfl (lv_at hl 2 rfl) ?_
        refine st_at (j := 6) (n := 8) ⟨hx, hb, hml, hown, hts⟩ hP hK hS hk (by decide) rfl hc_104 hl.1 (Nat.le_of_ble_eq_true rfl) dX7_useOfAll_24 (fun H locs hP hS => ?_)
        refine lv_iadd hx hb dX7_useOfAll_27 ?_
        refine lv_topi (fun x6 ex6 => ?_)
        replace hf := ltn_s ex6 hf
        refine lv_istore_n (lv' := [(1, .int x6), (0, .ref (xa X (51*k+0))), (2, .int x3)]) hx hb dX7_useOfAll_28 rfl hl (by decide) rfl (fun ls hl => ?_)
        obtain ⟨x7, ex7⟩ : ∃ y : Int32, y = x3 + 1 := ⟨_, rfl⟩
        replace hf := ltn_s ex7 hf
        refine lv_iinc (v := x7) (lv' := [(2, .int x7), (1, .int x6), (0, .ref (xa X (51*k+0)))]) hx hb dX7_useOfAll_29 hl (k := 2) rfl (by rw [ex7]; rfl) (by decide) rfl (fun ls hl => ?_)
        refine lv_goto (tgt := 4) hx hb dX7_useOfAll_32 (by decide) ?_
        exact ih x6 x7 o4 _ _ _ hf hP hS (lv_sub hl [2, 1, 0] rfl) K
  obtain ⟨x8, hc9, hf⟩ := ob1_e hf
  refine L4 N 0 0  x8 _ _ _ hc9 hP hS (lv_sub hl [2, 1, 0] rfl) (fun H locs ls hP hS hl => ?_)
  refine lv_iload_n hx hb dX7_useOfAll_35 rfl (lv_at hl 0 rfl) ?_
  have hf := Option.some.inj hf
  obtain rfl := hf
  rw [hQ]
  exact w_iret hx hb hr hlocks hP hK hS dX7_useOfAll_36 rfl rfl
abbrev rmX7_owedBy : Room := { frames := 2, cells := 0, slots := 0, locals := 43 }
theorem iX7_owedBy_X3 : ∀ w ∈ wsX30, w ∈ wsX7_owedBy := by decide +kernel
theorem iX7_owedBy_X7 : ∀ w ∈ wsX70, w ∈ wsX7_owedBy := by decide +kernel
set_option maxHeartbeats 4000000 in
set_option maxRecDepth 100000 in
theorem k7_owedBy (l : Launch) {X : bkX} {b0 : Nat} (hX : XO X b0) {k : Nat} (hk : k < 6) (w : bkW) {N : Nat} {f0 : bkA} {a1 : Int32} {res9 : Int32} (hf : m7_owedBy N f0 a1 = some res9) : cI l yX7_owedBy wsX7_owedBy rmX7_owedBy X b0 [.ref (xa X (51*k+0)), .int a1] (pk w k f0) res9 (pk w k f0) := by
  refine Met.ofW (cc := cX7_owedBy) (maxL := 16) (ret := (some .int)) (by decide) rfl ?_
  intro p e s m args below meth c s₁ B hml hv
  obtain ⟨ha, hP, hK⟩ := hv
  have hx := B.exec
  have hb := B.bytes
  have hr := B.returns
  have hts := atoms_spec (ws := wsX7_owedBy) B.pre
  have hown : s.vm.findClass RX7 = some m.cls := findClass_of_methodNamed B.named
  have hlocks := B.notSynchronized
  obtain ⟨R, hR⟩ : ∃ R, R = (headSpec wsX7_owedBy rmX7_owedBy).room := ⟨_, rfl⟩
  rw [← hR]
  have hR1 : R.frames = 2 := by rw [hR]; rfl
  have hR2 : R.locals = 43 := by rw [hR]; rfl
  obtain ⟨Q, hQ⟩ : ∃ Q : State → Prop, Q = MQ below (va_Qi (fun r' (_ : Unit) => r' = res9) (fun _ t => WU X (pk w k f0) t) (xF b0)) args s 0 0 (xF b0) := ⟨_, rfl⟩
  rw [← hQ]
  have hS : va_S (xF b0) s.heap s.heap [] := va_S.rf
  have hl := lv_entry ([.ref (xa X (51*k+0)), .int a1]) (n := 16) (Nat.le_of_ble_eq_true rfl)
  refine W.eq ((congrArg (fun z => entryFrame m z 16) ha).trans (lg_entry_eq m _ 16)) ?_
  generalize (lg_sl ([.ref (xa X (51*k+0)), .int a1]) ++ List.replicate (16 - (lg_sl ([.ref (xa X (51*k+0)), .int a1])).length) Slot.unset).toArray = ls at hl ⊢
  have hl : lv_has ls 16 [(0, .ref (xa X (51*k+0))), (1, .int a1)] := hl
  have hc_182 := (cwV 0 hts gX7_owedBy_X7_useOfAll rfl rfl rfl (by decide +kernel) ⟨by rw [hR1]; exact Nat.le_of_ble_eq_true rfl, by rw [hR2]; exact Nat.le_of_ble_eq_true rfl⟩ : CallW R s args RX7 RX7 182 yX7_useOfAll cX7_useOfAll 3 (some .int) wsX7_useOfAll rmX7_useOfAll 0 0 0)
  have hk_f74 := hts (.fieldLink RX7 74 "BakeTurns$State" "unsettled" "I") (by decide +kernel)
  have hk_f21 := hts (.fieldLink RX7 21 "BakeTurns$State" "houses" "LBakeTurns$Houses;") (by decide +kernel)
  have hk_f189 := hts (.fieldLink RX7 189 "BakeTurns$Houses" "use" "LBakeTurns$Row;") (by decide +kernel)
  have hc_104 := (cwV 1 hts gX7_owedBy_X6_at rfl rfl rfl (by decide +kernel) ⟨by rw [hR1]; exact Nat.le_of_ble_eq_true rfl, by rw [hR2]; exact Nat.le_of_ble_eq_true rfl⟩ : CallW R s args RX7 RX6 104 yX6_at cX6_at 2 (some .int) wsX6_at rmX6_at 0 0 1)
  have hk_f95 := hts (.fieldLink RX7 95 "BakeTurns$Houses" "count" "I") (by decide +kernel)
  unfold m7_owedBy at hf
  refine lv_aload_n hx hb dX7_owedBy_0 rfl (lv_at hl 0 rfl) ?_
  obtain ⟨x1, hc2, hf⟩ := ob1_e hf
  refine w_ci ⟨hx, hb, hml, hown, hts⟩ hP hK hS (k7_useOfAll l hX hk w hc2) hc_182 (st_recv (i0 := 0) hP hK hk (by decide) rfl rfl) rfl hl.1 rfl (Nat.le_of_ble_eq_true rfl) dX7_owedBy_1 ⟨Nat.zero_le _, Nat.zero_le _⟩ (fun H locs hP hS => ?_)
  refine lv_i2l hx hb dX7_owedBy_4 rfl ?_
  refine lv_topl (fun x3 ex3 => ?_)
  replace hf := ltn_s ex3 hf
  refine lv_lstore_n (lv' := [(2, .long x3), (0, .ref (xa X (51*k+0))), (1, .int a1)]) hx hb dX7_owedBy_5 rfl hl (by decide) rfl (fun ls hl => ?_)
  refine lv_lload_n hx hb dX7_owedBy_6 rfl (lv_at hl 0 rfl) ?_
  refine lv_lconst (v := 0) hx hb dX7_owedBy_7 (by decide) ?_
  refine W.lcmp hx hb dX7_owedBy_8 ?_
  refine lv_if_gt (tgt := 14) hx hb dX7_owedBy_9 (by decide) (fun h4 => ?_) (fun h4 => ?_)
  · rw [if_pos h4] at hf
    refine lv_aload_n hx hb dX7_owedBy_14 rfl (lv_at hl 1 rfl) ?_
    refine st_get (i0 := 0) hx hb hts iX7_owedBy_X7 hown hP hK hk (by decide) rfl rfl 8 (by decide) hk_f74 rfl dX7_owedBy_15 ?_
    refine lv_i2l hx hb dX7_owedBy_18 rfl ?_
    refine lv_aload_n hx hb dX7_owedBy_19 rfl (lv_at hl 1 rfl) ?_
    refine st_get (i0 := 0) hx hb hts iX7_owedBy_X7 hown hP hK hk (by decide) rfl rfl 1 (by decide) hk_f21 rfl dX7_owedBy_20 ?_
    refine st_get (i0 := 2) hx hb hts iX7_owedBy_X3 hown hP hK hk (by decide) rfl rfl 2 (by decide) hk_f189 rfl dX7_owedBy_23 ?_
    refine lv_iload_n hx hb dX7_owedBy_26 rfl (lv_at hl 2 rfl) ?_
    refine st_at (j := 6) (n := 8) ⟨hx, hb, hml, hown, hts⟩ hP hK hS hk (by decide) rfl hc_104 hl.1 (Nat.le_of_ble_eq_true rfl) dX7_owedBy_27 (fun H locs hP hS => ?_)
    refine lv_i2l hx hb dX7_owedBy_30 rfl ?_
    refine lv_lmul hx hb dX7_owedBy_31 ?_
    refine lv_topl (fun x5 ex5 => ?_)
    replace hf := ltn_s ex5 hf
    refine lv_lstore (lv' := [(4, .long x5), (2, .long x3), (0, .ref (xa X (51*k+0))), (1, .int a1)]) hx hb dX7_owedBy_32 hl (by decide) rfl (fun ls hl => ?_)
    refine lv_lload hx hb dX7_owedBy_34 (lv_at hl 0 rfl) ?_
    refine lv_lload_n hx hb dX7_owedBy_36 rfl (lv_at hl 1 rfl) ?_
    obtain ⟨hz6, hf⟩ := ckp_e hf
    refine lv_lrem hx hb dX7_owedBy_37 hz6 ?_
    refine lv_topl (fun x7 ex7 => ?_)
    replace hf := ltn_s ex7 hf
    refine lv_lstore (lv' := [(6, .long x7), (4, .long x5), (2, .long x3), (0, .ref (xa X (51*k+0))), (1, .int a1)]) hx hb dX7_owedBy_38 hl (by decide) rfl (fun ls hl => ?_)
    refine lv_aload_n hx hb dX7_owedBy_40 rfl (lv_at hl 3 rfl) ?_
    refine st_get (i0 := 0) hx hb hts iX7_owedBy_X7 hown hP hK hk (by decide) rfl rfl 8 (by decide) hk_f74 rfl dX7_owedBy_41 ?_
    refine lv_i2l hx hb dX7_owedBy_44 rfl ?_
    refine lv_topl (fun x8 ex8 => ?_)
    replace hf := ltn_s ex8 hf
    refine lv_lstore (lv' := [(8, .long x8), (6, .long x7), (4, .long x5), (2, .long x3), (0, .ref (xa X (51*k+0))), (1, .int a1)]) hx hb dX7_owedBy_45 hl (by decide) rfl (fun ls hl => ?_)
    refine lv_iconst (v := 0) hx hb dX7_owedBy_47 (by decide) ?_
    refine lv_istore (lv' := [(10, .int 0), (8, .long x8), (6, .long x7), (4, .long x5), (2, .long x3), (0, .ref (xa X (51*k+0))), (1, .int a1)]) hx hb dX7_owedBy_48 hl (by decide) rfl (fun ls hl => ?_)
    refine lv_iconst (v := 0) hx hb dX7_owedBy_50 (by decide) ?_
    refine lv_istore (lv' := [(11, .int 0), (10, .int 0), (8, .long x8), (6, .long x7), (4, .long x5), (2, .long x3), (0, .ref (xa X (51*k+0))), (1, .int a1)]) hx hb dX7_owedBy_51 hl (by decide) rfl (fun ls hl => ?_)
    have L53 : ∀ (n : Nat) (x10 : Int32) (x11 : Int64) (x12 : Int64) (x13 : Int64) (x14 : Int64) (x15 : Int32) (x16 : Int32)  (o17 : Int64) (o18 : Int32) (H : Heap) (locs : List Loc) (ls : Array Slot), m7_owedBy_L53 N n x10 x11 x12 x13 x14 x15 x16 f0 = some (o17, o18) → HW X (pk w k f0) H → va_S (xF b0) s.heap H locs → lv_has ls 16 [(0, .ref (xa X (51*k+0))), (1, .int x10), (2, .long x11), (4, .long x12), (6, .long x13), (8, .long x14), (10, .int x15), (11, .int x16)] → (∀ (H1 : Heap) (locs1 : List Loc) (ls1 : Array Slot), HW X (pk w k f0) H1 → va_S (xF b0) s.heap H1 locs1 → lv_has ls1 16 [(2, .long x11), (4, .long x12), (8, .long o17), (10, .int o18)] → W p l e R s m args below meth c H1 locs1 0 0 Q (F0 m 132 ls1 [])) → W p l e R s m args below meth c H locs 0 0 Q (F0 m 53 ls []) := by
      intro n; induction n with
      | zero => intro x10 x11 x12 x13 x14 x15 x16 o17 o18 H locs ls hf; rw [m7_owedBy_L53] at hf; cases hf
      | succ n ih =>
        intro x10 x11 x12 x13 x14 x15 x16 o17 o18 H locs ls hf hP hS hl K
        rw [m7_owedBy_L53] at hf
        refine lv_iload hx hb dX7_owedBy_53 (lv_at hl 7 rfl) ?_
        refine lv_aload_n hx hb dX7_owedBy_55 rfl (lv_at hl 0 rfl) ?_
        refine st_get (i0 := 0) hx hb hts iX7_owedBy_X7 hown hP hK hk (by decide) rfl rfl 1 (by decide) hk_f21 rfl dX7_owedBy_56 ?_
        refine st_get (i0 := 2) hx hb hts iX7_owedBy_X3 hown hP hK hk (by decide) rfl rfl 0 (by decide) hk_f95 rfl dX7_owedBy_59 ?_
        refine lv_icmp_ge (tgt := 132) hx hb dX7_owedBy_62 (by decide) (fun h19 => ?_) (fun h19 => ?_)
        · rw [if_pos h19] at hf
          have hf := Option.some.inj hf
          simp only [Prod.mk.injEq] at hf
          obtain ⟨rfl, rfl⟩ := hf
          exact K _ _ _ hP hS (lv_sub hl [2, 3, 5, 6] rfl)
        · rw [if_neg h19] at hf
          refine lv_aload_n hx hb dX7_owedBy_65 rfl (lv_at hl 0 rfl) ?_
          refine st_get (i0 := 0) hx hb hts iX7_owedBy_X7 hown hP hK hk (by decide) rfl rfl 8 (by decide) hk_f74 rfl dX7_owedBy_66 ?_
          refine lv_i2l hx hb dX7_owedBy_69 rfl ?_
          refine lv_aload_n hx hb dX7_owedBy_70 rfl (lv_at hl 0 rfl) ?_
          refine st_get (i0 := 0) hx hb hts iX7_owedBy_X7 hown hP hK hk (by decide) rfl rfl 1 (by decide) hk_f21 rfl dX7_owedBy_71 ?_
          refine st_get (i0 := 2) hx hb hts iX7_owedBy_X3 hown hP hK hk (by decide) rfl rfl 2 (by decide) hk_f189 rfl dX7_owedBy_74 ?_
          refine lv_iload hx hb dX7_owedBy_77 (lv_at hl 7 rfl) ?_
          refine st_at (j := 6) (n := 8) ⟨hx, hb, hml, hown, hts⟩ hP hK hS hk (by decide) rfl hc_104 hl.1 (Nat.le_of_ble_eq_true rfl) dX7_owedBy_79 (fun H locs hP hS => ?_)
          refine lv_i2l hx hb dX7_owedBy_82 rfl ?_
          refine lv_lmul hx hb dX7_owedBy_83 ?_
          refine lv_topl (fun x20 ex20 => ?_)
          replace hf := ltn_s ex20 hf
          refine lv_lstore (lv' := [(12, .long x20), (0, .ref (xa X (51*k+0))), (1, .int x10), (2, .long x11), (4, .long x12), (6, .long x13), (8, .long x14), (10, .int x15), (11, .int x16)]) hx hb dX7_owedBy_84 hl (by decide) rfl (fun ls hl => ?_)
          refine lv_lload hx hb dX7_owedBy_86 (lv_at hl 0 rfl) ?_
          refine lv_lload_n hx hb dX7_owedBy_88 rfl (lv_at hl 3 rfl) ?_
          obtain ⟨hz21, hf⟩ := ckp_e hf
          refine lv_lrem hx hb dX7_owedBy_89 hz21 ?_
          refine lv_topl (fun x22 ex22 => ?_)
          replace hf := ltn_s ex22 hf
          refine lv_lstore (lv' := [(14, .long x22), (12, .long x20), (0, .ref (xa X (51*k+0))), (1, .int x10), (2, .long x11), (4, .long x12), (6, .long x13), (8, .long x14), (10, .int x15), (11, .int x16)]) hx hb dX7_owedBy_90 hl (by decide) rfl (fun ls hl => ?_)
          refine lv_lload hx hb dX7_owedBy_92 (lv_at hl 7 rfl) ?_
          refine lv_lload hx hb dX7_owedBy_94 (lv_at hl 1 rfl) ?_
          refine lv_lload_n hx hb dX7_owedBy_96 rfl (lv_at hl 4 rfl) ?_
          obtain ⟨hz23, hf⟩ := ckp_e hf
          refine lv_ldiv hx hb dX7_owedBy_97 hz23 ?_
          refine lv_lsub hx hb dX7_owedBy_98 ?_
          refine lv_topl (fun x24 ex24 => ?_)
          replace hf := ltn_s ex24 hf
          refine lv_lstore (lv' := [(8, .long x24), (14, .long x22), (12, .long x20), (0, .ref (xa X (51*k+0))), (1, .int x10), (2, .long x11), (4, .long x12), (6, .long x13), (10, .int x15), (11, .int x16)]) hx hb dX7_owedBy_99 hl (by decide) rfl (fun ls hl => ?_)
          refine lv_lload hx hb dX7_owedBy_101 (lv_at hl 1 rfl) ?_
          refine lv_lload hx hb dX7_owedBy_103 (lv_at hl 7 rfl) ?_
          refine W.lcmp hx hb dX7_owedBy_105 ?_
          obtain ⟨x30, ejK31, hf⟩ := lt1_e hf
          have K31 : ∀ (H : Heap) (locs : List Loc) (ls : Array Slot), HW X (pk w k f0) H → va_S (xF b0) s.heap H locs → lv_has ls 16 [(0, .ref (xa X (51*k+0))), (1, .int x10), (2, .long x11), (4, .long x12), (6, .long x13), (8, .long x24), (10, .int x30), (11, .int x16)] → W p l e R s m args below meth c H locs 0 0 Q (F0 m 126 ls []) := by
            intro H locs ls hP hS hl
            obtain ⟨x36, ex36⟩ : ∃ y : Int32, y = x16 + 1 := ⟨_, rfl⟩
            replace hf := ltn_s ex36 hf
            refine lv_iinc (v := x36) (lv' := [(11, .int x36), (0, .ref (xa X (51*k+0))), (1, .int x10), (2, .long x11), (4, .long x12), (6, .long x13), (8, .long x24), (10, .int x30)]) hx hb dX7_owedBy_126 hl (k := 7) rfl (by rw [ex36]; rfl) (by decide) rfl (fun ls hl => ?_)
            refine lv_goto (tgt := 53) hx hb dX7_owedBy_129 (by decide) ?_
            exact ih x10 x11 x12 x13 x24 x30 x36 o17 o18 _ _ _ hf hP hS (lv_sub hl [1, 2, 3, 4, 5, 6, 7, 0] rfl) K
          clear hf
          refine lv_if_gt (tgt := 123) hx hb dX7_owedBy_106 (by decide) (fun h25 => ?_) (fun h25 => ?_)
          · rw [if_pos h25] at ejK31
            obtain ⟨x32, ex32⟩ : ∃ y : Int32, y = x15 + 1 := ⟨_, rfl⟩
            replace ejK31 := ltn_s ex32 ejK31
            refine lv_iinc (v := x32) (lv' := [(10, .int x32), (8, .long x24), (14, .long x22), (12, .long x20), (0, .ref (xa X (51*k+0))), (1, .int x10), (2, .long x11), (4, .long x12), (6, .long x13), (11, .int x16)]) hx hb dX7_owedBy_123 hl (k := 8) rfl (by rw [ex32]; rfl) (by decide) rfl (fun ls hl => ?_)
            obtain rfl := ejK31
            exact K31 _ _ _ hP hS (lv_sub hl [4, 5, 6, 7, 8, 1, 0, 9] rfl)
          · rw [if_neg h25] at ejK31
            refine lv_lload hx hb dX7_owedBy_109 (lv_at hl 1 rfl) ?_
            refine lv_lload hx hb dX7_owedBy_111 (lv_at hl 7 rfl) ?_
            refine W.lcmp hx hb dX7_owedBy_113 ?_
            refine lv_if_ne (tgt := 126) hx hb dX7_owedBy_114 (by decide) (fun h33 => ?_) (fun h33 => ?_)
            · rw [if_neg h33] at ejK31
              obtain rfl := ejK31
              exact K31 _ _ _ hP hS (lv_sub hl [3, 4, 5, 6, 7, 0, 8, 9] rfl)
            · rw [if_pos h33] at ejK31
              refine lv_iload hx hb dX7_owedBy_117 (lv_at hl 9 rfl) ?_
              refine lv_iload_n hx hb dX7_owedBy_119 rfl (lv_at hl 4 rfl) ?_
              refine lv_icmp_ge (tgt := 126) hx hb dX7_owedBy_120 (by decide) (fun h34 => ?_) (fun h34 => ?_)
              · rw [if_pos h34] at ejK31
                obtain rfl := ejK31
                exact K31 _ _ _ hP hS (lv_sub hl [3, 4, 5, 6, 7, 0, 8, 9] rfl)
              · rw [if_neg h34] at ejK31
                obtain ⟨x35, ex35⟩ : ∃ y : Int32, y = x15 + 1 := ⟨_, rfl⟩
                replace ejK31 := ltn_s ex35 ejK31
                refine lv_iinc (v := x35) (lv' := [(10, .int x35), (8, .long x24), (14, .long x22), (12, .long x20), (0, .ref (xa X (51*k+0))), (1, .int x10), (2, .long x11), (4, .long x12), (6, .long x13), (11, .int x16)]) hx hb dX7_owedBy_123 hl (k := 8) rfl (by rw [ex35]; rfl) (by decide) rfl (fun ls hl => ?_)
                obtain rfl := ejK31
                exact K31 _ _ _ hP hS (lv_sub hl [4, 5, 6, 7, 8, 1, 0, 9] rfl)
    obtain ⟨x37, x38, hc39, hf⟩ := ob2_e hf
    refine L53 N a1 x3 x5 x7 x8 0 0  x37 x38 _ _ _ hc39 hP hS (lv_sub hl [6, 7, 5, 4, 3, 2, 1, 0] rfl) (fun H locs ls hP hS hl => ?_)
    refine lv_lload hx hb dX7_owedBy_132 (lv_at hl 1 rfl) ?_
    refine lv_lload_n hx hb dX7_owedBy_134 rfl (lv_at hl 0 rfl) ?_
    obtain ⟨hz40, hf⟩ := ckp_e hf
    refine lv_ldiv hx hb dX7_owedBy_135 hz40 ?_
    refine lv_l2i hx hb dX7_owedBy_136 rfl ?_
    refine lv_iload hx hb dX7_owedBy_137 (lv_at hl 3 rfl) ?_
    refine lv_i2l hx hb dX7_owedBy_139 rfl ?_
    refine lv_lload hx hb dX7_owedBy_140 (lv_at hl 2 rfl) ?_
    refine W.lcmp hx hb dX7_owedBy_142 ?_
    obtain ⟨x42, x43, ejK44, hf⟩ := lt2_e hf
    have K44 : ∀ (H : Heap) (locs : List Loc) (ls : Array Slot), HW X (pk w k f0) H → va_S (xF b0) s.heap H locs → lv_has ls 16 [] → W p l e R s m args below meth c H locs 0 0 Q (F0 m 151 ls [.int x43, .int x42]) := by
      intro H locs ls hP hS hl
      refine lv_iadd hx hb dX7_owedBy_151 ?_
      have hf := Option.some.inj hf
      obtain rfl := hf
      rw [hQ]
      exact w_iret hx hb hr hlocks hP hK hS dX7_owedBy_152 rfl rfl
    clear hf
    refine lv_if_ge (tgt := 150) hx hb dX7_owedBy_143 (by decide) (fun h41 => ?_) (fun h41 => ?_)
    · rw [if_pos h41] at ejK44
      refine lv_iconst (v := 0) hx hb dX7_owedBy_150 (by decide) ?_
      simp only [Prod.mk.injEq] at ejK44
      obtain ⟨rfl, rfl⟩ := ejK44
      exact K44 _ _ _ hP hS (lv_sub hl [] rfl)
    · rw [if_neg h41] at ejK44
      refine lv_iconst (v := 1) hx hb dX7_owedBy_146 (by decide) ?_
      refine lv_goto (tgt := 151) hx hb dX7_owedBy_147 (by decide) ?_
      simp only [Prod.mk.injEq] at ejK44
      obtain ⟨rfl, rfl⟩ := ejK44
      exact K44 _ _ _ hP hS (lv_sub hl [] rfl)
  · rw [if_neg h4] at hf
    refine lv_iconst (v := 0) hx hb dX7_owedBy_12 (by decide) ?_
    have hf := Option.some.inj hf
    obtain rfl := hf
    rw [hQ]
    exact w_iret hx hb hr hlocks hP hK hS dX7_owedBy_13 rfl rfl
