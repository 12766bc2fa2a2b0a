abbrev rmX9_bring : Room := { frames := 3, cells := 0, slots := 0, locals := 65 }
theorem iX9_bring_X9 : ∀ w ∈ wsX90, w ∈ wsX9_bring := by decide +kernel
set_option maxHeartbeats 4000000 in
set_option maxRecDepth 100000 in
theorem k9_bring (l : Launch) {X : bkX} {b0 : Nat} (hX : XO X b0) (w : bkW) {N : Nat} {s0 : Nat → Int32} {u0 : Nat → Int32} {sv0 : Nat → Int32} {tx0 : Nat → Int32} {ow0 : Nat → Int32} {rs0 : Nat → Int64} {rn0 : Nat → Int32} {nu0 : Nat → Int32} {q0 : Nat → Int32} {a1 : Int32} {a2 : Int32} {res9 : Int32} {s9 : Nat → Int32} {sv9 : Nat → Int32} {q9 : Nat → Int32} (hf : m9_bring N s0 sv0 q0 a1 a2 = some (res9, s9, sv9, q9)) : cI l yX9_bring wsX9_bring rmX9_bring X b0 [.ref (xa X 314), .int a1, .int a2] (pmm w s0 u0 sv0 tx0 ow0 rs0 rn0 nu0 q0) res9 (pmm w s9 u0 sv9 tx0 ow0 rs0 rn0 nu0 q9) := by
  refine Met.ofW (cc := cX9_bring) (maxL := 3) (ret := (some .int)) (by decide) rfl ?_
  intro p e s m args below meth c s₁ B hml hv
  obtain ⟨ha, hP, hK⟩ := hv
  have hx := B.exec
  have hb := B.bytes
  have hr := B.returns
  have hts := atoms_spec (ws := wsX9_bring) B.pre
  have hown : s.vm.findClass RX9 = some m.cls := findClass_of_methodNamed B.named
  have hlocks := B.notSynchronized
  obtain ⟨R, hR⟩ : ∃ R, R = (headSpec wsX9_bring rmX9_bring).room := ⟨_, rfl⟩
  rw [← hR]
  have hR1 : R.frames = 3 := by rw [hR]; rfl
  have hR2 : R.locals = 65 := by rw [hR]; rfl
  obtain ⟨Q, hQ⟩ : ∃ Q : State → Prop, Q = MQ below (va_Qi (fun r' (_ : Unit) => r' = res9) (fun _ t => WU X (pmm w s9 u0 sv9 tx0 ow0 rs0 rn0 nu0 q9) t) (xF b0)) args s 0 0 (xF b0) := ⟨_, rfl⟩
  rw [← hQ]
  have hS : va_S (xF b0) s.heap s.heap [] := va_S.rf
  have hl := lv_entry ([.ref (xa X 314), .int a1, .int a2]) (n := 3) (Nat.le_of_ble_eq_true rfl)
  refine W.eq ((congrArg (fun z => entryFrame m z 3) ha).trans (lg_entry_eq m _ 3)) ?_
  generalize (lg_sl ([.ref (xa X 314), .int a1, .int a2]) ++ List.replicate (3 - (lg_sl ([.ref (xa X 314), .int a1, .int a2])).length) Slot.unset).toArray = ls at hl ⊢
  have hl : lv_has ls 3 [(0, .ref (xa X 314)), (1, .int a1), (2, .int a2)] := hl
  have hc_153 := (cwV 2 hts gX9_bring_X9_bringCode rfl rfl rfl (by decide +kernel) ⟨by rw [hR1]; exact Nat.le_of_ble_eq_true rfl, by rw [hR2]; exact Nat.le_of_ble_eq_true rfl⟩ : CallW R s args RX9 RX9 153 yX9_bringCode cX9_bringCode 3 (some .int) wsX9_bringCode rmX9_bringCode 0 0 2)
  have hk_f35 := hts (.fieldLink RX9 35 "BakeTurnsModel" "thrown" "I") (by decide +kernel)
  have hc_112 := (cwV 0 hts gX9_bring_X9_save rfl rfl rfl (by decide +kernel) ⟨by rw [hR1]; exact Nat.le_of_ble_eq_true rfl, by rw [hR2]; exact Nat.le_of_ble_eq_true rfl⟩ : CallW R s args RX9 RX9 112 yX9_save cX9_save 2 none wsX9_save rmX9_save 0 0 0)
  have hc_156 := (cwV 2 hts gX9_bring_X9_bringNow rfl rfl rfl (by decide +kernel) ⟨by rw [hR1]; exact Nat.le_of_ble_eq_true rfl, by rw [hR2]; exact Nat.le_of_ble_eq_true rfl⟩ : CallW R s args RX9 RX9 156 yX9_bringNow cX9_bringNow 3 (some .int) wsX9_bringNow rmX9_bringNow 0 0 2)
  unfold m9_bring at hf
  refine lv_aload_n hx hb dX9_bring_0 rfl (lv_at hl 0 rfl) ?_
  refine lv_aload_n hx hb dX9_bring_1 rfl (lv_at hl 0 rfl) ?_
  refine lv_iload_n hx hb dX9_bring_2 rfl (lv_at hl 1 rfl) ?_
  refine lv_iload_n hx hb dX9_bring_3 rfl (lv_at hl 2 rfl) ?_
  obtain ⟨x1, hc2, hf⟩ := ob1_e hf
  refine w_ci ⟨hx, hb, hml, hown, hts⟩ hP hK hS (k9_bringCode l hX w hc2) hc_153 (w_recv hP hK (by decide) emb_mm rfl) rfl hl.1 rfl (Nat.le_of_ble_eq_true rfl) dX9_bring_4 ⟨Nat.zero_le _, Nat.zero_le _⟩ (fun H locs hP hS => ?_)
  refine mm_put hx hb hts iX9_bring_X9 hown hX hP hK hS 0 (by decide) hk_f35 rfl rfl (Nat.le_of_ble_eq_true rfl) (mm_es0 _) dX9_bring_7 (fun q3 eq3 H locs hP hS => ?_)
  replace hf := ltn_s eq3 hf
  refine lv_aload_n hx hb dX9_bring_10 rfl (lv_at hl 0 rfl) ?_
  refine w_get hx hb hts iX9_bring_X9 hown hP hK (by decide) emb_mm rfl 0 (by decide) hk_f35 rfl dX9_bring_11 ?_
  refine lv_if_le (tgt := 19) hx hb dX9_bring_14 (by decide) (fun h4 => ?_) (fun h4 => ?_)
  · rw [if_pos h4] at hf
    refine lv_aload_n hx hb dX9_bring_19 rfl (lv_at hl 0 rfl) ?_
    obtain ⟨sv5, q6, hc7, hf⟩ := ob2_e hf
    refine w_cv ⟨hx, hb, hml, hown, hts⟩ hP hK hS (k9_save l hX w hc7) hc_112 (w_recv hP hK (by decide) emb_mm rfl) rfl hl.1 rfl (Nat.le_of_ble_eq_true rfl) dX9_bring_20 ⟨Nat.zero_le _, Nat.zero_le _⟩ (fun H locs hP hS => ?_)
    refine lv_aload_n hx hb dX9_bring_23 rfl (lv_at hl 0 rfl) ?_
    refine lv_iload_n hx hb dX9_bring_24 rfl (lv_at hl 1 rfl) ?_
    refine lv_iload_n hx hb dX9_bring_25 rfl (lv_at hl 2 rfl) ?_
    obtain ⟨x8, s9, hc10, hf⟩ := ob2_e hf
    refine w_ci ⟨hx, hb, hml, hown, hts⟩ hP hK hS (k9_bringNow l hX w hc10) hc_156 (w_recv hP hK (by decide) emb_mm rfl) rfl hl.1 rfl (Nat.le_of_ble_eq_true rfl) dX9_bring_26 ⟨Nat.zero_le _, Nat.zero_le _⟩ (fun H locs hP hS => ?_)
    have hf := Option.some.inj hf
    simp only [Prod.mk.injEq] at hf
    obtain ⟨rfl, rfl, rfl, rfl⟩ := hf
    rw [hQ]
    exact w_iret hx hb hr hlocks hP hK hS dX9_bring_29 rfl rfl
  · rw [if_neg h4] at hf
    refine lv_iconst (v := 0) hx hb dX9_bring_17 (by decide) ?_
    have hf := Option.some.inj hf
    simp only [Prod.mk.injEq] at hf
    obtain ⟨rfl, rfl, rfl, rfl⟩ := hf
    rw [hQ]
    exact w_iret hx hb hr hlocks hP hK hS dX9_bring_18 rfl rfl
abbrev rmX9_stokeCode : Room := { frames := 2, cells := 0, slots := 0, locals := 43 }
theorem iX9_stokeCode_X9 : ∀ w ∈ wsX90, w ∈ wsX9_stokeCode := by decide +kernel
set_option maxHeartbeats 4000000 in
set_option maxRecDepth 100000 in
theorem k9_stokeCode (l : Launch) {X : bkX} {b0 : Nat} (hX : XO X b0) (w : bkW) {s0 : Nat → Int32} {u0 : Nat → Int32} {sv0 : Nat → Int32} {tx0 : Nat → Int32} {ow0 : Nat → Int32} {rs0 : Nat → Int64} {rn0 : Nat → Int32} {nu0 : Nat → Int32} {q0 : Nat → Int32} {a1 : Int32} {a2 : Int32} {res9 : Int32} (hf : m9_stokeCode s0 a1 a2 = some res9) : cI l yX9_stokeCode wsX9_stokeCode rmX9_stokeCode X b0 [.ref (xa X 314), .int a1, .int a2] (pmm w s0 u0 sv0 tx0 ow0 rs0 rn0 nu0 q0) res9 (pmm w s0 u0 sv0 tx0 ow0 rs0 rn0 nu0 q0) := by
  refine Met.ofW (cc := cX9_stokeCode) (maxL := 3) (ret := (some .int)) (by decide) rfl ?_
  intro p e s m args below meth c s₁ B hml hv
  obtain ⟨ha, hP, hK⟩ := hv
  have hx := B.exec
  have hb := B.bytes
  have hr := B.returns
  have hts := atoms_spec (ws := wsX9_stokeCode) B.pre
  have hown : s.vm.findClass RX9 = some m.cls := findClass_of_methodNamed B.named
  have hlocks := B.notSynchronized
  obtain ⟨R, hR⟩ : ∃ R, R = (headSpec wsX9_stokeCode rmX9_stokeCode).room := ⟨_, rfl⟩
  rw [← hR]
  have hR1 : R.frames = 2 := by rw [hR]; rfl
  have hR2 : R.locals = 43 := by rw [hR]; rfl
  obtain ⟨Q, hQ⟩ : ∃ Q : State → Prop, Q = MQ below (va_Qi (fun r' (_ : Unit) => r' = res9) (fun _ t => WU X (pmm w s0 u0 sv0 tx0 ow0 rs0 rn0 nu0 q0) t) (xF b0)) args s 0 0 (xF b0) := ⟨_, rfl⟩
  rw [← hQ]
  have hS : va_S (xF b0) s.heap s.heap [] := va_S.rf
  have hl := lv_entry ([.ref (xa X 314), .int a1, .int a2]) (n := 3) (Nat.le_of_ble_eq_true rfl)
  refine W.eq ((congrArg (fun z => entryFrame m z 3) ha).trans (lg_entry_eq m _ 3)) ?_
  generalize (lg_sl ([.ref (xa X 314), .int a1, .int a2]) ++ List.replicate (3 - (lg_sl ([.ref (xa X 314), .int a1, .int a2])).length) Slot.unset).toArray = ls at hl ⊢
  have hl : lv_has ls 3 [(0, .ref (xa X 314)), (1, .int a1), (2, .int a2)] := hl
  have hc_122 := (cwV 1 hts gX9_stokeCode_X9_isHouse rfl rfl rfl (by decide +kernel) ⟨by rw [hR1]; exact Nat.le_of_ble_eq_true rfl, by rw [hR2]; exact Nat.le_of_ble_eq_true rfl⟩ : CallW R s args RX9 RX9 122 yX9_isHouse cX9_isHouse 2 (some .boolean) wsX9_isHouse rmX9_isHouse 0 0 1)
  have hc_49 := (cwS 3 hts gX9_stokeCode_X9_in rfl rfl rfl (by decide +kernel) ⟨by rw [hR1]; exact Nat.le_of_ble_eq_true rfl, by rw [hR2]; exact Nat.le_of_ble_eq_true rfl⟩ : CallB R s args RX9 49 yX9_in cX9_in 3 (some .boolean) wsX9_in rmX9_in 0 0 3 ∧ (Cond.static yX9_in).before args s = true)
  have hc_146 := (cwV 1 hts gX9_stokeCode_X9_balance rfl rfl rfl (by decide +kernel) ⟨by rw [hR1]; exact Nat.le_of_ble_eq_true rfl, by rw [hR2]; exact Nat.le_of_ble_eq_true rfl⟩ : CallW R s args RX9 RX9 146 yX9_balance cX9_balance 2 (some .int) wsX9_balance rmX9_balance 0 0 1)
  have hk_f7 := hts (.fieldLink RX9 7 "BakeTurnsModel" "s" "[I") (by decide +kernel)
  unfold m9_stokeCode at hf
  refine lv_aload_n hx hb dX9_stokeCode_0 rfl (lv_at hl 0 rfl) ?_
  refine lv_iload_n hx hb dX9_stokeCode_1 rfl (lv_at hl 1 rfl) ?_
  obtain ⟨x1, hc2, hf⟩ := ob1_e hf
  refine w_ci ⟨hx, hb, hml, hown, hts⟩ hP hK hS (k9_isHouse l hX w hc2) hc_122 (w_recv hP hK (by decide) emb_mm rfl) rfl hl.1 rfl (Nat.le_of_ble_eq_true rfl) dX9_stokeCode_2 ⟨Nat.zero_le _, Nat.zero_le _⟩ (fun H locs hP hS => ?_)
  refine lv_if_ne (tgt := 10) hx hb dX9_stokeCode_5 (by decide) (fun h3 => ?_) (fun h3 => ?_)
  · rw [if_neg h3] at hf
    refine lv_iload_n hx hb dX9_stokeCode_10 rfl (lv_at hl 2 rfl) ?_
    refine lv_iconst (v := 1) hx hb dX9_stokeCode_11 (by decide) ?_
    refine lv_bipush (v := 16) hx hb dX9_stokeCode_12 (by decide) ?_
    obtain ⟨x4, hc5, hf⟩ := lt1_e hf
    refine w_csi ⟨hx, hb, hml, hown, hts⟩ hP hK hS (k9_in l hX (pmm w s0 u0 sv0 tx0 ow0 rs0 rn0 nu0 q0) hc5) hc_49 rfl hl.1 rfl (Nat.le_of_ble_eq_true rfl) dX9_stokeCode_14 ⟨Nat.zero_le _, Nat.zero_le _⟩ (fun H locs hP hS => ?_)
    refine lv_if_ne (tgt := 24) hx hb dX9_stokeCode_17 (by decide) (fun h6 => ?_) (fun h6 => ?_)
    · rw [if_neg h6] at hf
      refine lv_aload_n hx hb dX9_stokeCode_24 rfl (lv_at hl 0 rfl) ?_
      refine lv_iload_n hx hb dX9_stokeCode_25 rfl (lv_at hl 1 rfl) ?_
      obtain ⟨x7, hc8, hf⟩ := ob1_e hf
      refine w_ci ⟨hx, hb, hml, hown, hts⟩ hP hK hS (k9_balance l hX w hc8) hc_146 (w_recv hP hK (by decide) emb_mm rfl) rfl hl.1 rfl (Nat.le_of_ble_eq_true rfl) dX9_stokeCode_26 ⟨Nat.zero_le _, Nat.zero_le _⟩ (fun H locs hP hS => ?_)
      refine lv_iload_n hx hb dX9_stokeCode_29 rfl (lv_at hl 2 rfl) ?_
      refine lv_isub hx hb dX9_stokeCode_30 ?_
      refine lv_bipush (v := (-20)) hx hb dX9_stokeCode_31 (by decide) ?_
      refine lv_icmp_lt (tgt := 53) hx hb dX9_stokeCode_33 (by decide) (fun h9 => ?_) (fun h9 => ?_)
      · rw [if_pos h9] at hf
        refine lv_iconst (v := 3) hx hb dX9_stokeCode_53 (by decide) ?_
        refine lv_goto (tgt := 58) hx hb dX9_stokeCode_54 (by decide) ?_
        have hf := Option.some.inj hf
        obtain rfl := hf
        rw [hQ]
        exact w_iret hx hb hr hlocks hP hK hS dX9_stokeCode_58 rfl rfl
      · rw [if_neg h9] at hf
        refine lv_aload_n hx hb dX9_stokeCode_36 rfl (lv_at hl 0 rfl) ?_
        refine w_get hx hb hts iX9_stokeCode_X9 hown hP hK (by decide) emb_mm rfl 1 (by decide) hk_f7 rfl dX9_stokeCode_37 ?_
        refine lv_iconst (v := 0) hx hb dX9_stokeCode_40 (by decide) ?_
        obtain ⟨hin10, hf⟩ := ck_e hf
        refine ar_ald (g := s0) hx hb AR_s rfl hP hK hin10 dX9_stokeCode_41 ?_
        refine lv_bipush (v := 25) hx hb dX9_stokeCode_42 (by decide) ?_
        refine lv_iload_n hx hb dX9_stokeCode_44 rfl (lv_at hl 2 rfl) ?_
        refine lv_imul hx hb dX9_stokeCode_45 ?_
        refine lv_iadd hx hb dX9_stokeCode_46 ?_
        refine lv_sipush (v := 400) hx hb dX9_stokeCode_47 (by decide) ?_
        refine lv_icmp_le (tgt := 57) hx hb dX9_stokeCode_50 (by decide) (fun h11 => ?_) (fun h11 => ?_)
        · rw [if_pos h11] at hf
          refine lv_iconst (v := 0) hx hb dX9_stokeCode_57 (by decide) ?_
          have hf := Option.some.inj hf
          obtain rfl := hf
          rw [hQ]
          exact w_iret hx hb hr hlocks hP hK hS dX9_stokeCode_58 rfl rfl
        · rw [if_neg h11] at hf
          refine lv_iconst (v := 3) hx hb dX9_stokeCode_53 (by decide) ?_
          refine lv_goto (tgt := 58) hx hb dX9_stokeCode_54 (by decide) ?_
          have hf := Option.some.inj hf
          obtain rfl := hf
          rw [hQ]
          exact w_iret hx hb hr hlocks hP hK hS dX9_stokeCode_58 rfl rfl
    · rw [if_pos h6] at hf
      refine lv_iconst (v := 2) hx hb dX9_stokeCode_20 (by decide) ?_
      refine lv_goto (tgt := 58) hx hb dX9_stokeCode_21 (by decide) ?_
      have hf := Option.some.inj hf
      obtain rfl := hf
      rw [hQ]
      exact w_iret hx hb hr hlocks hP hK hS dX9_stokeCode_58 rfl rfl
  · rw [if_pos h3] at hf
    refine lv_iconst (v := 1) hx hb dX9_stokeCode_8 (by decide) ?_
    have hf := Option.some.inj hf
    obtain rfl := hf
    rw [hQ]
    exact w_iret hx hb hr hlocks hP hK hS dX9_stokeCode_9 rfl rfl
abbrev rmX9_stokeNow : Room := { frames := 1, cells := 0, slots := 0, locals := 24 }
theorem iX9_stokeNow_X9 : ∀ w ∈ wsX90, w ∈ wsX9_stokeNow := by decide +kernel
set_option maxHeartbeats 4000000 in
set_option maxRecDepth 100000 in
theorem k9_stokeNow (l : Launch) {X : bkX} {b0 : Nat} (hX : XO X b0) (w : bkW) {s0 : Nat → Int32} {u0 : Nat → Int32} {sv0 : Nat → Int32} {tx0 : Nat → Int32} {ow0 : Nat → Int32} {rs0 : Nat → Int64} {rn0 : Nat → Int32} {nu0 : Nat → Int32} {q0 : Nat → Int32} {a1 : Int32} {a2 : Int32} {res9 : Int32} {s9 : Nat → Int32} (hf : m9_stokeNow s0 a1 a2 = some (res9, s9)) : cI l yX9_stokeNow wsX9_stokeNow rmX9_stokeNow X b0 [.ref (xa X 314), .int a1, .int a2] (pmm w s0 u0 sv0 tx0 ow0 rs0 rn0 nu0 q0) res9 (pmm w s9 u0 sv0 tx0 ow0 rs0 rn0 nu0 q0) := by
  refine Met.ofW (cc := cX9_stokeNow) (maxL := 3) (ret := (some .int)) (by decide) rfl ?_
  intro p e s m args below meth c s₁ B hml hv
  obtain ⟨ha, hP, hK⟩ := hv
  have hx := B.exec
  have hb := B.bytes
  have hr := B.returns
  have hts := atoms_spec (ws := wsX9_stokeNow) B.pre
  have hown : s.vm.findClass RX9 = some m.cls := findClass_of_methodNamed B.named
  have hlocks := B.notSynchronized
  obtain ⟨R, hR⟩ : ∃ R, R = (headSpec wsX9_stokeNow rmX9_stokeNow).room := ⟨_, rfl⟩
  rw [← hR]
  have hR1 : R.frames = 1 := by rw [hR]; rfl
  have hR2 : R.locals = 24 := by rw [hR]; rfl
  obtain ⟨Q, hQ⟩ : ∃ Q : State → Prop, Q = MQ below (va_Qi (fun r' (_ : Unit) => r' = res9) (fun _ t => WU X (pmm w s9 u0 sv0 tx0 ow0 rs0 rn0 nu0 q0) t) (xF b0)) args s 0 0 (xF b0) := ⟨_, rfl⟩
  rw [← hQ]
  have hS : va_S (xF b0) s.heap s.heap [] := va_S.rf
  have hl := lv_entry ([.ref (xa X 314), .int a1, .int a2]) (n := 3) (Nat.le_of_ble_eq_true rfl)
  refine W.eq ((congrArg (fun z => entryFrame m z 3) ha).trans (lg_entry_eq m _ 3)) ?_
  generalize (lg_sl ([.ref (xa X 314), .int a1, .int a2]) ++ List.replicate (3 - (lg_sl ([.ref (xa X 314), .int a1, .int a2])).length) Slot.unset).toArray = ls at hl ⊢
  have hl : lv_has ls 3 [(0, .ref (xa X 314)), (1, .int a1), (2, .int a2)] := hl
  have hc_150 := (cwV 3 hts gX9_stokeNow_X9_grow rfl rfl rfl (by decide +kernel) ⟨by rw [hR1]; exact Nat.le_of_ble_eq_true rfl, by rw [hR2]; exact Nat.le_of_ble_eq_true rfl⟩ : CallW R s args RX9 RX9 150 yX9_grow cX9_grow 5 (some .int) wsX9_grow rmX9_grow 0 0 3)
  have hk_f7 := hts (.fieldLink RX9 7 "BakeTurnsModel" "s" "[I") (by decide +kernel)
  unfold m9_stokeNow at hf
  refine lv_aload_n hx hb dX9_stokeNow_0 rfl (lv_at hl 0 rfl) ?_
  refine lv_iload_n hx hb dX9_stokeNow_1 rfl (lv_at hl 1 rfl) ?_
  refine lv_iconst (v := 0) hx hb dX9_stokeNow_2 (by decide) ?_
  refine lv_iload_n hx hb dX9_stokeNow_3 rfl (lv_at hl 2 rfl) ?_
  refine lv_ineg hx hb dX9_stokeNow_4 ?_
  obtain ⟨x1, s2, hc3, hf⟩ := ob2_e hf
  refine w_ci ⟨hx, hb, hml, hown, hts⟩ hP hK hS (k9_grow l hX w hc3) hc_150 (w_recv hP hK (by decide) emb_mm rfl) rfl hl.1 rfl (Nat.le_of_ble_eq_true rfl) dX9_stokeNow_5 ⟨Nat.zero_le _, Nat.zero_le _⟩ (fun H locs hP hS => ?_)
  refine lv_pop hx hb dX9_stokeNow_8 rfl ?_
  refine lv_aload_n hx hb dX9_stokeNow_9 rfl (lv_at hl 0 rfl) ?_
  refine lv_iload_n hx hb dX9_stokeNow_10 rfl (lv_at hl 1 rfl) ?_
  refine lv_iconst (v := 2) hx hb dX9_stokeNow_11 (by decide) ?_
  refine lv_iload_n hx hb dX9_stokeNow_12 rfl (lv_at hl 2 rfl) ?_
  obtain ⟨x4, s5, hc6, hf⟩ := ob2_e hf
  refine w_ci ⟨hx, hb, hml, hown, hts⟩ hP hK hS (k9_grow l hX w hc6) hc_150 (w_recv hP hK (by decide) emb_mm rfl) rfl hl.1 rfl (Nat.le_of_ble_eq_true rfl) dX9_stokeNow_13 ⟨Nat.zero_le _, Nat.zero_le _⟩ (fun H locs hP hS => ?_)
  refine lv_pop hx hb dX9_stokeNow_16 rfl ?_
  refine lv_aload_n hx hb dX9_stokeNow_17 rfl (lv_at hl 0 rfl) ?_
  refine w_get hx hb hts iX9_stokeNow_X9 hown hP hK (by decide) emb_mm rfl 1 (by decide) hk_f7 rfl dX9_stokeNow_18 ?_
  refine lv_bipush (v := 6) hx hb dX9_stokeNow_21 (by decide) ?_
  refine lv_dup2_11 hx hb dX9_stokeNow_23 rfl rfl ?_
  obtain ⟨hin7, hf⟩ := ck_e hf
  refine ar_ald (g := s5) hx hb AR_s rfl hP hK hin7 dX9_stokeNow_24 ?_
  refine lv_iload_n hx hb dX9_stokeNow_25 rfl (lv_at hl 2 rfl) ?_
  refine lv_iadd hx hb dX9_stokeNow_26 ?_
  obtain ⟨hin8, hf⟩ := ck_e hf
  refine ar_ast (g := s5) hx hb hX AR_s rfl (fun z => pmm w z u0 sv0 tx0 ow0 rs0 rn0 nu0 q0) (fun z => pmm_s) hP hK hS hin8 dX9_stokeNow_27 (fun s9 es9 H locs hP hS => ?_)
  replace hf := ltn_s es9 hf
  refine lv_aload_n hx hb dX9_stokeNow_28 rfl (lv_at hl 0 rfl) ?_
  refine w_get hx hb hts iX9_stokeNow_X9 hown hP hK (by decide) emb_mm rfl 1 (by decide) hk_f7 rfl dX9_stokeNow_29 ?_
  refine lv_bipush (v := 7) hx hb dX9_stokeNow_32 (by decide) ?_
  refine lv_dup2_11 hx hb dX9_stokeNow_34 rfl rfl ?_
  obtain ⟨hin10, hf⟩ := ck_e hf
  refine ar_ald (g := s9) hx hb AR_s rfl hP hK hin10 dX9_stokeNow_35 ?_
  refine lv_iload_n hx hb dX9_stokeNow_36 rfl (lv_at hl 2 rfl) ?_
  refine lv_iadd hx hb dX9_stokeNow_37 ?_
  obtain ⟨hin11, hf⟩ := ck_e hf
  refine ar_ast (g := s9) hx hb hX AR_s rfl (fun z => pmm w z u0 sv0 tx0 ow0 rs0 rn0 nu0 q0) (fun z => pmm_s) hP hK hS hin11 dX9_stokeNow_38 (fun s12 es12 H locs hP hS => ?_)
  replace hf := ltn_s es12 hf
  refine lv_aload_n hx hb dX9_stokeNow_39 rfl (lv_at hl 0 rfl) ?_
  refine w_get hx hb hts iX9_stokeNow_X9 hown hP hK (by decide) emb_mm rfl 1 (by decide) hk_f7 rfl dX9_stokeNow_40 ?_
  refine lv_iconst (v := 0) hx hb dX9_stokeNow_43 (by decide) ?_
  refine lv_dup2_11 hx hb dX9_stokeNow_44 rfl rfl ?_
  obtain ⟨hin13, hf⟩ := ck_e hf
  refine ar_ald (g := s12) hx hb AR_s rfl hP hK hin13 dX9_stokeNow_45 ?_
  refine lv_bipush (v := 25) hx hb dX9_stokeNow_46 (by decide) ?_
  refine lv_iload_n hx hb dX9_stokeNow_48 rfl (lv_at hl 2 rfl) ?_
  refine lv_imul hx hb dX9_stokeNow_49 ?_
  refine lv_iadd hx hb dX9_stokeNow_50 ?_
  obtain ⟨hin14, hf⟩ := ck_e hf
  refine ar_ast (g := s12) hx hb hX AR_s rfl (fun z => pmm w z u0 sv0 tx0 ow0 rs0 rn0 nu0 q0) (fun z => pmm_s) hP hK hS hin14 dX9_stokeNow_51 (fun s15 es15 H locs hP hS => ?_)
  replace hf := ltn_s es15 hf
  refine lv_aload_n hx hb dX9_stokeNow_52 rfl (lv_at hl 0 rfl) ?_
  refine w_get hx hb hts iX9_stokeNow_X9 hown hP hK (by decide) emb_mm rfl 1 (by decide) hk_f7 rfl dX9_stokeNow_53 ?_
  refine lv_iconst (v := 0) hx hb dX9_stokeNow_56 (by decide) ?_
  obtain ⟨hin16, hf⟩ := ck_e hf
  refine ar_ald (g := s15) hx hb AR_s rfl hP hK hin16 dX9_stokeNow_57 ?_
  have hf := Option.some.inj hf
  simp only [Prod.mk.injEq] at hf
  obtain ⟨rfl, rfl⟩ := hf
  rw [hQ]
  exact w_iret hx hb hr hlocks hP hK hS dX9_stokeNow_58 rfl rfl
abbrev rmX9_stoke : Room := { frames := 3, cells := 0, slots := 0, locals := 65 }
theorem iX9_stoke_X9 : ∀ w ∈ wsX90, w ∈ wsX9_stoke := by decide +kernel
set_option maxHeartbeats 4000000 in
set_option maxRecDepth 100000 in
theorem k9_stoke (l : Launch) {X : bkX} {b0 : Nat} (hX : XO X b0) (w : bkW) {N : Nat} {s0 : Nat → Int32} {u0 : Nat → Int32} {sv0 : Nat → Int32} {tx0 : Nat → Int32} {ow0 : Nat → Int32} {rs0 : Nat → Int64} {rn0 : Nat → Int32} {nu0 : Nat → Int32} {q0 : Nat → Int32} {a1 : Int32} {a2 : Int32} {res9 : Int32} {s9 : Nat → Int32} {sv9 : Nat → Int32} {q9 : Nat → Int32} (hf : m9_stoke N s0 sv0 q0 a1 a2 = some (res9, s9, sv9, q9)) : cI l yX9_stoke wsX9_stoke rmX9_stoke X b0 [.ref (xa X 314), .int a1, .int a2] (pmm w s0 u0 sv0 tx0 ow0 rs0 rn0 nu0 q0) res9 (pmm w s9 u0 sv9 tx0 ow0 rs0 rn0 nu0 q9) := by
  refine Met.ofW (cc := cX9_stoke) (maxL := 3) (ret := (some .int)) (by decide) rfl ?_
  intro p e s m args below meth c s₁ B hml hv
  obtain ⟨ha, hP, hK⟩ := hv
  have hx := B.exec
  have hb := B.bytes
  have hr := B.returns
  have hts := atoms_spec (ws := wsX9_stoke) B.pre
  have hown : s.vm.findClass RX9 = some m.cls := findClass_of_methodNamed B.named
  have hlocks := B.notSynchronized
  obtain ⟨R, hR⟩ : ∃ R, R = (headSpec wsX9_stoke rmX9_stoke).room := ⟨_, rfl⟩
  rw [← hR]
  have hR1 : R.frames = 3 := by rw [hR]; rfl
  have hR2 : R.locals = 65 := by rw [hR]; rfl
  obtain ⟨Q, hQ⟩ : ∃ Q : State → Prop, Q = MQ below (va_Qi (fun r' (_ : Unit) => r' = res9) (fun _ t => WU X (pmm w s9 u0 sv9 tx0 ow0 rs0 rn0 nu0 q9) t) (xF b0)) args s 0 0 (xF b0) := ⟨_, rfl⟩
  rw [← hQ]
  have hS : va_S (xF b0) s.heap s.heap [] := va_S.rf
  have hl := lv_entry ([.ref (xa X 314), .int a1, .int a2]) (n := 3) (Nat.le_of_ble_eq_true rfl)
  refine W.eq ((congrArg (fun z => entryFrame m z 3) ha).trans (lg_entry_eq m _ 3)) ?_
  generalize (lg_sl ([.ref (xa X 314), .int a1, .int a2]) ++ List.replicate (3 - (lg_sl ([.ref (xa X 314), .int a1, .int a2])).length) Slot.unset).toArray = ls at hl ⊢
  have hl : lv_has ls 3 [(0, .ref (xa X 314)), (1, .int a1), (2, .int a2)] := hl
  have hc_159 := (cwV 2 hts gX9_stoke_X9_stokeCode rfl rfl rfl (by decide +kernel) ⟨by rw [hR1]; exact Nat.le_of_ble_eq_true rfl, by rw [hR2]; exact Nat.le_of_ble_eq_true rfl⟩ : CallW R s args RX9 RX9 159 yX9_stokeCode cX9_stokeCode 3 (some .int) wsX9_stokeCode rmX9_stokeCode 0 0 2)
  have hk_f35 := hts (.fieldLink RX9 35 "BakeTurnsModel" "thrown" "I") (by decide +kernel)
  have hc_112 := (cwV 0 hts gX9_stoke_X9_save rfl rfl rfl (by decide +kernel) ⟨by rw [hR1]; exact Nat.le_of_ble_eq_true rfl, by rw [hR2]; exact Nat.le_of_ble_eq_true rfl⟩ : CallW R s args RX9 RX9 112 yX9_save cX9_save 2 none wsX9_save rmX9_save 0 0 0)
  have hc_162 := (cwV 2 hts gX9_stoke_X9_stokeNow rfl rfl rfl (by decide +kernel) ⟨by rw [hR1]; exact Nat.le_of_ble_eq_true rfl, by rw [hR2]; exact Nat.le_of_ble_eq_true rfl⟩ : CallW R s args RX9 RX9 162 yX9_stokeNow cX9_stokeNow 3 (some .int) wsX9_stokeNow rmX9_stokeNow 0 0 2)
  unfold m9_stoke at hf
  refine lv_aload_n hx hb dX9_stoke_0 rfl (lv_at hl 0 rfl) ?_
  refine lv_aload_n hx hb dX9_stoke_1 rfl (lv_at hl 0 rfl) ?_
  refine lv_iload_n hx hb dX9_stoke_2 rfl (lv_at hl 1 rfl) ?_
  refine lv_iload_n hx hb dX9_stoke_3 rfl (lv_at hl 2 rfl) ?_
  obtain ⟨x1, hc2, hf⟩ := ob1_e hf
  refine w_ci ⟨hx, hb, hml, hown, hts⟩ hP hK hS (k9_stokeCode l hX w hc2) hc_159 (w_recv hP hK (by decide) emb_mm rfl) rfl hl.1 rfl (Nat.le_of_ble_eq_true rfl) dX9_stoke_4 ⟨Nat.zero_le _, Nat.zero_le _⟩ (fun H locs hP hS => ?_)
  refine mm_put hx hb hts iX9_stoke_X9 hown hX hP hK hS 0 (by decide) hk_f35 rfl rfl (Nat.le_of_ble_eq_true rfl) (mm_es0 _) dX9_stoke_7 (fun q3 eq3 H locs hP hS => ?_)
  replace hf := ltn_s eq3 hf
  refine lv_aload_n hx hb dX9_stoke_10 rfl (lv_at hl 0 rfl) ?_
  refine w_get hx hb hts iX9_stoke_X9 hown hP hK (by decide) emb_mm rfl 0 (by decide) hk_f35 rfl dX9_stoke_11 ?_
  refine lv_if_le (tgt := 19) hx hb dX9_stoke_14 (by decide) (fun h4 => ?_) (fun h4 => ?_)
  · rw [if_pos h4] at hf
    refine lv_aload_n hx hb dX9_stoke_19 rfl (lv_at hl 0 rfl) ?_
    obtain ⟨sv5, q6, hc7, hf⟩ := ob2_e hf
    refine w_cv ⟨hx, hb, hml, hown, hts⟩ hP hK hS (k9_save l hX w hc7) hc_112 (w_recv hP hK (by decide) emb_mm rfl) rfl hl.1 rfl (Nat.le_of_ble_eq_true rfl) dX9_stoke_20 ⟨Nat.zero_le _, Nat.zero_le _⟩ (fun H locs hP hS => ?_)
    refine lv_aload_n hx hb dX9_stoke_23 rfl (lv_at hl 0 rfl) ?_
    refine lv_iload_n hx hb dX9_stoke_24 rfl (lv_at hl 1 rfl) ?_
    refine lv_iload_n hx hb dX9_stoke_25 rfl (lv_at hl 2 rfl) ?_
    obtain ⟨x8, s9, hc10, hf⟩ := ob2_e hf
    refine w_ci ⟨hx, hb, hml, hown, hts⟩ hP hK hS (k9_stokeNow l hX w hc10) hc_162 (w_recv hP hK (by decide) emb_mm rfl) rfl hl.1 rfl (Nat.le_of_ble_eq_true rfl) dX9_stoke_26 ⟨Nat.zero_le _, Nat.zero_le _⟩ (fun H locs hP hS => ?_)
    have hf := Option.some.inj hf
    simp only [Prod.mk.injEq] at hf
    obtain ⟨rfl, rfl, rfl, rfl⟩ := hf
    rw [hQ]
    exact w_iret hx hb hr hlocks hP hK hS dX9_stoke_29 rfl rfl
  · rw [if_neg h4] at hf
    refine lv_iconst (v := 0) hx hb dX9_stoke_17 (by decide) ?_
    have hf := Option.some.inj hf
    simp only [Prod.mk.injEq] at hf
    obtain ⟨rfl, rfl, rfl, rfl⟩ := hf
    rw [hQ]
    exact w_iret hx hb hr hlocks hP hK hS dX9_stoke_18 rfl rfl
abbrev rmX9_useOfAll : Room := { frames := 0, cells := 0, slots := 0, locals := 0 }
theorem iX9_useOfAll_X9 : ∀ w ∈ wsX90, w ∈ wsX9_useOfAll := by decide +kernel
set_option maxHeartbeats 4000000 in
set_option maxRecDepth 100000 in
theorem k9_useOfAll (l : Launch) {X : bkX} {b0 : Nat} (hX : XO X b0) (w : bkW) {N : Nat} {s0 : Nat → Int32} {u0 : Nat → Int32} {sv0 : Nat → Int32} {tx0 : Nat → Int32} {ow0 : Nat → Int32} {rs0 : Nat → Int64} {rn0 : Nat → Int32} {nu0 : Nat → Int32} {q0 : Nat → Int32} {res9 : Int32} (hf : m9_useOfAll N s0 = some res9) : cI l yX9_useOfAll wsX9_useOfAll rmX9_useOfAll X b0 [.ref (xa X 314)] (pmm w s0 u0 sv0 tx0 ow0 rs0 rn0 nu0 q0) res9 (pmm w s0 u0 sv0 tx0 ow0 rs0 rn0 nu0 q0) := by
  refine Met.ofW (cc := cX9_useOfAll) (maxL := 3) (ret := (some .int)) (by decide) rfl ?_
  intro p e s m args below meth c s₁ B hml hv
  obtain ⟨ha, hP, hK⟩ := hv
  have hx := B.exec
  have hb := B.bytes
  have hr := B.returns
  have hts := atoms_spec (ws := wsX9_useOfAll) B.pre
  have hown : s.vm.findClass RX9 = some m.cls := findClass_of_methodNamed B.named
  have hlocks := B.notSynchronized
  obtain ⟨R, hR⟩ : ∃ R, R = (headSpec wsX9_useOfAll rmX9_useOfAll).room := ⟨_, rfl⟩
  rw [← hR]
  have hR1 : R.frames = 0 := by rw [hR]; rfl
  have hR2 : R.locals = 0 := by rw [hR]; rfl
  obtain ⟨Q, hQ⟩ : ∃ Q : State → Prop, Q = MQ below (va_Qi (fun r' (_ : Unit) => r' = res9) (fun _ t => WU X (pmm w s0 u0 sv0 tx0 ow0 rs0 rn0 nu0 q0) t) (xF b0)) args s 0 0 (xF b0) := ⟨_, rfl⟩
  rw [← hQ]
  have hS : va_S (xF b0) s.heap s.heap [] := va_S.rf
  have hl := lv_entry ([.ref (xa X 314)]) (n := 3) (Nat.le_of_ble_eq_true rfl)
  refine W.eq ((congrArg (fun z => entryFrame m z 3) ha).trans (lg_entry_eq m _ 3)) ?_
  generalize (lg_sl ([.ref (xa X 314)]) ++ List.replicate (3 - (lg_sl ([.ref (xa X 314)])).length) Slot.unset).toArray = ls at hl ⊢
  have hl : lv_has ls 3 [(0, .ref (xa X 314))] := hl
  have hk_f7 := hts (.fieldLink RX9 7 "BakeTurnsModel" "s" "[I") (by decide +kernel)
  unfold m9_useOfAll at hf
  refine lv_iconst (v := 0) hx hb dX9_useOfAll_0 (by decide) ?_
  refine lv_istore_n (lv' := [(1, .int 0), (0, .ref (xa X 314))]) hx hb dX9_useOfAll_1 rfl hl (by decide) rfl (fun ls hl => ?_)
  refine lv_iconst (v := 0) hx hb dX9_useOfAll_2 (by decide) ?_
  refine lv_istore_n (lv' := [(2, .int 0), (1, .int 0), (0, .ref (xa X 314))]) hx hb dX9_useOfAll_3 rfl hl (by decide) rfl (fun ls hl => ?_)
  have L4 : ∀ (n : Nat) (x2 : Int32) (x3 : Int32)  (o4 : Int32) (H : Heap) (locs : List Loc) (ls : Array Slot), m9_useOfAll_L4 N n x2 x3 s0 = some o4 → HW X (pmm w s0 u0 sv0 tx0 ow0 rs0 rn0 nu0 q0) H → va_S (xF b0) s.heap H locs → lv_has ls 3 [(0, .ref (xa X 314)), (1, .int x2), (2, .int x3)] → (∀ (H1 : Heap) (locs1 : List Loc) (ls1 : Array Slot), HW X (pmm w s0 u0 sv0 tx0 ow0 rs0 rn0 nu0 q0) H1 → va_S (xF b0) s.heap H1 locs1 → lv_has ls1 3 [(1, .int o4)] → W p l e R s m args below meth c H1 locs1 0 0 Q (F0 m 37 ls1 [])) → W p l e R s m args below meth c H locs 0 0 Q (F0 m 4 ls []) := by
    intro n; induction n with
    | zero => intro x2 x3 o4 H locs ls hf; rw [m9_useOfAll_L4] at hf; cases hf
    | succ n ih =>
      intro x2 x3 o4 H locs ls hf hP hS hl K
      rw [m9_useOfAll_L4] at hf
      refine lv_iload_n hx hb dX9_useOfAll_4 rfl (lv_at hl 2 rfl) ?_
      refine lv_aload_n hx hb dX9_useOfAll_5 rfl (lv_at hl 0 rfl) ?_
      refine w_get hx hb hts iX9_useOfAll_X9 hown hP hK (by decide) emb_mm rfl 1 (by decide) hk_f7 rfl dX9_useOfAll_6 ?_
      refine lv_iconst (v := 3) hx hb dX9_useOfAll_9 (by decide) ?_
      obtain ⟨hin5, hf⟩ := ck_e hf
      refine ar_ald (g := s0) hx hb AR_s rfl hP hK hin5 dX9_useOfAll_10 ?_
      refine lv_icmp_ge (tgt := 37) hx hb dX9_useOfAll_11 (by decide) (fun h6 => ?_) (fun h6 => ?_)
      · rw [if_pos h6] at hf
        have hf := Option.some.inj hf
        obtain rfl := hf
        exact K _ _ _ hP hS (lv_sub hl [1] rfl)
      · rw [if_neg h6] at hf
        refine lv_iload_n hx hb dX9_useOfAll_14 rfl (lv_at hl 1 rfl) ?_
        refine lv_aload_n hx hb dX9_useOfAll_15 rfl (lv_at hl 0 rfl) ?_
        refine w_get hx hb hts iX9_useOfAll_X9 hown hP hK (by decide) emb_mm rfl 1 (by decide) hk_f7 rfl dX9_useOfAll_16 ?_
        refine lv_bipush (v := 37) hx hb dX9_useOfAll_19 (by decide) ?_
        refine lv_bipush (v := 6) hx hb dX9_useOfAll_21 (by decide) ?_
        refine lv_iload_n hx hb dX9_useOfAll_23 rfl (lv_at hl 2 rfl) ?_
        refine lv_imul hx hb dX9_useOfAll_24 ?_
        refine lv_iadd hx hb dX9_useOfAll_25 ?_
        refine lv_iconst (v := 1) hx hb dX9_useOfAll_26 (by decide) ?_
        refine lv_iadd hx hb dX9_useOfAll_27 ?_
        obtain ⟨hin7, hf⟩ := ck_e hf
        refine ar_ald (g := s0) hx hb AR_s rfl hP hK hin7 dX9_useOfAll_28 ?_
        refine lv_iadd hx hb dX9_useOfAll_29 ?_
        refine lv_topi (fun x8 ex8 => ?_)
        replace hf := ltn_s ex8 hf
        refine lv_istore_n (lv' := [(1, .int x8), (0, .ref (xa X 314)), (2, .int x3)]) hx hb dX9_useOfAll_30 rfl hl (by decide) rfl (fun ls hl => ?_)
        obtain ⟨x9, ex9⟩ : ∃ y : Int32, y = x3 + 1 := ⟨_, rfl⟩
        replace hf := ltn_s ex9 hf
        refine lv_iinc (v := x9) (lv' := [(2, .int x9), (1, .int x8), (0, .ref (xa X 314))]) hx hb dX9_useOfAll_31 hl (k := 2) rfl (by rw [ex9]; rfl) (by decide) rfl (fun ls hl => ?_)
        refine lv_goto (tgt := 4) hx hb dX9_useOfAll_34 (by decide) ?_
        exact ih x8 x9 o4 _ _ _ hf hP hS (lv_sub hl [2, 1, 0] rfl) K
  obtain ⟨x10, hc11, hf⟩ := ob1_e hf
  refine L4 N 0 0  x10 _ _ _ hc11 hP hS (lv_sub hl [2, 1, 0] rfl) (fun H locs ls hP hS hl => ?_)
  refine lv_iload_n hx hb dX9_useOfAll_37 rfl (lv_at hl 0 rfl) ?_
  have hf := Option.some.inj hf
  obtain rfl := hf
  rw [hQ]
  exact w_iret hx hb hr hlocks hP hK hS dX9_useOfAll_38 rfl rfl
abbrev rmX9_share : Room := { frames := 1, cells := 0, slots := 0, locals := 22 }
theorem iX9_share_X9 : ∀ w ∈ wsX90, w ∈ wsX9_share := by decide +kernel
set_option maxHeartbeats 4000000 in
set_option maxRecDepth 100000 in
theorem k9_share (l : Launch) {X : bkX} {b0 : Nat} (hX : XO X b0) (w : bkW) {N : Nat} {s0 : Nat → Int32} {u0 : Nat → Int32} {sv0 : Nat → Int32} {tx0 : Nat → Int32} {ow0 : Nat → Int32} {rs0 : Nat → Int64} {rn0 : Nat → Int32} {nu0 : Nat → Int32} {q0 : Nat → Int32} {ow9 : Nat → Int32} {rs9 : Nat → Int64} (hf : m9_share N s0 ow0 rs0 = some (ow9, rs9)) : cV l yX9_share wsX9_share rmX9_share X b0 [.ref (xa X 314)] (pmm w s0 u0 sv0 tx0 ow0 rs0 rn0 nu0 q0) (pmm w s0 u0 sv0 tx0 ow9 rs9 rn0 nu0 q0) := by
  refine Met.ofW (cc := cX9_share) (maxL := 7) (ret := none) (by decide) rfl ?_
  intro p e s m args below meth c s₁ B hml hv
  obtain ⟨ha, hP, hK⟩ := hv
  have hx := B.exec
  have hb := B.bytes
  have hr := B.returns
  have hts := atoms_spec (ws := wsX9_share) B.pre
  have hown : s.vm.findClass RX9 = some m.cls := findClass_of_methodNamed B.named
  have hlocks := B.notSynchronized
  obtain ⟨R, hR⟩ : ∃ R, R = (headSpec wsX9_share rmX9_share).room := ⟨_, rfl⟩
  rw [← hR]
  have hR1 : R.frames = 1 := by rw [hR]; rfl
  have hR2 : R.locals = 22 := by rw [hR]; rfl
  obtain ⟨Q, hQ⟩ : ∃ Q : State → Prop, Q = MQ below (va_Qv (fun (_ : Unit) => True) (fun _ t => WU X (pmm w s0 u0 sv0 tx0 ow9 rs9 rn0 nu0 q0) t) (xF b0)) args s 0 0 (xF b0) := ⟨_, rfl⟩
  rw [← hQ]
  have hS : va_S (xF b0) s.heap s.heap [] := va_S.rf
  have hl := lv_entry ([.ref (xa X 314)]) (n := 7) (Nat.le_of_ble_eq_true rfl)
  refine W.eq ((congrArg (fun z => entryFrame m z 7) ha).trans (lg_entry_eq m _ 7)) ?_
  generalize (lg_sl ([.ref (xa X 314)]) ++ List.replicate (7 - (lg_sl ([.ref (xa X 314)])).length) Slot.unset).toArray = ls at hl ⊢
  have hl : lv_has ls 7 [(0, .ref (xa X 314))] := hl
  have hc_165 := (cwV 0 hts gX9_share_X9_useOfAll rfl rfl rfl (by decide +kernel) ⟨by rw [hR1]; exact Nat.le_of_ble_eq_true rfl, by rw [hR2]; exact Nat.le_of_ble_eq_true rfl⟩ : CallW R s args RX9 RX9 165 yX9_useOfAll cX9_useOfAll 3 (some .int) wsX9_useOfAll rmX9_useOfAll 0 0 0)
  have hk_f7 := hts (.fieldLink RX9 7 "BakeTurnsModel" "s" "[I") (by decide +kernel)
  have hk_f22 := hts (.fieldLink RX9 22 "BakeTurnsModel" "owed" "[I") (by decide +kernel)
  have hk_f25 := hts (.fieldLink RX9 25 "BakeTurnsModel" "rest" "[J") (by decide +kernel)
  have hk_c168 := hts (.constantLong RX9 168 (-1)) (by decide +kernel)
  unfold m9_share at hf
  refine lv_aload_n hx hb dX9_share_0 rfl (lv_at hl 0 rfl) ?_
  obtain ⟨x1, hc2, hf⟩ := ob1_e hf
  refine w_ci ⟨hx, hb, hml, hown, hts⟩ hP hK hS (k9_useOfAll l hX w hc2) hc_165 (w_recv hP hK (by decide) emb_mm rfl) rfl hl.1 rfl (Nat.le_of_ble_eq_true rfl) dX9_share_1 ⟨Nat.zero_le _, Nat.zero_le _⟩ (fun H locs hP hS => ?_)
  refine lv_i2l hx hb dX9_share_4 rfl ?_
  refine lv_topl (fun x3 ex3 => ?_)
  replace hf := ltn_s ex3 hf
  refine lv_lstore_n (lv' := [(1, .long x3), (0, .ref (xa X 314))]) hx hb dX9_share_5 rfl hl (by decide) rfl (fun ls hl => ?_)
  refine lv_aload_n hx hb dX9_share_6 rfl (lv_at hl 1 rfl) ?_
  refine w_get hx hb hts iX9_share_X9 hown hP hK (by decide) emb_mm rfl 1 (by decide) hk_f7 rfl dX9_share_7 ?_
  refine lv_bipush (v := 6) hx hb dX9_share_10 (by decide) ?_
  obtain ⟨hin4, hf⟩ := ck_e hf
  refine ar_ald (g := s0) hx hb AR_s rfl hP hK hin4 dX9_share_12 ?_
  refine lv_topi (fun x5 ex5 => ?_)
  replace hf := ltn_s ex5 hf
  refine lv_istore_n (lv' := [(3, .int x5), (1, .long x3), (0, .ref (xa X 314))]) hx hb dX9_share_13 rfl hl (by decide) rfl (fun ls hl => ?_)
  refine lv_iconst (v := 0) hx hb dX9_share_14 (by decide) ?_
  refine lv_istore (lv' := [(4, .int 0), (3, .int x5), (1, .long x3), (0, .ref (xa X 314))]) hx hb dX9_share_15 hl (by decide) rfl (fun ls hl => ?_)
  have L17 : ∀ (n : Nat) (x7 : Int64) (x8 : Int32) (x9 : Int32) (ow10 : Nat → Int32) (rs11 : Nat → Int64) (o12 : Int32) (oow13 : Nat → Int32) (ors14 : Nat → Int64) (H : Heap) (locs : List Loc) (ls : Array Slot), m9_share_L17 N n x7 x8 x9 s0 ow10 rs11 = some (o12, oow13, ors14) → HW X (pmm w s0 u0 sv0 tx0 ow10 rs11 rn0 nu0 q0) H → va_S (xF b0) s.heap H locs → lv_has ls 7 [(0, .ref (xa X 314)), (1, .long x7), (3, .int x8), (4, .int x9)] → (∀ (H1 : Heap) (locs1 : List Loc) (ls1 : Array Slot), HW X (pmm w s0 u0 sv0 tx0 oow13 ors14 rn0 nu0 q0) H1 → va_S (xF b0) s.heap H1 locs1 → lv_has ls1 7 [(0, .ref (xa X 314)), (1, .long x7), (3, .int o12)] → W p l e R s m args below meth c H1 locs1 0 0 Q (F0 m 114 ls1 [])) → W p l e R s m args below meth c H locs 0 0 Q (F0 m 17 ls []) := by
    intro n; induction n with
    | zero => intro x7 x8 x9 ow10 rs11 o12 oow13 ors14 H locs ls hf; rw [m9_share_L17] at hf; cases hf
    | succ n ih =>
      intro x7 x8 x9 ow10 rs11 o12 oow13 ors14 H locs ls hf hP hS hl K
      rw [m9_share_L17] at hf
      refine lv_iload hx hb dX9_share_17 (lv_at hl 3 rfl) ?_
      refine lv_aload_n hx hb dX9_share_19 rfl (lv_at hl 0 rfl) ?_
      refine w_get hx hb hts iX9_share_X9 hown hP hK (by decide) emb_mm rfl 1 (by decide) hk_f7 rfl dX9_share_20 ?_
      refine lv_iconst (v := 3) hx hb dX9_share_23 (by decide) ?_
      obtain ⟨hin15, hf⟩ := ck_e hf
      refine ar_ald (g := s0) hx hb AR_s rfl hP hK hin15 dX9_share_24 ?_
      refine lv_icmp_ge (tgt := 114) hx hb dX9_share_25 (by decide) (fun h16 => ?_) (fun h16 => ?_)
      · rw [if_pos h16] at hf
        have hf := Option.some.inj hf
        simp only [Prod.mk.injEq] at hf
        obtain ⟨rfl, rfl, rfl⟩ := hf
        exact K _ _ _ hP hS (lv_sub hl [0, 1, 2] rfl)
      · rw [if_neg h16] at hf
        refine lv_aload_n hx hb dX9_share_28 rfl (lv_at hl 0 rfl) ?_
        refine w_get hx hb hts iX9_share_X9 hown hP hK (by decide) emb_mm rfl 1 (by decide) hk_f7 rfl dX9_share_29 ?_
        refine lv_bipush (v := 6) hx hb dX9_share_32 (by decide) ?_
        obtain ⟨hin17, hf⟩ := ck_e hf
        refine ar_ald (g := s0) hx hb AR_s rfl hP hK hin17 dX9_share_34 ?_
        refine lv_i2l hx hb dX9_share_35 rfl ?_
        refine lv_aload_n hx hb dX9_share_36 rfl (lv_at hl 0 rfl) ?_
        refine w_get hx hb hts iX9_share_X9 hown hP hK (by decide) emb_mm rfl 1 (by decide) hk_f7 rfl dX9_share_37 ?_
        refine lv_bipush (v := 37) hx hb dX9_share_40 (by decide) ?_
        refine lv_bipush (v := 6) hx hb dX9_share_42 (by decide) ?_
        refine lv_iload hx hb dX9_share_44 (lv_at hl 3 rfl) ?_
        refine lv_imul hx hb dX9_share_46 ?_
        refine lv_iadd hx hb dX9_share_47 ?_
        refine lv_iconst (v := 1) hx hb dX9_share_48 (by decide) ?_
        refine lv_iadd hx hb dX9_share_49 ?_
        obtain ⟨hin18, hf⟩ := ck_e hf
        refine ar_ald (g := s0) hx hb AR_s rfl hP hK hin18 dX9_share_50 ?_
        refine lv_i2l hx hb dX9_share_51 rfl ?_
        refine lv_lmul hx hb dX9_share_52 ?_
        refine lv_topl (fun x19 ex19 => ?_)
        replace hf := ltn_s ex19 hf
        refine lv_lstore (lv' := [(5, .long x19), (0, .ref (xa X 314)), (1, .long x7), (3, .int x8), (4, .int x9)]) hx hb dX9_share_53 hl (by decide) rfl (fun ls hl => ?_)
        refine lv_aload_n hx hb dX9_share_55 rfl (lv_at hl 1 rfl) ?_
        refine w_get hx hb hts iX9_share_X9 hown hP hK (by decide) emb_mm rfl 7 (by decide) hk_f22 rfl dX9_share_56 ?_
        refine lv_iload hx hb dX9_share_59 (lv_at hl 4 rfl) ?_
        refine lv_lload_n hx hb dX9_share_61 rfl (lv_at hl 2 rfl) ?_
        refine lv_lconst (v := 0) hx hb dX9_share_62 (by decide) ?_
        refine W.lcmp hx hb dX9_share_63 ?_
        obtain ⟨x22, ejK23, hf⟩ := ob1_e hf
        have K23 : ∀ (H : Heap) (locs : List Loc) (ls : Array Slot), HW X (pmm w s0 u0 sv0 tx0 ow10 rs11 rn0 nu0 q0) H → va_S (xF b0) s.heap H locs → lv_has ls 7 [(0, .ref (xa X 314)), (1, .long x7), (3, .int x8), (4, .int x9), (5, .long x19)] → W p l e R s m args below meth c H locs 0 0 Q (F0 m 76 ls [.int x22, .int x9, .ref (xa X 319)]) := by
          intro H locs ls hP hS hl
          obtain ⟨hin25, hf⟩ := ck_e hf
          refine ar_ast (g := ow10) hx hb hX AR_ow rfl (fun z => pmm w s0 u0 sv0 tx0 z rs11 rn0 nu0 q0) (fun z => pmm_ow) hP hK hS hin25 dX9_share_76 (fun ow26 eow26 H locs hP hS => ?_)
          replace hf := ltn_s eow26 hf
          refine lv_aload_n hx hb dX9_share_77 rfl (lv_at hl 0 rfl) ?_
          refine w_get hx hb hts iX9_share_X9 hown hP hK (by decide) emb_mm rfl 8 (by decide) hk_f25 rfl dX9_share_78 ?_
          refine lv_iload hx hb dX9_share_81 (lv_at hl 3 rfl) ?_
          refine lv_lload_n hx hb dX9_share_83 rfl (lv_at hl 1 rfl) ?_
          refine lv_lconst (v := 0) hx hb dX9_share_84 (by decide) ?_
          refine W.lcmp hx hb dX9_share_85 ?_
          obtain ⟨x29, ejK30, hf⟩ := ob1_e hf
          have K30 : ∀ (H : Heap) (locs : List Loc) (ls : Array Slot), HW X (pmm w s0 u0 sv0 tx0 ow26 rs11 rn0 nu0 q0) H → va_S (xF b0) s.heap H locs → lv_has ls 7 [(0, .ref (xa X 314)), (1, .long x7), (3, .int x8), (4, .int x9)] → W p l e R s m args below meth c H locs 0 0 Q (F0 m 97 ls [.long x29, .int x9, .ref (xa X 320)]) := by
            intro H locs ls hP hS hl
            obtain ⟨hin32, hf⟩ := ck_e hf
            refine ar_last (gl := rs11) hx hb hX AR_rs rfl (fun z => pmm w s0 u0 sv0 tx0 ow26 z rn0 nu0 q0) (fun z => pmm_rs) hP hK hS hin32 dX9_share_97 (fun rs33 ers33 H locs hP hS => ?_)
            replace hf := ltn_s ers33 hf
            refine lv_iload_n hx hb dX9_share_98 rfl (lv_at hl 2 rfl) ?_
            refine lv_aload_n hx hb dX9_share_99 rfl (lv_at hl 0 rfl) ?_
            refine w_get hx hb hts iX9_share_X9 hown hP hK (by decide) emb_mm rfl 7 (by decide) hk_f22 rfl dX9_share_100 ?_
            refine lv_iload hx hb dX9_share_103 (lv_at hl 3 rfl) ?_
            obtain ⟨hin34, hf⟩ := ck_e hf
            refine ar_ald (g := ow26) hx hb AR_ow rfl hP hK hin34 dX9_share_105 ?_
            refine lv_isub hx hb dX9_share_106 ?_
            refine lv_topi (fun x35 ex35 => ?_)
            replace hf := ltn_s ex35 hf
            refine lv_istore_n (lv' := [(3, .int x35), (0, .ref (xa X 314)), (1, .long x7), (4, .int x9)]) hx hb dX9_share_107 rfl hl (by decide) rfl (fun ls hl => ?_)
            obtain ⟨x36, ex36⟩ : ∃ y : Int32, y = x9 + 1 := ⟨_, rfl⟩
            replace hf := ltn_s ex36 hf
            refine lv_iinc (v := x36) (lv' := [(4, .int x36), (3, .int x35), (0, .ref (xa X 314)), (1, .long x7)]) hx hb dX9_share_108 hl (k := 3) rfl (by rw [ex36]; rfl) (by decide) rfl (fun ls hl => ?_)
            refine lv_goto (tgt := 17) hx hb dX9_share_111 (by decide) ?_
            exact ih x7 x35 x36 ow26 rs33 o12 oow13 ors14 _ _ _ hf hP hS (lv_sub hl [2, 3, 1, 0] rfl) K
          clear hf
          refine lv_if_ne (tgt := 93) hx hb dX9_share_86 (by decide) (fun h27 => ?_) (fun h27 => ?_)
          · rw [if_neg h27] at ejK30
            refine lv_lload hx hb dX9_share_93 (lv_at hl 4 rfl) ?_
            refine lv_lload_n hx hb dX9_share_95 rfl (lv_at hl 1 rfl) ?_
            obtain ⟨hz31, ejK30⟩ := ckp_e ejK30
            refine lv_lrem hx hb dX9_share_96 hz31 ?_
            have ejK30 := Option.some.inj ejK30
            obtain rfl := ejK30
            exact K30 _ _ _ hP hS (lv_sub hl [0, 1, 2, 3] rfl)
          · rw [if_pos h27] at ejK30
            refine lv_lconst (v := 0) hx hb dX9_share_89 (by decide) ?_
            refine lv_goto (tgt := 97) hx hb dX9_share_90 (by decide) ?_
            have ejK30 := Option.some.inj ejK30
            obtain rfl := ejK30
            exact K30 _ _ _ hP hS (lv_sub hl [0, 1, 2, 3] rfl)
        clear hf
        refine lv_if_ne (tgt := 71) hx hb dX9_share_64 (by decide) (fun h20 => ?_) (fun h20 => ?_)
        · rw [if_neg h20] at ejK23
          refine lv_lload hx hb dX9_share_71 (lv_at hl 0 rfl) ?_
          refine lv_lload_n hx hb dX9_share_73 rfl (lv_at hl 2 rfl) ?_
          obtain ⟨hz24, ejK23⟩ := ckp_e ejK23
          refine lv_ldiv hx hb dX9_share_74 hz24 ?_
          refine lv_l2i hx hb dX9_share_75 rfl ?_
          have ejK23 := Option.some.inj ejK23
          obtain rfl := ejK23
          exact K23 _ _ _ hP hS (lv_sub hl [1, 2, 3, 4, 0] rfl)
        · rw [if_pos h20] at ejK23
          refine lv_iconst (v := 0) hx hb dX9_share_67 (by decide) ?_
          refine lv_goto (tgt := 76) hx hb dX9_share_68 (by decide) ?_
          have ejK23 := Option.some.inj ejK23
          obtain rfl := ejK23
          exact K23 _ _ _ hP hS (lv_sub hl [1, 2, 3, 4, 0] rfl)
  obtain ⟨x37, ow38, rs39, hc40, hf⟩ := ob3_e hf
  refine L17 N x3 x5 0 ow0 rs0 x37 ow38 rs39 _ _ _ hc40 hP hS (lv_sub hl [3, 2, 1, 0] rfl) (fun H locs ls hP hS hl => ?_)
  refine lv_iconst (v := 0) hx hb dX9_share_114 (by decide) ?_
  refine lv_istore (lv' := [(4, .int 0), (0, .ref (xa X 314)), (1, .long x3), (3, .int x37)]) hx hb dX9_share_115 hl (by decide) rfl (fun ls hl => ?_)
  have L117 : ∀ (n : Nat) (x42 : Int64) (x43 : Int32) (x44 : Int32) (ow45 : Nat → Int32) (rs46 : Nat → Int64) (oow47 : Nat → Int32) (ors48 : Nat → Int64) (H : Heap) (locs : List Loc) (ls : Array Slot), m9_share_L117 N n x42 x43 x44 s0 ow45 rs46 = some (oow47, ors48) → HW X (pmm w s0 u0 sv0 tx0 ow45 rs46 rn0 nu0 q0) H → va_S (xF b0) s.heap H locs → lv_has ls 7 [(0, .ref (xa X 314)), (1, .long x42), (3, .int x43), (4, .int x44)] → (∀ (H1 : Heap) (locs1 : List Loc) (ls1 : Array Slot), HW X (pmm w s0 u0 sv0 tx0 oow47 ors48 rn0 nu0 q0) H1 → va_S (xF b0) s.heap H1 locs1 → lv_has ls1 7 [] → W p l e R s m args below meth c H1 locs1 0 0 Q (F0 m 206 ls1 [])) → W p l e R s m args below meth c H locs 0 0 Q (F0 m 117 ls []) := by
    intro n; induction n with
    | zero => intro x42 x43 x44 ow45 rs46 oow47 ors48 H locs ls hf; rw [m9_share_L117] at hf; cases hf
    | succ n ih =>
      intro x42 x43 x44 ow45 rs46 oow47 ors48 H locs ls hf hP hS hl K
      rw [m9_share_L117] at hf
      refine lv_iload hx hb dX9_share_117 (lv_at hl 3 rfl) ?_
      refine lv_iload_n hx hb dX9_share_119 rfl (lv_at hl 2 rfl) ?_
      refine lv_icmp_ge (tgt := 206) hx hb dX9_share_120 (by decide) (fun h49 => ?_) (fun h49 => ?_)
      · rw [if_pos h49] at hf
        have hf := Option.some.inj hf
        simp only [Prod.mk.injEq] at hf
        obtain ⟨rfl, rfl⟩ := hf
        exact K _ _ _ hP hS (lv_sub hl [] rfl)
      · rw [if_neg h49] at hf
        refine lv_lload_n hx hb dX9_share_123 rfl (lv_at hl 1 rfl) ?_
        refine lv_lconst (v := 0) hx hb dX9_share_124 (by decide) ?_
        refine W.lcmp hx hb dX9_share_125 ?_
        refine lv_if_le (tgt := 206) hx hb dX9_share_126 (by decide) (fun h50 => ?_) (fun h50 => ?_)
        · rw [if_pos h50] at hf
          have hf := Option.some.inj hf
          simp only [Prod.mk.injEq] at hf
          obtain ⟨rfl, rfl⟩ := hf
          exact K _ _ _ hP hS (lv_sub hl [] rfl)
        · rw [if_neg h50] at hf
          refine lv_iconst (v := 0) hx hb dX9_share_129 (by decide) ?_
          refine lv_istore (lv' := [(5, .int 0), (0, .ref (xa X 314)), (1, .long x42), (3, .int x43), (4, .int x44)]) hx hb dX9_share_130 hl (by decide) rfl (fun ls hl => ?_)
          refine lv_iconst (v := 1) hx hb dX9_share_132 (by decide) ?_
          refine lv_istore (lv' := [(6, .int 1), (5, .int 0), (0, .ref (xa X 314)), (1, .long x42), (3, .int x43), (4, .int x44)]) hx hb dX9_share_133 hl (by decide) rfl (fun ls hl => ?_)
          have L135 : ∀ (n : Nat) (x52 : Int64) (x53 : Int32) (x54 : Int32) (x55 : Int32) (x56 : Int32)  (o57 : Int32) (H : Heap) (locs : List Loc) (ls : Array Slot), m9_share_L135 N n x52 x53 x54 x55 x56 s0 rs46 = some o57 → HW X (pmm w s0 u0 sv0 tx0 ow45 rs46 rn0 nu0 q0) H → va_S (xF b0) s.heap H locs → lv_has ls 7 [(0, .ref (xa X 314)), (1, .long x52), (3, .int x53), (4, .int x54), (5, .int x55), (6, .int x56)] → (∀ (H1 : Heap) (locs1 : List Loc) (ls1 : Array Slot), HW X (pmm w s0 u0 sv0 tx0 ow45 rs46 rn0 nu0 q0) H1 → va_S (xF b0) s.heap H1 locs1 → lv_has ls1 7 [(0, .ref (xa X 314)), (1, .long x52), (3, .int x53), (4, .int x54), (5, .int o57)] → W p l e R s m args below meth c H1 locs1 0 0 Q (F0 m 179 ls1 [])) → W p l e R s m args below meth c H locs 0 0 Q (F0 m 135 ls []) := by
            intro n; induction n with
            | zero => intro x52 x53 x54 x55 x56 o57 H locs ls hf; rw [m9_share_L135] at hf; cases hf
            | succ n ih =>
              intro x52 x53 x54 x55 x56 o57 H locs ls hf hP hS hl K
              rw [m9_share_L135] at hf
              refine lv_iload hx hb dX9_share_135 (lv_at hl 5 rfl) ?_
              refine lv_aload_n hx hb dX9_share_137 rfl (lv_at hl 0 rfl) ?_
              refine w_get hx hb hts iX9_share_X9 hown hP hK (by decide) emb_mm rfl 1 (by decide) hk_f7 rfl dX9_share_138 ?_
              refine lv_iconst (v := 3) hx hb dX9_share_141 (by decide) ?_
              obtain ⟨hin58, hf⟩ := ck_e hf
              refine ar_ald (g := s0) hx hb AR_s rfl hP hK hin58 dX9_share_142 ?_
              refine lv_icmp_ge (tgt := 179) hx hb dX9_share_143 (by decide) (fun h59 => ?_) (fun h59 => ?_)
              · rw [if_pos h59] at hf
                have hf := Option.some.inj hf
                obtain rfl := hf
                exact K _ _ _ hP hS (lv_sub hl [0, 1, 2, 3, 4] rfl)
              · rw [if_neg h59] at hf
                refine lv_aload_n hx hb dX9_share_146 rfl (lv_at hl 0 rfl) ?_
                refine w_get hx hb hts iX9_share_X9 hown hP hK (by decide) emb_mm rfl 8 (by decide) hk_f25 rfl dX9_share_147 ?_
                refine lv_iload hx hb dX9_share_150 (lv_at hl 5 rfl) ?_
                obtain ⟨hin60, hf⟩ := ck_e hf
                refine ar_lald (gl := rs46) hx hb AR_rs rfl hP hK hin60 dX9_share_152 ?_
                refine lv_aload_n hx hb dX9_share_153 rfl (lv_at hl 0 rfl) ?_
                refine w_get hx hb hts iX9_share_X9 hown hP hK (by decide) emb_mm rfl 8 (by decide) hk_f25 rfl dX9_share_154 ?_
                refine lv_iload hx hb dX9_share_157 (lv_at hl 4 rfl) ?_
                obtain ⟨hin61, hf⟩ := ck_e hf
                refine ar_lald (gl := rs46) hx hb AR_rs rfl hP hK hin61 dX9_share_159 ?_
                refine W.lcmp hx hb dX9_share_160 ?_
                obtain ⟨x63, ejK64, hf⟩ := lt1_e hf
                have K64 : ∀ (H : Heap) (locs : List Loc) (ls : Array Slot), HW X (pmm w s0 u0 sv0 tx0 ow45 rs46 rn0 nu0 q0) H → va_S (xF b0) s.heap H locs → lv_has ls 7 [(0, .ref (xa X 314)), (1, .long x52), (3, .int x53), (4, .int x54), (6, .int x56)] → W p l e R s m args below meth c H locs 0 0 Q (F0 m 171 ls [.int x63]) := by
                  intro H locs ls hP hS hl
                  refine lv_istore (lv' := [(5, .int x63), (0, .ref (xa X 314)), (1, .long x52), (3, .int x53), (4, .int x54), (6, .int x56)]) hx hb dX9_share_171 hl (by decide) rfl (fun ls hl => ?_)
                  obtain ⟨x65, ex65⟩ : ∃ y : Int32, y = x56 + 1 := ⟨_, rfl⟩
                  replace hf := ltn_s ex65 hf
                  refine lv_iinc (v := x65) (lv' := [(6, .int x65), (5, .int x63), (0, .ref (xa X 314)), (1, .long x52), (3, .int x53), (4, .int x54)]) hx hb dX9_share_173 hl (k := 5) rfl (by rw [ex65]; rfl) (by decide) rfl (fun ls hl => ?_)
                  refine lv_goto (tgt := 135) hx hb dX9_share_176 (by decide) ?_
                  exact ih x52 x53 x54 x63 x65 o57 _ _ _ hf hP hS (lv_sub hl [2, 3, 4, 5, 1, 0] rfl) K
                clear hf
                refine lv_if_le (tgt := 169) hx hb dX9_share_161 (by decide) (fun h62 => ?_) (fun h62 => ?_)
                · rw [if_pos h62] at ejK64
                  refine lv_iload hx hb dX9_share_169 (lv_at hl 4 rfl) ?_
                  obtain rfl := ejK64
                  exact K64 _ _ _ hP hS (lv_sub hl [0, 1, 2, 3, 5] rfl)
                · rw [if_neg h62] at ejK64
                  refine lv_iload hx hb dX9_share_164 (lv_at hl 5 rfl) ?_
                  refine lv_goto (tgt := 171) hx hb dX9_share_166 (by decide) ?_
                  obtain rfl := ejK64
                  exact K64 _ _ _ hP hS (lv_sub hl [0, 1, 2, 3, 5] rfl)
          obtain ⟨x66, hc67, hf⟩ := ob1_e hf
          refine L135 N x42 x43 x44 0 1  x66 _ _ _ hc67 hP hS (lv_sub hl [2, 3, 4, 5, 1, 0] rfl) (fun H locs ls hP hS hl => ?_)
          refine lv_aload_n hx hb dX9_share_179 rfl (lv_at hl 0 rfl) ?_
          refine w_get hx hb hts iX9_share_X9 hown hP hK (by decide) emb_mm rfl 7 (by decide) hk_f22 rfl dX9_share_180 ?_
          refine lv_iload hx hb dX9_share_183 (lv_at hl 4 rfl) ?_
          refine lv_dup2_11 hx hb dX9_share_185 rfl rfl ?_
          obtain ⟨hin68, hf⟩ := ck_e hf
          refine ar_ald (g := ow45) hx hb AR_ow rfl hP hK hin68 dX9_share_186 ?_
          refine lv_iconst (v := 1) hx hb dX9_share_187 (by decide) ?_
          refine lv_iadd hx hb dX9_share_188 ?_
          obtain ⟨hin69, hf⟩ := ck_e hf
          refine ar_ast (g := ow45) hx hb hX AR_ow rfl (fun z => pmm w s0 u0 sv0 tx0 z rs46 rn0 nu0 q0) (fun z => pmm_ow) hP hK hS hin69 dX9_share_189 (fun ow70 eow70 H locs hP hS => ?_)
          replace hf := ltn_s eow70 hf
          refine lv_aload_n hx hb dX9_share_190 rfl (lv_at hl 0 rfl) ?_
          refine w_get hx hb hts iX9_share_X9 hown hP hK (by decide) emb_mm rfl 8 (by decide) hk_f25 rfl dX9_share_191 ?_
          refine lv_iload hx hb dX9_share_194 (lv_at hl 4 rfl) ?_
          refine lv_ldc2 (v := (-1)) hx hb hown hk_c168 dX9_share_196 ?_
          obtain ⟨hin71, hf⟩ := ck_e hf
          refine ar_last (gl := rs46) hx hb hX AR_rs rfl (fun z => pmm w s0 u0 sv0 tx0 ow70 z rn0 nu0 q0) (fun z => pmm_rs) hP hK hS hin71 dX9_share_199 (fun rs72 ers72 H locs hP hS => ?_)
          replace hf := ltn_s ers72 hf
          obtain ⟨x73, ex73⟩ : ∃ y : Int32, y = x44 + 1 := ⟨_, rfl⟩
          replace hf := ltn_s ex73 hf
          refine lv_iinc (v := x73) (lv' := [(4, .int x73), (0, .ref (xa X 314)), (1, .long x42), (3, .int x43), (5, .int x66)]) hx hb dX9_share_200 hl (k := 3) rfl (by rw [ex73]; rfl) (by decide) rfl (fun ls hl => ?_)
          refine lv_goto (tgt := 117) hx hb dX9_share_203 (by decide) ?_
          exact ih x42 x43 x73 ow70 rs72 oow47 ors48 _ _ _ hf hP hS (lv_sub hl [1, 2, 3, 0] rfl) K
  obtain ⟨ow74, rs75, hc76, hf⟩ := ob2_e hf
  refine L117 N x3 x37 0 ow38 rs39 ow74 rs75 _ _ _ hc76 hP hS (lv_sub hl [1, 2, 3, 0] rfl) (fun H locs ls hP hS hl => ?_)
  have hf := Option.some.inj hf
  simp only [Prod.mk.injEq] at hf
  obtain ⟨rfl, rfl⟩ := hf
  rw [hQ]
  exact w_vret hx hb hr hlocks hP hK hS dX9_share_206 rfl
abbrev rmX9_settleNow : Room := { frames := 2, cells := 0, slots := 0, locals := 48 }
theorem iX9_settleNow_X9 : ∀ w ∈ wsX90, w ∈ wsX9_settleNow := by decide +kernel
set_option maxHeartbeats 4000000 in
set_option maxRecDepth 100000 in
theorem k9_settleNow (l : Launch) {X : bkX} {b0 : Nat} (hX : XO X b0) (w : bkW) {N : Nat} {s0 : Nat → Int32} {u0 : Nat → Int32} {sv0 : Nat → Int32} {tx0 : Nat → Int32} {ow0 : Nat → Int32} {rs0 : Nat → Int64} {rn0 : Nat → Int32} {nu0 : Nat → Int32} {q0 : Nat → Int32} {res9 : Int32} {s9 : Nat → Int32} {ow9 : Nat → Int32} {rs9 : Nat → Int64} (hf : m9_settleNow N s0 ow0 rs0 = some (res9, s9, ow9, rs9)) : cI l yX9_settleNow wsX9_settleNow rmX9_settleNow X b0 [.ref (xa X 314)] (pmm w s0 u0 sv0 tx0 ow0 rs0 rn0 nu0 q0) res9 (pmm w s9 u0 sv0 tx0 ow9 rs9 rn0 nu0 q0) := by
  refine Met.ofW (cc := cX9_settleNow) (maxL := 4) (ret := (some .int)) (by decide) rfl ?_
  intro p e s m args below meth c s₁ B hml hv
  obtain ⟨ha, hP, hK⟩ := hv
  have hx := B.exec
  have hb := B.bytes
  have hr := B.returns
  have hts := atoms_spec (ws := wsX9_settleNow) B.pre
  have hown : s.vm.findClass RX9 = some m.cls := findClass_of_methodNamed B.named
  have hlocks := B.notSynchronized
  obtain ⟨R, hR⟩ : ∃ R, R = (headSpec wsX9_settleNow rmX9_settleNow).room := ⟨_, rfl⟩
  rw [← hR]
  have hR1 : R.frames = 2 := by rw [hR]; rfl
  have hR2 : R.locals = 48 := by rw [hR]; rfl
  obtain ⟨Q, hQ⟩ : ∃ Q : State → Prop, Q = MQ below (va_Qi (fun r' (_ : Unit) => r' = res9) (fun _ t => WU X (pmm w s9 u0 sv0 tx0 ow9 rs9 rn0 nu0 q0) t) (xF b0)) args s 0 0 (xF b0) := ⟨_, rfl⟩
  rw [← hQ]
  have hS : va_S (xF b0) s.heap s.heap [] := va_S.rf
  have hl := lv_entry ([.ref (xa X 314)]) (n := 4) (Nat.le_of_ble_eq_true rfl)
  refine W.eq ((congrArg (fun z => entryFrame m z 4) ha).trans (lg_entry_eq m _ 4)) ?_
  generalize (lg_sl ([.ref (xa X 314)]) ++ List.replicate (4 - (lg_sl ([.ref (xa X 314)])).length) Slot.unset).toArray = ls at hl ⊢
  have hl : lv_has ls 4 [(0, .ref (xa X 314))] := hl
  have hc_165 := (cwV 0 hts gX9_settleNow_X9_useOfAll rfl rfl rfl (by decide +kernel) ⟨by rw [hR1]; exact Nat.le_of_ble_eq_true rfl, by rw [hR2]; exact Nat.le_of_ble_eq_true rfl⟩ : CallW R s args RX9 RX9 165 yX9_useOfAll cX9_useOfAll 3 (some .int) wsX9_useOfAll rmX9_useOfAll 0 0 0)
  have hc_170 := (cwV 0 hts gX9_settleNow_X9_share rfl rfl rfl (by decide +kernel) ⟨by rw [hR1]; exact Nat.le_of_ble_eq_true rfl, by rw [hR2]; exact Nat.le_of_ble_eq_true rfl⟩ : CallW R s args RX9 RX9 170 yX9_share cX9_share 7 none wsX9_share rmX9_share 0 0 0)
  have hk_f7 := hts (.fieldLink RX9 7 "BakeTurnsModel" "s" "[I") (by decide +kernel)
  have hk_f22 := hts (.fieldLink RX9 22 "BakeTurnsModel" "owed" "[I") (by decide +kernel)
  unfold m9_settleNow at hf
  refine lv_aload_n hx hb dX9_settleNow_0 rfl (lv_at hl 0 rfl) ?_
  obtain ⟨x1, hc2, hf⟩ := ob1_e hf
  refine w_ci ⟨hx, hb, hml, hown, hts⟩ hP hK hS (k9_useOfAll l hX w hc2) hc_165 (w_recv hP hK (by decide) emb_mm rfl) rfl hl.1 rfl (Nat.le_of_ble_eq_true rfl) dX9_settleNow_1 ⟨Nat.zero_le _, Nat.zero_le _⟩ (fun H locs hP hS => ?_)
  refine lv_if_ne (tgt := 9) hx hb dX9_settleNow_4 (by decide) (fun h3 => ?_) (fun h3 => ?_)
  · rw [if_neg h3] at hf
    refine lv_aload_n hx hb dX9_settleNow_9 rfl (lv_at hl 0 rfl) ?_
    obtain ⟨ow4, rs5, hc6, hf⟩ := ob2_e hf
    refine w_cv ⟨hx, hb, hml, hown, hts⟩ hP hK hS (k9_share l hX w hc6) hc_170 (w_recv hP hK (by decide) emb_mm rfl) rfl hl.1 rfl (Nat.le_of_ble_eq_true rfl) dX9_settleNow_10 ⟨Nat.zero_le _, Nat.zero_le _⟩ (fun H locs hP hS => ?_)
    refine lv_aload_n hx hb dX9_settleNow_13 rfl (lv_at hl 0 rfl) ?_
    refine w_get hx hb hts iX9_settleNow_X9 hown hP hK (by decide) emb_mm rfl 1 (by decide) hk_f7 rfl dX9_settleNow_14 ?_
    refine lv_bipush (v := 6) hx hb dX9_settleNow_17 (by decide) ?_
    obtain ⟨hin7, hf⟩ := ck_e hf
    refine ar_ald (g := s0) hx hb AR_s rfl hP hK hin7 dX9_settleNow_19 ?_
    refine lv_topi (fun x8 ex8 => ?_)
    replace hf := ltn_s ex8 hf
    refine lv_istore_n (lv' := [(1, .int x8), (0, .ref (xa X 314))]) hx hb dX9_settleNow_20 rfl hl (by decide) rfl (fun ls hl => ?_)
    refine lv_iconst (v := 0) hx hb dX9_settleNow_21 (by decide) ?_
    refine lv_istore_n (lv' := [(2, .int 0), (1, .int x8), (0, .ref (xa X 314))]) hx hb dX9_settleNow_22 rfl hl (by decide) rfl (fun ls hl => ?_)
    have L23 : ∀ (n : Nat) (x10 : Int32) (x11 : Int32) (s12 : Nat → Int32) (os13 : Nat → Int32) (H : Heap) (locs : List Loc) (ls : Array Slot), m9_settleNow_L23 N n x10 x11 s12 ow4 = some os13 → HW X (pmm w s12 u0 sv0 tx0 ow4 rs5 rn0 nu0 q0) H → va_S (xF b0) s.heap H locs → lv_has ls 4 [(0, .ref (xa X 314)), (1, .int x10), (2, .int x11)] → (∀ (H1 : Heap) (locs1 : List Loc) (ls1 : Array Slot), HW X (pmm w os13 u0 sv0 tx0 ow4 rs5 rn0 nu0 q0) H1 → va_S (xF b0) s.heap H1 locs1 → lv_has ls1 4 [(0, .ref (xa X 314)), (1, .int x10)] → W p l e R s m args below meth c H1 locs1 0 0 Q (F0 m 91 ls1 [])) → W p l e R s m args below meth c H locs 0 0 Q (F0 m 23 ls []) := by
      intro n; induction n with
      | zero => intro x10 x11 s12 os13 H locs ls hf; rw [m9_settleNow_L23] at hf; cases hf
      | succ n ih =>
        intro x10 x11 s12 os13 H locs ls hf hP hS hl K
        rw [m9_settleNow_L23] at hf
        refine lv_iload_n hx hb dX9_settleNow_23 rfl (lv_at hl 2 rfl) ?_
        refine lv_aload_n hx hb dX9_settleNow_24 rfl (lv_at hl 0 rfl) ?_
        refine w_get hx hb hts iX9_settleNow_X9 hown hP hK (by decide) emb_mm rfl 1 (by decide) hk_f7 rfl dX9_settleNow_25 ?_
        refine lv_iconst (v := 3) hx hb dX9_settleNow_28 (by decide) ?_
        obtain ⟨hin14, hf⟩ := ck_e hf
        refine ar_ald (g := s12) hx hb AR_s rfl hP hK hin14 dX9_settleNow_29 ?_
        refine lv_icmp_ge (tgt := 91) hx hb dX9_settleNow_30 (by decide) (fun h15 => ?_) (fun h15 => ?_)
        · rw [if_pos h15] at hf
          have hf := Option.some.inj hf
          obtain rfl := hf
          exact K _ _ _ hP hS (lv_sub hl [0, 1] rfl)
        · rw [if_neg h15] at hf
          refine lv_bipush (v := 37) hx hb dX9_settleNow_33 (by decide) ?_
          refine lv_bipush (v := 6) hx hb dX9_settleNow_35 (by decide) ?_
          refine lv_iload_n hx hb dX9_settleNow_37 rfl (lv_at hl 2 rfl) ?_
          refine lv_imul hx hb dX9_settleNow_38 ?_
          refine lv_iadd hx hb dX9_settleNow_39 ?_
          refine lv_topi (fun x16 ex16 => ?_)
          replace hf := ltn_s ex16 hf
          refine lv_istore_n (lv' := [(3, .int x16), (0, .ref (xa X 314)), (1, .int x10), (2, .int x11)]) hx hb dX9_settleNow_40 rfl hl (by decide) rfl (fun ls hl => ?_)
          refine lv_aload_n hx hb dX9_settleNow_41 rfl (lv_at hl 1 rfl) ?_
          refine w_get hx hb hts iX9_settleNow_X9 hown hP hK (by decide) emb_mm rfl 1 (by decide) hk_f7 rfl dX9_settleNow_42 ?_
          refine lv_iload_n hx hb dX9_settleNow_45 rfl (lv_at hl 0 rfl) ?_
          refine lv_iconst (v := 0) hx hb dX9_settleNow_46 (by decide) ?_
          refine lv_iadd hx hb dX9_settleNow_47 ?_
          refine lv_topi (fun x17 ex17 => ?_)
          replace hf := ltn_s ex17 hf
          refine lv_dup2_11 hx hb dX9_settleNow_48 rfl rfl ?_
          obtain ⟨hin18, hf⟩ := ck_e hf
          refine ar_ald (g := s12) hx hb AR_s rfl hP hK hin18 dX9_settleNow_49 ?_
          refine lv_aload_n hx hb dX9_settleNow_50 rfl (lv_at hl 1 rfl) ?_
          refine w_get hx hb hts iX9_settleNow_X9 hown hP hK (by decide) emb_mm rfl 1 (by decide) hk_f7 rfl dX9_settleNow_51 ?_
          refine lv_iload_n hx hb dX9_settleNow_54 rfl (lv_at hl 0 rfl) ?_
          refine lv_iconst (v := 2) hx hb dX9_settleNow_55 (by decide) ?_
          refine lv_iadd hx hb dX9_settleNow_56 ?_
          obtain ⟨hin19, hf⟩ := ck_e hf
          refine ar_ald (g := s12) hx hb AR_s rfl hP hK hin19 dX9_settleNow_57 ?_
          refine lv_aload_n hx hb dX9_settleNow_58 rfl (lv_at hl 1 rfl) ?_
          refine w_get hx hb hts iX9_settleNow_X9 hown hP hK (by decide) emb_mm rfl 7 (by decide) hk_f22 rfl dX9_settleNow_59 ?_
          refine lv_iload_n hx hb dX9_settleNow_62 rfl (lv_at hl 3 rfl) ?_
          obtain ⟨hin20, hf⟩ := ck_e hf
          refine ar_ald (g := ow4) hx hb AR_ow rfl hP hK hin20 dX9_settleNow_63 ?_
          refine lv_isub hx hb dX9_settleNow_64 ?_
          refine lv_iadd hx hb dX9_settleNow_65 ?_
          obtain ⟨hin21, hf⟩ := ck_e hf
          refine ar_ast (g := s12) hx hb hX AR_s rfl (fun z => pmm w z u0 sv0 tx0 ow4 rs5 rn0 nu0 q0) (fun z => pmm_s) hP hK hS hin21 dX9_settleNow_66 (fun s22 es22 H locs hP hS => ?_)
          replace hf := ltn_s es22 hf
          refine lv_aload_n hx hb dX9_settleNow_67 rfl (lv_at hl 1 rfl) ?_
          refine w_get hx hb hts iX9_settleNow_X9 hown hP hK (by decide) emb_mm rfl 1 (by decide) hk_f7 rfl dX9_settleNow_68 ?_
          refine lv_iload_n hx hb dX9_settleNow_71 rfl (lv_at hl 0 rfl) ?_
          refine lv_iconst (v := 1) hx hb dX9_settleNow_72 (by decide) ?_
          refine lv_iadd hx hb dX9_settleNow_73 ?_
          refine lv_iconst (v := 0) hx hb dX9_settleNow_74 (by decide) ?_
          obtain ⟨hin23, hf⟩ := ck_e hf
          refine ar_ast (g := s22) hx hb hX AR_s rfl (fun z => pmm w z u0 sv0 tx0 ow4 rs5 rn0 nu0 q0) (fun z => pmm_s) hP hK hS hin23 dX9_settleNow_75 (fun s24 es24 H locs hP hS => ?_)
          replace hf := ltn_s es24 hf
          refine lv_aload_n hx hb dX9_settleNow_76 rfl (lv_at hl 1 rfl) ?_
          refine w_get hx hb hts iX9_settleNow_X9 hown hP hK (by decide) emb_mm rfl 1 (by decide) hk_f7 rfl dX9_settleNow_77 ?_
          refine lv_iload_n hx hb dX9_settleNow_80 rfl (lv_at hl 0 rfl) ?_
          refine lv_iconst (v := 2) hx hb dX9_settleNow_81 (by decide) ?_
          refine lv_iadd hx hb dX9_settleNow_82 ?_
          refine lv_iconst (v := 0) hx hb dX9_settleNow_83 (by decide) ?_
          obtain ⟨hin25, hf⟩ := ck_e hf
          refine ar_ast (g := s24) hx hb hX AR_s rfl (fun z => pmm w z u0 sv0 tx0 ow4 rs5 rn0 nu0 q0) (fun z => pmm_s) hP hK hS hin25 dX9_settleNow_84 (fun s26 es26 H locs hP hS => ?_)
          replace hf := ltn_s es26 hf
          obtain ⟨x27, ex27⟩ : ∃ y : Int32, y = x11 + 1 := ⟨_, rfl⟩
          replace hf := ltn_s ex27 hf
          refine lv_iinc (v := x27) (lv' := [(2, .int x27), (3, .int x16), (0, .ref (xa X 314)), (1, .int x10)]) hx hb dX9_settleNow_85 hl (k := 3) rfl (by rw [ex27]; rfl) (by decide) rfl (fun ls hl => ?_)
          refine lv_goto (tgt := 23) hx hb dX9_settleNow_88 (by decide) ?_
          exact ih x10 x27 s26 os13 _ _ _ hf hP hS (lv_sub hl [2, 3, 0] rfl) K
    obtain ⟨s28, hc29, hf⟩ := ob1_e hf
    refine L23 N x8 0 s0 s28 _ _ _ hc29 hP hS (lv_sub hl [2, 1, 0] rfl) (fun H locs ls hP hS hl => ?_)
    refine lv_aload_n hx hb dX9_settleNow_91 rfl (lv_at hl 0 rfl) ?_
    refine w_get hx hb hts iX9_settleNow_X9 hown hP hK (by decide) emb_mm rfl 1 (by decide) hk_f7 rfl dX9_settleNow_92 ?_
    refine lv_bipush (v := 6) hx hb dX9_settleNow_95 (by decide) ?_
    refine lv_iconst (v := 0) hx hb dX9_settleNow_97 (by decide) ?_
    obtain ⟨hin30, hf⟩ := ck_e hf
    refine ar_ast (g := s28) hx hb hX AR_s rfl (fun z => pmm w z u0 sv0 tx0 ow4 rs5 rn0 nu0 q0) (fun z => pmm_s) hP hK hS hin30 dX9_settleNow_98 (fun s31 es31 H locs hP hS => ?_)
    replace hf := ltn_s es31 hf
    refine lv_iload_n hx hb dX9_settleNow_99 rfl (lv_at hl 1 rfl) ?_
    have hf := Option.some.inj hf
    simp only [Prod.mk.injEq] at hf
    obtain ⟨rfl, rfl, rfl, rfl⟩ := hf
    rw [hQ]
    exact w_iret hx hb hr hlocks hP hK hS dX9_settleNow_100 rfl rfl
  · rw [if_pos h3] at hf
    refine lv_iconst (v := 0) hx hb dX9_settleNow_7 (by decide) ?_
    have hf := Option.some.inj hf
    simp only [Prod.mk.injEq] at hf
    obtain ⟨rfl, rfl, rfl, rfl⟩ := hf
    rw [hQ]
    exact w_iret hx hb hr hlocks hP hK hS dX9_settleNow_8 rfl rfl
abbrev rmX9_settle : Room := { frames := 3, cells := 0, slots := 0, locals := 71 }
theorem iX9_settle_X9 : ∀ w ∈ wsX90, w ∈ wsX9_settle := by decide +kernel
set_option maxHeartbeats 4000000 in
set_option maxRecDepth 100000 in
theorem k9_settle (l : Launch) {X : bkX} {b0 : Nat} (hX : XO X b0) (w : bkW) {N : Nat} {s0 : Nat → Int32} {u0 : Nat → Int32} {sv0 : Nat → Int32} {tx0 : Nat → Int32} {ow0 : Nat → Int32} {rs0 : Nat → Int64} {rn0 : Nat → Int32} {nu0 : Nat → Int32} {q0 : Nat → Int32} {res9 : Int32} {s9 : Nat → Int32} {sv9 : Nat → Int32} {ow9 : Nat → Int32} {rs9 : Nat → Int64} {q9 : Nat → Int32} (hf : m9_settle N s0 sv0 ow0 rs0 q0 = some (res9, s9, sv9, ow9, rs9, q9)) : cI l yX9_settle wsX9_settle rmX9_settle X b0 [.ref (xa X 314)] (pmm w s0 u0 sv0 tx0 ow0 rs0 rn0 nu0 q0) res9 (pmm w s9 u0 sv9 tx0 ow9 rs9 rn0 nu0 q9) := by
  refine Met.ofW (cc := cX9_settle) (maxL := 1) (ret := (some .int)) (by decide) rfl ?_
  intro p e s m args below meth c s₁ B hml hv
  obtain ⟨ha, hP, hK⟩ := hv
  have hx := B.exec
  have hb := B.bytes
  have hr := B.returns
  have hts := atoms_spec (ws := wsX9_settle) B.pre
  have hown : s.vm.findClass RX9 = some m.cls := findClass_of_methodNamed B.named
  have hlocks := B.notSynchronized
  obtain ⟨R, hR⟩ : ∃ R, R = (headSpec wsX9_settle rmX9_settle).room := ⟨_, rfl⟩
  rw [← hR]
  have hR1 : R.frames = 3 := by rw [hR]; rfl
  have hR2 : R.locals = 71 := by rw [hR]; rfl
  obtain ⟨Q, hQ⟩ : ∃ Q : State → Prop, Q = MQ below (va_Qi (fun r' (_ : Unit) => r' = res9) (fun _ t => WU X (pmm w s9 u0 sv9 tx0 ow9 rs9 rn0 nu0 q9) t) (xF b0)) args s 0 0 (xF b0) := ⟨_, rfl⟩
  rw [← hQ]
  have hS : va_S (xF b0) s.heap s.heap [] := va_S.rf
  have hl := lv_entry ([.ref (xa X 314)]) (n := 1) (Nat.le_of_ble_eq_true rfl)
  refine W.eq ((congrArg (fun z => entryFrame m z 1) ha).trans (lg_entry_eq m _ 1)) ?_
  generalize (lg_sl ([.ref (xa X 314)]) ++ List.replicate (1 - (lg_sl ([.ref (xa X 314)])).length) Slot.unset).toArray = ls at hl ⊢
  have hl : lv_has ls 1 [(0, .ref (xa X 314))] := hl
  have hk_f35 := hts (.fieldLink RX9 35 "BakeTurnsModel" "thrown" "I") (by decide +kernel)
  have hc_112 := (cwV 0 hts gX9_settle_X9_save rfl rfl rfl (by decide +kernel) ⟨by rw [hR1]; exact Nat.le_of_ble_eq_true rfl, by rw [hR2]; exact Nat.le_of_ble_eq_true rfl⟩ : CallW R s args RX9 RX9 112 yX9_save cX9_save 2 none wsX9_save rmX9_save 0 0 0)
  have hc_173 := (cwV 0 hts gX9_settle_X9_settleNow rfl rfl rfl (by decide +kernel) ⟨by rw [hR1]; exact Nat.le_of_ble_eq_true rfl, by rw [hR2]; exact Nat.le_of_ble_eq_true rfl⟩ : CallW R s args RX9 RX9 173 yX9_settleNow cX9_settleNow 4 (some .int) wsX9_settleNow rmX9_settleNow 0 0 0)
  unfold m9_settle at hf
  refine lv_aload_n hx hb dX9_settle_0 rfl (lv_at hl 0 rfl) ?_
  refine lv_iconst (v := 0) hx hb dX9_settle_1 (by decide) ?_
  refine mm_put hx hb hts iX9_settle_X9 hown hX hP hK hS 0 (by decide) hk_f35 rfl rfl (Nat.le_of_ble_eq_true rfl) (mm_es0 _) dX9_settle_2 (fun q1 eq1 H locs hP hS => ?_)
  replace hf := ltn_s eq1 hf
  refine lv_aload_n hx hb dX9_settle_5 rfl (lv_at hl 0 rfl) ?_
  obtain ⟨sv2, q3, hc4, hf⟩ := ob2_e hf
  refine w_cv ⟨hx, hb, hml, hown, hts⟩ hP hK hS (k9_save l hX w hc4) hc_112 (w_recv hP hK (by decide) emb_mm rfl) rfl hl.1 rfl (Nat.le_of_ble_eq_true rfl) dX9_settle_6 ⟨Nat.zero_le _, Nat.zero_le _⟩ (fun H locs hP hS => ?_)
  refine lv_aload_n hx hb dX9_settle_9 rfl (lv_at hl 0 rfl) ?_
  obtain ⟨x5, s6, ow7, rs8, hc9, hf⟩ := ob4_e hf
  refine w_ci ⟨hx, hb, hml, hown, hts⟩ hP hK hS (k9_settleNow l hX w hc9) hc_173 (w_recv hP hK (by decide) emb_mm rfl) rfl hl.1 rfl (Nat.le_of_ble_eq_true rfl) dX9_settle_10 ⟨Nat.zero_le _, Nat.zero_le _⟩ (fun H locs hP hS => ?_)
  have hf := Option.some.inj hf
  simp only [Prod.mk.injEq] at hf
  obtain ⟨rfl, rfl, rfl, rfl, rfl, rfl⟩ := hf
  rw [hQ]
  exact w_iret hx hb hr hlocks hP hK hS dX9_settle_13 rfl rfl
abbrev rmX9_passCode : Room := { frames := 1, cells := 0, slots := 0, locals := 22 }
theorem iX9_passCode_X9 : ∀ w ∈ wsX90, w ∈ wsX9_passCode := by decide +kernel
set_option maxHeartbeats 4000000 in
set_option maxRecDepth 100000 in
theorem k9_passCode (l : Launch) {X : bkX} {b0 : Nat} (hX : XO X b0) (w : bkW) {s0 : Nat → Int32} {u0 : Nat → Int32} {sv0 : Nat → Int32} {tx0 : Nat → Int32} {ow0 : Nat → Int32} {rs0 : Nat → Int64} {rn0 : Nat → Int32} {nu0 : Nat → Int32} {q0 : Nat → Int32} {a1 : Int32} {res9 : Int32} (hf : m9_passCode s0 a1 = some res9) : cI l yX9_passCode wsX9_passCode rmX9_passCode X b0 [.ref (xa X 314), .int a1] (pmm w s0 u0 sv0 tx0 ow0 rs0 rn0 nu0 q0) res9 (pmm w s0 u0 sv0 tx0 ow0 rs0 rn0 nu0 q0) := by
  refine Met.ofW (cc := cX9_passCode) (maxL := 2) (ret := (some .int)) (by decide) rfl ?_
  intro p e s m args below meth c s₁ B hml hv
  obtain ⟨ha, hP, hK⟩ := hv
  have hx := B.exec
  have hb := B.bytes
  have hr := B.returns
  have hts := atoms_spec (ws := wsX9_passCode) B.pre
  have hown : s.vm.findClass RX9 = some m.cls := findClass_of_methodNamed B.named
  have hlocks := B.notSynchronized
  obtain ⟨R, hR⟩ : ∃ R, R = (headSpec wsX9_passCode rmX9_passCode).room := ⟨_, rfl⟩
  rw [← hR]
  have hR1 : R.frames = 1 := by rw [hR]; rfl
  have hR2 : R.locals = 22 := by rw [hR]; rfl
  obtain ⟨Q, hQ⟩ : ∃ Q : State → Prop, Q = MQ below (va_Qi (fun r' (_ : Unit) => r' = res9) (fun _ t => WU X (pmm w s0 u0 sv0 tx0 ow0 rs0 rn0 nu0 q0) t) (xF b0)) args s 0 0 (xF b0) := ⟨_, rfl⟩
  rw [← hQ]
  have hS : va_S (xF b0) s.heap s.heap [] := va_S.rf
  have hl := lv_entry ([.ref (xa X 314), .int a1]) (n := 2) (Nat.le_of_ble_eq_true rfl)
  refine W.eq ((congrArg (fun z => entryFrame m z 2) ha).trans (lg_entry_eq m _ 2)) ?_
  generalize (lg_sl ([.ref (xa X 314), .int a1]) ++ List.replicate (2 - (lg_sl ([.ref (xa X 314), .int a1])).length) Slot.unset).toArray = ls at hl ⊢
  have hl : lv_has ls 2 [(0, .ref (xa X 314)), (1, .int a1)] := hl
  have hc_49 := (cwS 3 hts gX9_passCode_X9_in rfl rfl rfl (by decide +kernel) ⟨by rw [hR1]; exact Nat.le_of_ble_eq_true rfl, by rw [hR2]; exact Nat.le_of_ble_eq_true rfl⟩ : CallB R s args RX9 49 yX9_in cX9_in 3 (some .boolean) wsX9_in rmX9_in 0 0 3 ∧ (Cond.static yX9_in).before args s = true)
  have hk_f7 := hts (.fieldLink RX9 7 "BakeTurnsModel" "s" "[I") (by decide +kernel)
  have hk_c176 := hts (.constant RX9 176 100000) (by decide +kernel)
  unfold m9_passCode at hf
  refine lv_iload_n hx hb dX9_passCode_0 rfl (lv_at hl 1 rfl) ?_
  refine lv_iconst (v := 1) hx hb dX9_passCode_1 (by decide) ?_
  refine lv_bipush (v := 100) hx hb dX9_passCode_2 (by decide) ?_
  obtain ⟨x1, hc2, hf⟩ := lt1_e hf
  refine w_csi ⟨hx, hb, hml, hown, hts⟩ hP hK hS (k9_in l hX (pmm w s0 u0 sv0 tx0 ow0 rs0 rn0 nu0 q0) hc2) hc_49 rfl hl.1 rfl (Nat.le_of_ble_eq_true rfl) dX9_passCode_4 ⟨Nat.zero_le _, Nat.zero_le _⟩ (fun H locs hP hS => ?_)
  refine lv_if_ne (tgt := 14) hx hb dX9_passCode_7 (by decide) (fun h3 => ?_) (fun h3 => ?_)
  · rw [if_neg h3] at hf
    refine lv_aload_n hx hb dX9_passCode_14 rfl (lv_at hl 0 rfl) ?_
    refine w_get hx hb hts iX9_passCode_X9 hown hP hK (by decide) emb_mm rfl 1 (by decide) hk_f7 rfl dX9_passCode_15 ?_
    refine lv_iconst (v := 1) hx hb dX9_passCode_18 (by decide) ?_
    obtain ⟨hin4, hf⟩ := ck_e hf
    refine ar_ald (g := s0) hx hb AR_s rfl hP hK hin4 dX9_passCode_19 ?_
    refine lv_iload_n hx hb dX9_passCode_20 rfl (lv_at hl 1 rfl) ?_
    refine lv_iadd hx hb dX9_passCode_21 ?_
    refine lv_ldc (v := 100000) hx hb hown hk_c176 dX9_passCode_22 ?_
    refine lv_icmp_le (tgt := 31) hx hb dX9_passCode_24 (by decide) (fun h5 => ?_) (fun h5 => ?_)
    · rw [if_pos h5] at hf
      refine lv_iconst (v := 0) hx hb dX9_passCode_31 (by decide) ?_
      have hf := Option.some.inj hf
      obtain rfl := hf
      rw [hQ]
      exact w_iret hx hb hr hlocks hP hK hS dX9_passCode_32 rfl rfl
    · rw [if_neg h5] at hf
      refine lv_iconst (v := 2) hx hb dX9_passCode_27 (by decide) ?_
      refine lv_goto (tgt := 32) hx hb dX9_passCode_28 (by decide) ?_
      have hf := Option.some.inj hf
      obtain rfl := hf
      rw [hQ]
      exact w_iret hx hb hr hlocks hP hK hS dX9_passCode_32 rfl rfl
  · rw [if_pos h3] at hf
    refine lv_iconst (v := 1) hx hb dX9_passCode_10 (by decide) ?_
    refine lv_goto (tgt := 32) hx hb dX9_passCode_11 (by decide) ?_
    have hf := Option.some.inj hf
    obtain rfl := hf
    rw [hQ]
    exact w_iret hx hb hr hlocks hP hK hS dX9_passCode_32 rfl rfl
