abbrev rmX9_owesNow : Room := { frames := 2, cells := 0, slots := 0, locals := 48 }
theorem iX9_owesNow_X9 : ∀ w ∈ wsX90, w ∈ wsX9_owesNow := by decide +kernel
set_option maxHeartbeats 4000000 in
set_option maxRecDepth 100000 in
theorem k9_owesNow (l : Launch) {X : bkX} {b0 : Nat} (hX : XO X b0) (w : bkW) {N : Nat} {s0 : Nat → Int32} {u0 : Nat → Int32} {sv0 : Nat → Int32} {tx0 : Nat → Int32} {ow0 : Nat → Int32} {rs0 : Nat → Int64} {rn0 : Nat → Int32} {nu0 : Nat → Int32} {q0 : Nat → Int32} {a1 : Int32} {res9 : Int32} {ow9 : Nat → Int32} {rs9 : Nat → Int64} (hf : m9_owesNow N s0 ow0 rs0 a1 = some (res9, ow9, rs9)) : cI l yX9_owesNow wsX9_owesNow rmX9_owesNow X b0 [.ref (xa X 314), .int a1] (pmm w s0 u0 sv0 tx0 ow0 rs0 rn0 nu0 q0) res9 (pmm w s0 u0 sv0 tx0 ow9 rs9 rn0 nu0 q0) := by
  refine Met.ofW (cc := cX9_owesNow) (maxL := 2) (ret := (some .int)) (by decide) rfl ?_
  intro p e s m args below meth c s₁ B hml hv
  obtain ⟨ha, hP, hK⟩ := hv
  have hx := B.exec
  have hb := B.bytes
  have hr := B.returns
  have hts := atoms_spec (ws := wsX9_owesNow) B.pre
  have hown : s.vm.findClass RX9 = some m.cls := findClass_of_methodNamed B.named
  have hlocks := B.notSynchronized
  obtain ⟨R, hR⟩ : ∃ R, R = (headSpec wsX9_owesNow rmX9_owesNow).room := ⟨_, rfl⟩
  rw [← hR]
  have hR1 : R.frames = 2 := by rw [hR]; rfl
  have hR2 : R.locals = 48 := by rw [hR]; rfl
  obtain ⟨Q, hQ⟩ : ∃ Q : State → Prop, Q = MQ below (va_Qi (fun r' (_ : Unit) => r' = res9) (fun _ t => WU X (pmm w s0 u0 sv0 tx0 ow9 rs9 rn0 nu0 q0) t) (xF b0)) args s 0 0 (xF b0) := ⟨_, rfl⟩
  rw [← hQ]
  have hS : va_S (xF b0) s.heap s.heap [] := va_S.rf
  have hl := lv_entry ([.ref (xa X 314), .int a1]) (n := 2) (Nat.le_of_ble_eq_true rfl)
  refine W.eq ((congrArg (fun z => entryFrame m z 2) ha).trans (lg_entry_eq m _ 2)) ?_
  generalize (lg_sl ([.ref (xa X 314), .int a1]) ++ List.replicate (2 - (lg_sl ([.ref (xa X 314), .int a1])).length) Slot.unset).toArray = ls at hl ⊢
  have hl : lv_has ls 2 [(0, .ref (xa X 314)), (1, .int a1)] := hl
  have hc_170 := (cwV 0 hts gX9_owesNow_X9_share rfl rfl rfl (by decide +kernel) ⟨by rw [hR1]; exact Nat.le_of_ble_eq_true rfl, by rw [hR2]; exact Nat.le_of_ble_eq_true rfl⟩ : CallW R s args RX9 RX9 170 yX9_share cX9_share 7 none wsX9_share rmX9_share 0 0 0)
  have hk_f22 := hts (.fieldLink RX9 22 "BakeTurnsModel" "owed" "[I") (by decide +kernel)
  unfold m9_owesNow at hf
  refine lv_aload_n hx hb dX9_owesNow_0 rfl (lv_at hl 0 rfl) ?_
  obtain ⟨ow1, rs2, hc3, hf⟩ := ob2_e hf
  refine w_cv ⟨hx, hb, hml, hown, hts⟩ hP hK hS (k9_share l hX w hc3) hc_170 (w_recv hP hK (by decide) emb_mm rfl) rfl hl.1 rfl (Nat.le_of_ble_eq_true rfl) dX9_owesNow_1 ⟨Nat.zero_le _, Nat.zero_le _⟩ (fun H locs hP hS => ?_)
  refine lv_aload_n hx hb dX9_owesNow_4 rfl (lv_at hl 0 rfl) ?_
  refine w_get hx hb hts iX9_owesNow_X9 hown hP hK (by decide) emb_mm rfl 7 (by decide) hk_f22 rfl dX9_owesNow_5 ?_
  refine lv_iload_n hx hb dX9_owesNow_8 rfl (lv_at hl 1 rfl) ?_
  obtain ⟨hin4, hf⟩ := ck_e hf
  refine ar_ald (g := ow1) hx hb AR_ow rfl hP hK hin4 dX9_owesNow_9 ?_
  have hf := Option.some.inj hf
  simp only [Prod.mk.injEq] at hf
  obtain ⟨rfl, rfl, rfl⟩ := hf
  rw [hQ]
  exact w_iret hx hb hr hlocks hP hK hS dX9_owesNow_10 rfl rfl
abbrev rmX9_owes : Room := { frames := 3, cells := 0, slots := 0, locals := 69 }
theorem iX9_owes_X9 : ∀ w ∈ wsX90, w ∈ wsX9_owes := by decide +kernel
set_option maxHeartbeats 4000000 in
set_option maxRecDepth 100000 in
theorem k9_owes (l : Launch) {X : bkX} {b0 : Nat} (hX : XO X b0) (w : bkW) {N : Nat} {s0 : Nat → Int32} {u0 : Nat → Int32} {sv0 : Nat → Int32} {tx0 : Nat → Int32} {ow0 : Nat → Int32} {rs0 : Nat → Int64} {rn0 : Nat → Int32} {nu0 : Nat → Int32} {q0 : Nat → Int32} {a1 : Int32} {res9 : Int32} {ow9 : Nat → Int32} {rs9 : Nat → Int64} {q9 : Nat → Int32} (hf : m9_owes N s0 ow0 rs0 q0 a1 = some (res9, ow9, rs9, q9)) : cI l yX9_owes wsX9_owes rmX9_owes X b0 [.ref (xa X 314), .int a1] (pmm w s0 u0 sv0 tx0 ow0 rs0 rn0 nu0 q0) res9 (pmm w s0 u0 sv0 tx0 ow9 rs9 rn0 nu0 q9) := by
  refine Met.ofW (cc := cX9_owes) (maxL := 2) (ret := (some .int)) (by decide) rfl ?_
  intro p e s m args below meth c s₁ B hml hv
  obtain ⟨ha, hP, hK⟩ := hv
  have hx := B.exec
  have hb := B.bytes
  have hr := B.returns
  have hts := atoms_spec (ws := wsX9_owes) B.pre
  have hown : s.vm.findClass RX9 = some m.cls := findClass_of_methodNamed B.named
  have hlocks := B.notSynchronized
  obtain ⟨R, hR⟩ : ∃ R, R = (headSpec wsX9_owes rmX9_owes).room := ⟨_, rfl⟩
  rw [← hR]
  have hR1 : R.frames = 3 := by rw [hR]; rfl
  have hR2 : R.locals = 69 := by rw [hR]; rfl
  obtain ⟨Q, hQ⟩ : ∃ Q : State → Prop, Q = MQ below (va_Qi (fun r' (_ : Unit) => r' = res9) (fun _ t => WU X (pmm w s0 u0 sv0 tx0 ow9 rs9 rn0 nu0 q9) t) (xF b0)) args s 0 0 (xF b0) := ⟨_, rfl⟩
  rw [← hQ]
  have hS : va_S (xF b0) s.heap s.heap [] := va_S.rf
  have hl := lv_entry ([.ref (xa X 314), .int a1]) (n := 2) (Nat.le_of_ble_eq_true rfl)
  refine W.eq ((congrArg (fun z => entryFrame m z 2) ha).trans (lg_entry_eq m _ 2)) ?_
  generalize (lg_sl ([.ref (xa X 314), .int a1]) ++ List.replicate (2 - (lg_sl ([.ref (xa X 314), .int a1])).length) Slot.unset).toArray = ls at hl ⊢
  have hl : lv_has ls 2 [(0, .ref (xa X 314)), (1, .int a1)] := hl
  have hc_122 := (cwV 1 hts gX9_owes_X9_isHouse rfl rfl rfl (by decide +kernel) ⟨by rw [hR1]; exact Nat.le_of_ble_eq_true rfl, by rw [hR2]; exact Nat.le_of_ble_eq_true rfl⟩ : CallW R s args RX9 RX9 122 yX9_isHouse cX9_isHouse 2 (some .boolean) wsX9_isHouse rmX9_isHouse 0 0 1)
  have hk_f35 := hts (.fieldLink RX9 35 "BakeTurnsModel" "thrown" "I") (by decide +kernel)
  have hc_217 := (cwV 1 hts gX9_owes_X9_owesNow rfl rfl rfl (by decide +kernel) ⟨by rw [hR1]; exact Nat.le_of_ble_eq_true rfl, by rw [hR2]; exact Nat.le_of_ble_eq_true rfl⟩ : CallW R s args RX9 RX9 217 yX9_owesNow cX9_owesNow 2 (some .int) wsX9_owesNow rmX9_owesNow 0 0 1)
  unfold m9_owes at hf
  refine lv_aload_n hx hb dX9_owes_0 rfl (lv_at hl 0 rfl) ?_
  refine lv_aload_n hx hb dX9_owes_1 rfl (lv_at hl 0 rfl) ?_
  refine lv_iload_n hx hb dX9_owes_2 rfl (lv_at hl 1 rfl) ?_
  obtain ⟨x1, hc2, hf⟩ := ob1_e hf
  refine w_ci ⟨hx, hb, hml, hown, hts⟩ hP hK hS (k9_isHouse l hX w hc2) hc_122 (w_recv hP hK (by decide) emb_mm rfl) rfl hl.1 rfl (Nat.le_of_ble_eq_true rfl) dX9_owes_3 ⟨Nat.zero_le _, Nat.zero_le _⟩ (fun H locs hP hS => ?_)
  obtain ⟨x4, ejK5, hf⟩ := lt1_e hf
  have K5 : ∀ (H : Heap) (locs : List Loc) (ls : Array Slot), HW X (pmm w s0 u0 sv0 tx0 ow0 rs0 rn0 nu0 q0) H → va_S (xF b0) s.heap H locs → lv_has ls 2 [(0, .ref (xa X 314)), (1, .int a1)] → W p l e R s m args below meth c H locs 0 0 Q (F0 m 14 ls [.int x4, .ref (xa X 314)]) := by
    intro H locs ls hP hS hl
    refine mm_put hx hb hts iX9_owes_X9 hown hX hP hK hS 0 (by decide) hk_f35 rfl rfl (Nat.le_of_ble_eq_true rfl) (mm_es0 _) dX9_owes_14 (fun q6 eq6 H locs hP hS => ?_)
    replace hf := ltn_s eq6 hf
    refine lv_aload_n hx hb dX9_owes_17 rfl (lv_at hl 0 rfl) ?_
    refine w_get hx hb hts iX9_owes_X9 hown hP hK (by decide) emb_mm rfl 0 (by decide) hk_f35 rfl dX9_owes_18 ?_
    refine lv_if_le (tgt := 28) hx hb dX9_owes_21 (by decide) (fun h7 => ?_) (fun h7 => ?_)
    · rw [if_pos h7] at hf
      refine lv_aload_n hx hb dX9_owes_28 rfl (lv_at hl 0 rfl) ?_
      refine lv_iload_n hx hb dX9_owes_29 rfl (lv_at hl 1 rfl) ?_
      obtain ⟨x8, ow9, rs10, hc11, hf⟩ := ob3_e hf
      refine w_ci ⟨hx, hb, hml, hown, hts⟩ hP hK hS (k9_owesNow l hX w hc11) hc_217 (w_recv hP hK (by decide) emb_mm rfl) rfl hl.1 rfl (Nat.le_of_ble_eq_true rfl) dX9_owes_30 ⟨Nat.zero_le _, Nat.zero_le _⟩ (fun H locs hP hS => ?_)
      have hf := Option.some.inj hf
      simp only [Prod.mk.injEq] at hf
      obtain ⟨rfl, rfl, rfl, rfl⟩ := hf
      rw [hQ]
      exact w_iret hx hb hr hlocks hP hK hS dX9_owes_33 rfl rfl
    · rw [if_neg h7] at hf
      refine lv_iconst (v := 0) hx hb dX9_owes_24 (by decide) ?_
      refine lv_goto (tgt := 33) hx hb dX9_owes_25 (by decide) ?_
      have hf := Option.some.inj hf
      simp only [Prod.mk.injEq] at hf
      obtain ⟨rfl, rfl, rfl, rfl⟩ := hf
      rw [hQ]
      exact w_iret hx hb hr hlocks hP hK hS dX9_owes_33 rfl rfl
  clear hf
  refine lv_if_eq (tgt := 13) hx hb dX9_owes_6 (by decide) (fun h3 => ?_) (fun h3 => ?_)
  · rw [if_pos h3] at ejK5
    refine lv_iconst (v := 1) hx hb dX9_owes_13 (by decide) ?_
    obtain rfl := ejK5
    exact K5 _ _ _ hP hS (lv_sub hl [0, 1] rfl)
  · rw [if_neg h3] at ejK5
    refine lv_iconst (v := 0) hx hb dX9_owes_9 (by decide) ?_
    refine lv_goto (tgt := 14) hx hb dX9_owes_10 (by decide) ?_
    obtain rfl := ejK5
    exact K5 _ _ _ hP hS (lv_sub hl [0, 1] rfl)
abbrev rmX9_type : Room := { frames := 1, cells := 0, slots := 0, locals := 22 }
theorem iX9_type_X9 : ∀ w ∈ wsX90, w ∈ wsX9_type := by decide +kernel
set_option maxHeartbeats 4000000 in
set_option maxRecDepth 100000 in
theorem k9_type (l : Launch) {X : bkX} {b0 : Nat} (hX : XO X b0) (w : bkW) {s0 : Nat → Int32} {u0 : Nat → Int32} {sv0 : Nat → Int32} {tx0 : Nat → Int32} {ow0 : Nat → Int32} {rs0 : Nat → Int64} {rn0 : Nat → Int32} {nu0 : Nat → Int32} {q0 : Nat → Int32} {a1 : Int32} {res9 : Int32} {tx9 : Nat → Int32} {q9 : Nat → Int32} (hf : m9_type tx0 q0 a1 = some (res9, tx9, q9)) : cI l yX9_type wsX9_type rmX9_type X b0 [.ref (xa X 314), .int a1] (pmm w s0 u0 sv0 tx0 ow0 rs0 rn0 nu0 q0) res9 (pmm w s0 u0 sv0 tx9 ow0 rs0 rn0 nu0 q9) := by
  refine Met.ofW (cc := cX9_type) (maxL := 2) (ret := (some .int)) (by decide) rfl ?_
  intro p e s m args below meth c s₁ B hml hv
  obtain ⟨ha, hP, hK⟩ := hv
  have hx := B.exec
  have hb := B.bytes
  have hr := B.returns
  have hts := atoms_spec (ws := wsX9_type) B.pre
  have hown : s.vm.findClass RX9 = some m.cls := findClass_of_methodNamed B.named
  have hlocks := B.notSynchronized
  obtain ⟨R, hR⟩ : ∃ R, R = (headSpec wsX9_type rmX9_type).room := ⟨_, rfl⟩
  rw [← hR]
  have hR1 : R.frames = 1 := by rw [hR]; rfl
  have hR2 : R.locals = 22 := by rw [hR]; rfl
  obtain ⟨Q, hQ⟩ : ∃ Q : State → Prop, Q = MQ below (va_Qi (fun r' (_ : Unit) => r' = res9) (fun _ t => WU X (pmm w s0 u0 sv0 tx9 ow0 rs0 rn0 nu0 q9) t) (xF b0)) args s 0 0 (xF b0) := ⟨_, rfl⟩
  rw [← hQ]
  have hS : va_S (xF b0) s.heap s.heap [] := va_S.rf
  have hl := lv_entry ([.ref (xa X 314), .int a1]) (n := 2) (Nat.le_of_ble_eq_true rfl)
  refine W.eq ((congrArg (fun z => entryFrame m z 2) ha).trans (lg_entry_eq m _ 2)) ?_
  generalize (lg_sl ([.ref (xa X 314), .int a1]) ++ List.replicate (2 - (lg_sl ([.ref (xa X 314), .int a1])).length) Slot.unset).toArray = ls at hl ⊢
  have hl : lv_has ls 2 [(0, .ref (xa X 314)), (1, .int a1)] := hl
  have hc_49 := (cwS 3 hts gX9_type_X9_in rfl rfl rfl (by decide +kernel) ⟨by rw [hR1]; exact Nat.le_of_ble_eq_true rfl, by rw [hR2]; exact Nat.le_of_ble_eq_true rfl⟩ : CallB R s args RX9 49 yX9_in cX9_in 3 (some .boolean) wsX9_in rmX9_in 0 0 3 ∧ (Cond.static yX9_in).before args s = true)
  have hk_f198 := hts (.fieldLink RX9 198 "BakeTurnsModel" "length" "I") (by decide +kernel)
  have hk_f35 := hts (.fieldLink RX9 35 "BakeTurnsModel" "thrown" "I") (by decide +kernel)
  have hk_f19 := hts (.fieldLink RX9 19 "BakeTurnsModel" "text" "[I") (by decide +kernel)
  unfold m9_type at hf
  refine lv_aload_n hx hb dX9_type_0 rfl (lv_at hl 0 rfl) ?_
  refine lv_iload_n hx hb dX9_type_1 rfl (lv_at hl 1 rfl) ?_
  refine lv_iconst (v := 0) hx hb dX9_type_2 (by decide) ?_
  refine lv_bipush (v := 127) hx hb dX9_type_3 (by decide) ?_
  obtain ⟨x1, hc2, hf⟩ := lt1_e hf
  refine w_csi ⟨hx, hb, hml, hown, hts⟩ hP hK hS (k9_in l hX (pmm w s0 u0 sv0 tx0 ow0 rs0 rn0 nu0 q0) hc2) hc_49 rfl hl.1 rfl (Nat.le_of_ble_eq_true rfl) dX9_type_5 ⟨Nat.zero_le _, Nat.zero_le _⟩ (fun H locs hP hS => ?_)
  obtain ⟨x5, ejK6, hf⟩ := lt1_e hf
  have K6 : ∀ (H : Heap) (locs : List Loc) (ls : Array Slot), HW X (pmm w s0 u0 sv0 tx0 ow0 rs0 rn0 nu0 q0) H → va_S (xF b0) s.heap H locs → lv_has ls 2 [(0, .ref (xa X 314)), (1, .int a1)] → W p l e R s m args below meth c H locs 0 0 Q (F0 m 30 ls [.int x5, .ref (xa X 314)]) := by
    intro H locs ls hP hS hl
    refine mm_put hx hb hts iX9_type_X9 hown hX hP hK hS 0 (by decide) hk_f35 rfl rfl (Nat.le_of_ble_eq_true rfl) (mm_es0 _) dX9_type_30 (fun q8 eq8 H locs hP hS => ?_)
    replace hf := ltn_s eq8 hf
    refine lv_aload_n hx hb dX9_type_33 rfl (lv_at hl 0 rfl) ?_
    refine w_get hx hb hts iX9_type_X9 hown hP hK (by decide) emb_mm rfl 0 (by decide) hk_f35 rfl dX9_type_34 ?_
    refine lv_if_le (tgt := 42) hx hb dX9_type_37 (by decide) (fun h9 => ?_) (fun h9 => ?_)
    · rw [if_pos h9] at hf
      refine lv_aload_n hx hb dX9_type_42 rfl (lv_at hl 0 rfl) ?_
      refine w_get hx hb hts iX9_type_X9 hown hP hK (by decide) emb_mm rfl 5 (by decide) hk_f19 rfl dX9_type_43 ?_
      refine lv_aload_n hx hb dX9_type_46 rfl (lv_at hl 0 rfl) ?_
      refine w_get hx hb hts iX9_type_X9 hown hP hK (by decide) emb_mm rfl 6 (by decide) hk_f198 rfl dX9_type_47 ?_
      refine lv_iload_n hx hb dX9_type_50 rfl (lv_at hl 1 rfl) ?_
      obtain ⟨hin10, hf⟩ := ck_e hf
      refine ar_ast (g := tx0) hx hb hX AR_tx rfl (fun z => pmm w s0 u0 sv0 z ow0 rs0 rn0 nu0 q8) (fun z => pmm_tx) hP hK hS hin10 dX9_type_51 (fun tx11 etx11 H locs hP hS => ?_)
      replace hf := ltn_s etx11 hf
      refine lv_aload_n hx hb dX9_type_52 rfl (lv_at hl 0 rfl) ?_
      refine lv_dup hx hb dX9_type_53 rfl ?_
      refine w_get hx hb hts iX9_type_X9 hown hP hK (by decide) emb_mm rfl 6 (by decide) hk_f198 rfl dX9_type_54 ?_
      refine lv_iconst (v := 1) hx hb dX9_type_57 (by decide) ?_
      refine lv_iadd hx hb dX9_type_58 ?_
      refine mm_put hx hb hts iX9_type_X9 hown hX hP hK hS 6 (by decide) hk_f198 rfl rfl (Nat.le_of_ble_eq_true rfl) (mm_es2 _) dX9_type_59 (fun q12 eq12 H locs hP hS => ?_)
      replace hf := ltn_s eq12 hf
      refine lv_aload_n hx hb dX9_type_62 rfl (lv_at hl 0 rfl) ?_
      refine w_get hx hb hts iX9_type_X9 hown hP hK (by decide) emb_mm rfl 6 (by decide) hk_f198 rfl dX9_type_63 ?_
      have hf := Option.some.inj hf
      simp only [Prod.mk.injEq] at hf
      obtain ⟨rfl, rfl, rfl⟩ := hf
      rw [hQ]
      exact w_iret hx hb hr hlocks hP hK hS dX9_type_66 rfl rfl
    · rw [if_neg h9] at hf
      refine lv_iconst (v := 0) hx hb dX9_type_40 (by decide) ?_
      have hf := Option.some.inj hf
      simp only [Prod.mk.injEq] at hf
      obtain ⟨rfl, rfl, rfl⟩ := hf
      rw [hQ]
      exact w_iret hx hb hr hlocks hP hK hS dX9_type_41 rfl rfl
  clear hf
  refine lv_if_ne (tgt := 15) hx hb dX9_type_8 (by decide) (fun h3 => ?_) (fun h3 => ?_)
  · rw [if_neg h3] at ejK6
    refine lv_aload_n hx hb dX9_type_15 rfl (lv_at hl 0 rfl) ?_
    refine w_get hx hb hts iX9_type_X9 hown hP hK (by decide) emb_mm rfl 6 (by decide) hk_f198 rfl dX9_type_16 ?_
    refine lv_sipush (v := 150) hx hb dX9_type_19 (by decide) ?_
    refine lv_icmp_ne (tgt := 29) hx hb dX9_type_22 (by decide) (fun h7 => ?_) (fun h7 => ?_)
    · rw [if_neg h7] at ejK6
      refine lv_iconst (v := 0) hx hb dX9_type_29 (by decide) ?_
      obtain rfl := ejK6
      exact K6 _ _ _ hP hS (lv_sub hl [0, 1] rfl)
    · rw [if_pos h7] at ejK6
      refine lv_iconst (v := 2) hx hb dX9_type_25 (by decide) ?_
      refine lv_goto (tgt := 30) hx hb dX9_type_26 (by decide) ?_
      obtain rfl := ejK6
      exact K6 _ _ _ hP hS (lv_sub hl [0, 1] rfl)
  · rw [if_pos h3] at ejK6
    refine lv_iconst (v := 1) hx hb dX9_type_11 (by decide) ?_
    refine lv_goto (tgt := 30) hx hb dX9_type_12 (by decide) ?_
    obtain rfl := ejK6
    exact K6 _ _ _ hP hS (lv_sub hl [0, 1] rfl)
abbrev rmX9_clearCommands : Room := { frames := 0, cells := 0, slots := 0, locals := 0 }
theorem iX9_clearCommands_X9 : ∀ w ∈ wsX90, w ∈ wsX9_clearCommands := by decide +kernel
set_option maxHeartbeats 4000000 in
set_option maxRecDepth 100000 in
theorem k9_clearCommands (l : Launch) {X : bkX} {b0 : Nat} (hX : XO X b0) (w : bkW) {s0 : Nat → Int32} {u0 : Nat → Int32} {sv0 : Nat → Int32} {tx0 : Nat → Int32} {ow0 : Nat → Int32} {rs0 : Nat → Int64} {rn0 : Nat → Int32} {nu0 : Nat → Int32} {q0 : Nat → Int32} {res9 : Int32} {q9 : Nat → Int32} (hf : m9_clearCommands q0 = (res9, q9)) : cI l yX9_clearCommands wsX9_clearCommands rmX9_clearCommands X b0 [.ref (xa X 314)] (pmm w s0 u0 sv0 tx0 ow0 rs0 rn0 nu0 q0) res9 (pmm w s0 u0 sv0 tx0 ow0 rs0 rn0 nu0 q9) := by
  refine Met.ofW (cc := cX9_clearCommands) (maxL := 2) (ret := (some .int)) (by decide) rfl ?_
  intro p e s m args below meth c s₁ B hml hv
  obtain ⟨ha, hP, hK⟩ := hv
  have hx := B.exec
  have hb := B.bytes
  have hr := B.returns
  have hts := atoms_spec (ws := wsX9_clearCommands) B.pre
  have hown : s.vm.findClass RX9 = some m.cls := findClass_of_methodNamed B.named
  have hlocks := B.notSynchronized
  obtain ⟨R, hR⟩ : ∃ R, R = (headSpec wsX9_clearCommands rmX9_clearCommands).room := ⟨_, rfl⟩
  rw [← hR]
  have hR1 : R.frames = 0 := by rw [hR]; rfl
  have hR2 : R.locals = 0 := by rw [hR]; rfl
  obtain ⟨Q, hQ⟩ : ∃ Q : State → Prop, Q = MQ below (va_Qi (fun r' (_ : Unit) => r' = res9) (fun _ t => WU X (pmm w s0 u0 sv0 tx0 ow0 rs0 rn0 nu0 q9) t) (xF b0)) args s 0 0 (xF b0) := ⟨_, rfl⟩
  rw [← hQ]
  have hS : va_S (xF b0) s.heap s.heap [] := va_S.rf
  have hl := lv_entry ([.ref (xa X 314)]) (n := 2) (Nat.le_of_ble_eq_true rfl)
  refine W.eq ((congrArg (fun z => entryFrame m z 2) ha).trans (lg_entry_eq m _ 2)) ?_
  generalize (lg_sl ([.ref (xa X 314)]) ++ List.replicate (2 - (lg_sl ([.ref (xa X 314)])).length) Slot.unset).toArray = ls at hl ⊢
  have hl : lv_has ls 2 [(0, .ref (xa X 314))] := hl
  have hk_f35 := hts (.fieldLink RX9 35 "BakeTurnsModel" "thrown" "I") (by decide +kernel)
  have hk_f198 := hts (.fieldLink RX9 198 "BakeTurnsModel" "length" "I") (by decide +kernel)
  unfold m9_clearCommands at hf
  refine lv_aload_n hx hb dX9_clearCommands_0 rfl (lv_at hl 0 rfl) ?_
  refine lv_iconst (v := 0) hx hb dX9_clearCommands_1 (by decide) ?_
  refine mm_put hx hb hts iX9_clearCommands_X9 hown hX hP hK hS 0 (by decide) hk_f35 rfl rfl (Nat.le_of_ble_eq_true rfl) (mm_es0 _) dX9_clearCommands_2 (fun q1 eq1 H locs hP hS => ?_)
  replace hf := ltn_s eq1 hf
  refine lv_aload_n hx hb dX9_clearCommands_5 rfl (lv_at hl 0 rfl) ?_
  refine w_get hx hb hts iX9_clearCommands_X9 hown hP hK (by decide) emb_mm rfl 6 (by decide) hk_f198 rfl dX9_clearCommands_6 ?_
  refine lv_topi (fun x2 ex2 => ?_)
  replace hf := ltn_s ex2 hf
  refine lv_istore_n (lv' := [(1, .int x2), (0, .ref (xa X 314))]) hx hb dX9_clearCommands_9 rfl hl (by decide) rfl (fun ls hl => ?_)
  refine lv_aload_n hx hb dX9_clearCommands_10 rfl (lv_at hl 1 rfl) ?_
  refine lv_iconst (v := 0) hx hb dX9_clearCommands_11 (by decide) ?_
  refine mm_put hx hb hts iX9_clearCommands_X9 hown hX hP hK hS 6 (by decide) hk_f198 rfl rfl (Nat.le_of_ble_eq_true rfl) (mm_es2 _) dX9_clearCommands_12 (fun q3 eq3 H locs hP hS => ?_)
  replace hf := ltn_s eq3 hf
  refine lv_iload_n hx hb dX9_clearCommands_15 rfl (lv_at hl 0 rfl) ?_
  simp only [Prod.mk.injEq] at hf
  obtain ⟨rfl, rfl⟩ := hf
  rw [hQ]
  exact w_iret hx hb hr hlocks hP hK hS dX9_clearCommands_16 rfl rfl
abbrev rmX9_here : Room := { frames := 0, cells := 0, slots := 0, locals := 0 }
theorem iX9_here_X9 : ∀ w ∈ wsX90, w ∈ wsX9_here := by decide +kernel
set_option maxHeartbeats 4000000 in
set_option maxRecDepth 100000 in
theorem k9_here (l : Launch) {X : bkX} {b0 : Nat} (hX : XO X b0) (w : bkW) {s0 : Nat → Int32} {u0 : Nat → Int32} {sv0 : Nat → Int32} {tx0 : Nat → Int32} {ow0 : Nat → Int32} {rs0 : Nat → Int64} {rn0 : Nat → Int32} {nu0 : Nat → Int32} {q0 : Nat → Int32} {res9 : Int32} (hf : m9_here tx0 q0 = some res9) : cI l yX9_here wsX9_here rmX9_here X b0 [.ref (xa X 314)] (pmm w s0 u0 sv0 tx0 ow0 rs0 rn0 nu0 q0) res9 (pmm w s0 u0 sv0 tx0 ow0 rs0 rn0 nu0 q0) := by
  refine Met.ofW (cc := cX9_here) (maxL := 1) (ret := (some .int)) (by decide) rfl ?_
  intro p e s m args below meth c s₁ B hml hv
  obtain ⟨ha, hP, hK⟩ := hv
  have hx := B.exec
  have hb := B.bytes
  have hr := B.returns
  have hts := atoms_spec (ws := wsX9_here) B.pre
  have hown : s.vm.findClass RX9 = some m.cls := findClass_of_methodNamed B.named
  have hlocks := B.notSynchronized
  obtain ⟨R, hR⟩ : ∃ R, R = (headSpec wsX9_here rmX9_here).room := ⟨_, rfl⟩
  rw [← hR]
  have hR1 : R.frames = 0 := by rw [hR]; rfl
  have hR2 : R.locals = 0 := by rw [hR]; rfl
  obtain ⟨Q, hQ⟩ : ∃ Q : State → Prop, Q = MQ below (va_Qi (fun r' (_ : Unit) => r' = res9) (fun _ t => WU X (pmm w s0 u0 sv0 tx0 ow0 rs0 rn0 nu0 q0) t) (xF b0)) args s 0 0 (xF b0) := ⟨_, rfl⟩
  rw [← hQ]
  have hS : va_S (xF b0) s.heap s.heap [] := va_S.rf
  have hl := lv_entry ([.ref (xa X 314)]) (n := 1) (Nat.le_of_ble_eq_true rfl)
  refine W.eq ((congrArg (fun z => entryFrame m z 1) ha).trans (lg_entry_eq m _ 1)) ?_
  generalize (lg_sl ([.ref (xa X 314)]) ++ List.replicate (1 - (lg_sl ([.ref (xa X 314)])).length) Slot.unset).toArray = ls at hl ⊢
  have hl : lv_has ls 1 [(0, .ref (xa X 314))] := hl
  have hk_f220 := hts (.fieldLink RX9 220 "BakeTurnsModel" "next" "I") (by decide +kernel)
  have hk_f198 := hts (.fieldLink RX9 198 "BakeTurnsModel" "length" "I") (by decide +kernel)
  have hk_f19 := hts (.fieldLink RX9 19 "BakeTurnsModel" "text" "[I") (by decide +kernel)
  unfold m9_here at hf
  refine lv_aload_n hx hb dX9_here_0 rfl (lv_at hl 0 rfl) ?_
  refine w_get hx hb hts iX9_here_X9 hown hP hK (by decide) emb_mm rfl 10 (by decide) hk_f220 rfl dX9_here_1 ?_
  refine lv_aload_n hx hb dX9_here_4 rfl (lv_at hl 0 rfl) ?_
  refine w_get hx hb hts iX9_here_X9 hown hP hK (by decide) emb_mm rfl 6 (by decide) hk_f198 rfl dX9_here_5 ?_
  refine lv_icmp_ge (tgt := 23) hx hb dX9_here_8 (by decide) (fun h1 => ?_) (fun h1 => ?_)
  · rw [if_pos h1] at hf
    refine lv_iconst (v := (-1)) hx hb dX9_here_23 (by decide) ?_
    have hf := Option.some.inj hf
    obtain rfl := hf
    rw [hQ]
    exact w_iret hx hb hr hlocks hP hK hS dX9_here_24 rfl rfl
  · rw [if_neg h1] at hf
    refine lv_aload_n hx hb dX9_here_11 rfl (lv_at hl 0 rfl) ?_
    refine w_get hx hb hts iX9_here_X9 hown hP hK (by decide) emb_mm rfl 5 (by decide) hk_f19 rfl dX9_here_12 ?_
    refine lv_aload_n hx hb dX9_here_15 rfl (lv_at hl 0 rfl) ?_
    refine w_get hx hb hts iX9_here_X9 hown hP hK (by decide) emb_mm rfl 10 (by decide) hk_f220 rfl dX9_here_16 ?_
    obtain ⟨hin2, hf⟩ := ck_e hf
    refine ar_ald (g := tx0) hx hb AR_tx rfl hP hK hin2 dX9_here_19 ?_
    refine lv_goto (tgt := 24) hx hb dX9_here_20 (by decide) ?_
    have hf := Option.some.inj hf
    obtain rfl := hf
    rw [hQ]
    exact w_iret hx hb hr hlocks hP hK hS dX9_here_24 rfl rfl
abbrev rmX9_isLetter : Room := { frames := 1, cells := 0, slots := 0, locals := 22 }
set_option maxHeartbeats 4000000 in
set_option maxRecDepth 100000 in
theorem k9_isLetter (l : Launch) {X : bkX} {b0 : Nat} (hX : XO X b0) (w : bkW) {s0 : Nat → Int32} {u0 : Nat → Int32} {sv0 : Nat → Int32} {tx0 : Nat → Int32} {ow0 : Nat → Int32} {rs0 : Nat → Int64} {rn0 : Nat → Int32} {nu0 : Nat → Int32} {q0 : Nat → Int32} {res9 : Int32} (hf : m9_isLetter tx0 q0 = some res9) : cI l yX9_isLetter wsX9_isLetter rmX9_isLetter X b0 [.ref (xa X 314)] (pmm w s0 u0 sv0 tx0 ow0 rs0 rn0 nu0 q0) res9 (pmm w s0 u0 sv0 tx0 ow0 rs0 rn0 nu0 q0) := by
  refine Met.ofW (cc := cX9_isLetter) (maxL := 1) (ret := (some .boolean)) (by decide) rfl ?_
  intro p e s m args below meth c s₁ B hml hv
  obtain ⟨ha, hP, hK⟩ := hv
  have hx := B.exec
  have hb := B.bytes
  have hr := B.returns
  have hts := atoms_spec (ws := wsX9_isLetter) B.pre
  have hown : s.vm.findClass RX9 = some m.cls := findClass_of_methodNamed B.named
  have hlocks := B.notSynchronized
  obtain ⟨R, hR⟩ : ∃ R, R = (headSpec wsX9_isLetter rmX9_isLetter).room := ⟨_, rfl⟩
  rw [← hR]
  have hR1 : R.frames = 1 := by rw [hR]; rfl
  have hR2 : R.locals = 22 := by rw [hR]; rfl
  obtain ⟨Q, hQ⟩ : ∃ Q : State → Prop, Q = MQ below (va_Qi (fun r' (_ : Unit) => r' = res9) (fun _ t => WU X (pmm w s0 u0 sv0 tx0 ow0 rs0 rn0 nu0 q0) t) (xF b0)) args s 0 0 (xF b0) := ⟨_, rfl⟩
  rw [← hQ]
  have hS : va_S (xF b0) s.heap s.heap [] := va_S.rf
  have hl := lv_entry ([.ref (xa X 314)]) (n := 1) (Nat.le_of_ble_eq_true rfl)
  refine W.eq ((congrArg (fun z => entryFrame m z 1) ha).trans (lg_entry_eq m _ 1)) ?_
  generalize (lg_sl ([.ref (xa X 314)]) ++ List.replicate (1 - (lg_sl ([.ref (xa X 314)])).length) Slot.unset).toArray = ls at hl ⊢
  have hl : lv_has ls 1 [(0, .ref (xa X 314))] := hl
  have hc_223 := (cwV 0 hts gX9_isLetter_X9_here rfl rfl rfl (by decide +kernel) ⟨by rw [hR1]; exact Nat.le_of_ble_eq_true rfl, by rw [hR2]; exact Nat.le_of_ble_eq_true rfl⟩ : CallW R s args RX9 RX9 223 yX9_here cX9_here 1 (some .int) wsX9_here rmX9_here 0 0 0)
  have hc_49 := (cwS 3 hts gX9_isLetter_X9_in rfl rfl rfl (by decide +kernel) ⟨by rw [hR1]; exact Nat.le_of_ble_eq_true rfl, by rw [hR2]; exact Nat.le_of_ble_eq_true rfl⟩ : CallB R s args RX9 49 yX9_in cX9_in 3 (some .boolean) wsX9_in rmX9_in 0 0 3 ∧ (Cond.static yX9_in).before args s = true)
  unfold m9_isLetter at hf
  refine lv_aload_n hx hb dX9_isLetter_0 rfl (lv_at hl 0 rfl) ?_
  obtain ⟨x1, hc2, hf⟩ := ob1_e hf
  refine w_ci ⟨hx, hb, hml, hown, hts⟩ hP hK hS (k9_here l hX w hc2) hc_223 (w_recv hP hK (by decide) emb_mm rfl) rfl hl.1 rfl (Nat.le_of_ble_eq_true rfl) dX9_isLetter_1 ⟨Nat.zero_le _, Nat.zero_le _⟩ (fun H locs hP hS => ?_)
  refine lv_bipush (v := 97) hx hb dX9_isLetter_4 (by decide) ?_
  refine lv_bipush (v := 122) hx hb dX9_isLetter_6 (by decide) ?_
  obtain ⟨x3, hc4, hf⟩ := lt1_e hf
  refine w_csi ⟨hx, hb, hml, hown, hts⟩ hP hK hS (k9_in l hX (pmm w s0 u0 sv0 tx0 ow0 rs0 rn0 nu0 q0) hc4) hc_49 rfl hl.1 rfl (Nat.le_of_ble_eq_true rfl) dX9_isLetter_8 ⟨Nat.zero_le _, Nat.zero_le _⟩ (fun H locs hP hS => ?_)
  obtain ⟨hb5, hf⟩ := ckp_e hf
  have hf := Option.some.inj hf
  obtain rfl := hf
  rw [hQ]
  exact w_zret hx hb hr hlocks hP hK hS dX9_isLetter_11 hb5 rfl rfl
abbrev rmX9_isDigit : Room := { frames := 1, cells := 0, slots := 0, locals := 22 }
set_option maxHeartbeats 4000000 in
set_option maxRecDepth 100000 in
theorem k9_isDigit (l : Launch) {X : bkX} {b0 : Nat} (hX : XO X b0) (w : bkW) {s0 : Nat → Int32} {u0 : Nat → Int32} {sv0 : Nat → Int32} {tx0 : Nat → Int32} {ow0 : Nat → Int32} {rs0 : Nat → Int64} {rn0 : Nat → Int32} {nu0 : Nat → Int32} {q0 : Nat → Int32} {res9 : Int32} (hf : m9_isDigit tx0 q0 = some res9) : cI l yX9_isDigit wsX9_isDigit rmX9_isDigit X b0 [.ref (xa X 314)] (pmm w s0 u0 sv0 tx0 ow0 rs0 rn0 nu0 q0) res9 (pmm w s0 u0 sv0 tx0 ow0 rs0 rn0 nu0 q0) := by
  refine Met.ofW (cc := cX9_isDigit) (maxL := 1) (ret := (some .boolean)) (by decide) rfl ?_
  intro p e s m args below meth c s₁ B hml hv
  obtain ⟨ha, hP, hK⟩ := hv
  have hx := B.exec
  have hb := B.bytes
  have hr := B.returns
  have hts := atoms_spec (ws := wsX9_isDigit) B.pre
  have hown : s.vm.findClass RX9 = some m.cls := findClass_of_methodNamed B.named
  have hlocks := B.notSynchronized
  obtain ⟨R, hR⟩ : ∃ R, R = (headSpec wsX9_isDigit rmX9_isDigit).room := ⟨_, rfl⟩
  rw [← hR]
  have hR1 : R.frames = 1 := by rw [hR]; rfl
  have hR2 : R.locals = 22 := by rw [hR]; rfl
  obtain ⟨Q, hQ⟩ : ∃ Q : State → Prop, Q = MQ below (va_Qi (fun r' (_ : Unit) => r' = res9) (fun _ t => WU X (pmm w s0 u0 sv0 tx0 ow0 rs0 rn0 nu0 q0) t) (xF b0)) args s 0 0 (xF b0) := ⟨_, rfl⟩
  rw [← hQ]
  have hS : va_S (xF b0) s.heap s.heap [] := va_S.rf
  have hl := lv_entry ([.ref (xa X 314)]) (n := 1) (Nat.le_of_ble_eq_true rfl)
  refine W.eq ((congrArg (fun z => entryFrame m z 1) ha).trans (lg_entry_eq m _ 1)) ?_
  generalize (lg_sl ([.ref (xa X 314)]) ++ List.replicate (1 - (lg_sl ([.ref (xa X 314)])).length) Slot.unset).toArray = ls at hl ⊢
  have hl : lv_has ls 1 [(0, .ref (xa X 314))] := hl
  have hc_223 := (cwV 0 hts gX9_isDigit_X9_here rfl rfl rfl (by decide +kernel) ⟨by rw [hR1]; exact Nat.le_of_ble_eq_true rfl, by rw [hR2]; exact Nat.le_of_ble_eq_true rfl⟩ : CallW R s args RX9 RX9 223 yX9_here cX9_here 1 (some .int) wsX9_here rmX9_here 0 0 0)
  have hc_49 := (cwS 3 hts gX9_isDigit_X9_in rfl rfl rfl (by decide +kernel) ⟨by rw [hR1]; exact Nat.le_of_ble_eq_true rfl, by rw [hR2]; exact Nat.le_of_ble_eq_true rfl⟩ : CallB R s args RX9 49 yX9_in cX9_in 3 (some .boolean) wsX9_in rmX9_in 0 0 3 ∧ (Cond.static yX9_in).before args s = true)
  unfold m9_isDigit at hf
  refine lv_aload_n hx hb dX9_isDigit_0 rfl (lv_at hl 0 rfl) ?_
  obtain ⟨x1, hc2, hf⟩ := ob1_e hf
  refine w_ci ⟨hx, hb, hml, hown, hts⟩ hP hK hS (k9_here l hX w hc2) hc_223 (w_recv hP hK (by decide) emb_mm rfl) rfl hl.1 rfl (Nat.le_of_ble_eq_true rfl) dX9_isDigit_1 ⟨Nat.zero_le _, Nat.zero_le _⟩ (fun H locs hP hS => ?_)
  refine lv_bipush (v := 48) hx hb dX9_isDigit_4 (by decide) ?_
  refine lv_bipush (v := 57) hx hb dX9_isDigit_6 (by decide) ?_
  obtain ⟨x3, hc4, hf⟩ := lt1_e hf
  refine w_csi ⟨hx, hb, hml, hown, hts⟩ hP hK hS (k9_in l hX (pmm w s0 u0 sv0 tx0 ow0 rs0 rn0 nu0 q0) hc4) hc_49 rfl hl.1 rfl (Nat.le_of_ble_eq_true rfl) dX9_isDigit_8 ⟨Nat.zero_le _, Nat.zero_le _⟩ (fun H locs hP hS => ?_)
  obtain ⟨hb5, hf⟩ := ckp_e hf
  have hf := Option.some.inj hf
  obtain rfl := hf
  rw [hQ]
  exact w_zret hx hb hr hlocks hP hK hS dX9_isDigit_11 hb5 rfl rfl
abbrev rmX9_skip : Room := { frames := 1, cells := 0, slots := 0, locals := 20 }
theorem iX9_skip_X9 : ∀ w ∈ wsX90, w ∈ wsX9_skip := by decide +kernel
set_option maxHeartbeats 4000000 in
set_option maxRecDepth 100000 in
theorem k9_skip (l : Launch) {X : bkX} {b0 : Nat} (hX : XO X b0) (w : bkW) {N : Nat} {s0 : Nat → Int32} {u0 : Nat → Int32} {sv0 : Nat → Int32} {tx0 : Nat → Int32} {ow0 : Nat → Int32} {rs0 : Nat → Int64} {rn0 : Nat → Int32} {nu0 : Nat → Int32} {q0 : Nat → Int32} {q9 : Nat → Int32} (hf : m9_skip N tx0 q0 = some q9) : cV l yX9_skip wsX9_skip rmX9_skip X b0 [.ref (xa X 314)] (pmm w s0 u0 sv0 tx0 ow0 rs0 rn0 nu0 q0) (pmm w s0 u0 sv0 tx0 ow0 rs0 rn0 nu0 q9) := by
  refine Met.ofW (cc := cX9_skip) (maxL := 1) (ret := none) (by decide) rfl ?_
  intro p e s m args below meth c s₁ B hml hv
  obtain ⟨ha, hP, hK⟩ := hv
  have hx := B.exec
  have hb := B.bytes
  have hr := B.returns
  have hts := atoms_spec (ws := wsX9_skip) B.pre
  have hown : s.vm.findClass RX9 = some m.cls := findClass_of_methodNamed B.named
  have hlocks := B.notSynchronized
  obtain ⟨R, hR⟩ : ∃ R, R = (headSpec wsX9_skip rmX9_skip).room := ⟨_, rfl⟩
  rw [← hR]
  have hR1 : R.frames = 1 := by rw [hR]; rfl
  have hR2 : R.locals = 20 := by rw [hR]; rfl
  obtain ⟨Q, hQ⟩ : ∃ Q : State → Prop, Q = MQ below (va_Qv (fun (_ : Unit) => True) (fun _ t => WU X (pmm w s0 u0 sv0 tx0 ow0 rs0 rn0 nu0 q9) t) (xF b0)) args s 0 0 (xF b0) := ⟨_, rfl⟩
  rw [← hQ]
  have hS : va_S (xF b0) s.heap s.heap [] := va_S.rf
  have hl := lv_entry ([.ref (xa X 314)]) (n := 1) (Nat.le_of_ble_eq_true rfl)
  refine W.eq ((congrArg (fun z => entryFrame m z 1) ha).trans (lg_entry_eq m _ 1)) ?_
  generalize (lg_sl ([.ref (xa X 314)]) ++ List.replicate (1 - (lg_sl ([.ref (xa X 314)])).length) Slot.unset).toArray = ls at hl ⊢
  have hl : lv_has ls 1 [(0, .ref (xa X 314))] := hl
  have hc_223 := (cwV 0 hts gX9_skip_X9_here rfl rfl rfl (by decide +kernel) ⟨by rw [hR1]; exact Nat.le_of_ble_eq_true rfl, by rw [hR2]; exact Nat.le_of_ble_eq_true rfl⟩ : CallW R s args RX9 RX9 223 yX9_here cX9_here 1 (some .int) wsX9_here rmX9_here 0 0 0)
  have hk_f220 := hts (.fieldLink RX9 220 "BakeTurnsModel" "next" "I") (by decide +kernel)
  unfold m9_skip at hf
  have L0 : ∀ (n : Nat)  (q2 : Nat → Int32) (oq3 : Nat → Int32) (H : Heap) (locs : List Loc) (ls : Array Slot), m9_skip_L0 N n tx0 q2 = some oq3 → HW X (pmm w s0 u0 sv0 tx0 ow0 rs0 rn0 nu0 q2) H → va_S (xF b0) s.heap H locs → lv_has ls 1 [(0, .ref (xa X 314))] → (∀ (H1 : Heap) (locs1 : List Loc) (ls1 : Array Slot), HW X (pmm w s0 u0 sv0 tx0 ow0 rs0 rn0 nu0 oq3) H1 → va_S (xF b0) s.heap H1 locs1 → lv_has ls1 1 [] → W p l e R s m args below meth c H1 locs1 0 0 Q (F0 m 22 ls1 [])) → W p l e R s m args below meth c H locs 0 0 Q (F0 m 0 ls []) := by
    intro n; induction n with
    | zero => intro q2 oq3 H locs ls hf; rw [m9_skip_L0] at hf; cases hf
    | succ n ih =>
      intro q2 oq3 H locs ls hf hP hS hl K
      rw [m9_skip_L0] at hf
      refine lv_aload_n hx hb dX9_skip_0 rfl (lv_at hl 0 rfl) ?_
      obtain ⟨x4, hc5, hf⟩ := ob1_e hf
      refine w_ci ⟨hx, hb, hml, hown, hts⟩ hP hK hS (k9_here l hX w hc5) hc_223 (w_recv hP hK (by decide) emb_mm rfl) rfl hl.1 rfl (Nat.le_of_ble_eq_true rfl) dX9_skip_1 ⟨Nat.zero_le _, Nat.zero_le _⟩ (fun H locs hP hS => ?_)
      refine lv_bipush (v := 32) hx hb dX9_skip_4 (by decide) ?_
      refine lv_icmp_ne (tgt := 22) hx hb dX9_skip_6 (by decide) (fun h6 => ?_) (fun h6 => ?_)
      · rw [if_neg h6] at hf
        have hf := Option.some.inj hf
        obtain rfl := hf
        exact K _ _ _ hP hS (lv_sub hl [] rfl)
      · rw [if_pos h6] at hf
        refine lv_aload_n hx hb dX9_skip_9 rfl (lv_at hl 0 rfl) ?_
        refine lv_dup hx hb dX9_skip_10 rfl ?_
        refine w_get hx hb hts iX9_skip_X9 hown hP hK (by decide) emb_mm rfl 10 (by decide) hk_f220 rfl dX9_skip_11 ?_
        refine lv_iconst (v := 1) hx hb dX9_skip_14 (by decide) ?_
        refine lv_iadd hx hb dX9_skip_15 ?_
        refine mm_put hx hb hts iX9_skip_X9 hown hX hP hK hS 10 (by decide) hk_f220 rfl rfl (Nat.le_of_ble_eq_true rfl) (mm_es3 _) dX9_skip_16 (fun q7 eq7 H locs hP hS => ?_)
        replace hf := ltn_s eq7 hf
        refine lv_goto (tgt := 0) hx hb dX9_skip_19 (by decide) ?_
        exact ih q7 oq3 _ _ _ hf hP hS (lv_sub hl [0] rfl) K
  obtain ⟨q8, hc9, hf⟩ := ob1_e hf
  refine L0 N q0 q8 _ _ _ hc9 hP hS (lv_sub hl [0] rfl) (fun H locs ls hP hS hl => ?_)
  have hf := Option.some.inj hf
  obtain rfl := hf
  rw [hQ]
  exact w_vret hx hb hr hlocks hP hK hS dX9_skip_22 rfl
abbrev rmX9_isWord : Room := { frames := 2, cells := 0, slots := 0, locals := 47 }
theorem iX9_isWord_X9 : ∀ w ∈ wsX90, w ∈ wsX9_isWord := by decide +kernel
set_option maxHeartbeats 4000000 in
set_option maxRecDepth 100000 in
theorem k9_isWord (l : Launch) {X : bkX} {b0 : Nat} (hX : XO X b0) (w : bkW) {N : Nat} {s0 : Nat → Int32} {u0 : Nat → Int32} {sv0 : Nat → Int32} {tx0 : Nat → Int32} {ow0 : Nat → Int32} {rs0 : Nat → Int64} {rn0 : Nat → Int32} {nu0 : Nat → Int32} {q0 : Nat → Int32} {a1 : Int32} {a2 : Int32} {res9 : Int32} (hf : m9_isWord N tx0 q0 a1 a2 = some res9) : cI l yX9_isWord wsX9_isWord rmX9_isWord X b0 [.ref (xa X 314), .int a1, .int a2] (pmm w s0 u0 sv0 tx0 ow0 rs0 rn0 nu0 q0) res9 (pmm w s0 u0 sv0 tx0 ow0 rs0 rn0 nu0 q0) := by
  refine Met.ofW (cc := cX9_isWord) (maxL := 5) (ret := (some .boolean)) (by decide) rfl ?_
  intro p e s m args below meth c s₁ B hml hv
  obtain ⟨ha, hP, hK⟩ := hv
  have hx := B.exec
  have hb := B.bytes
  have hr := B.returns
  have hts := atoms_spec (ws := wsX9_isWord) B.pre
  have hown : s.vm.findClass RX9 = some m.cls := findClass_of_methodNamed B.named
  have hlocks := B.notSynchronized
  obtain ⟨R, hR⟩ : ∃ R, R = (headSpec wsX9_isWord rmX9_isWord).room := ⟨_, rfl⟩
  rw [← hR]
  have hR1 : R.frames = 2 := by rw [hR]; rfl
  have hR2 : R.locals = 47 := by rw [hR]; rfl
  obtain ⟨Q, hQ⟩ : ∃ Q : State → Prop, Q = MQ below (va_Qi (fun r' (_ : Unit) => r' = res9) (fun _ t => WU X (pmm w s0 u0 sv0 tx0 ow0 rs0 rn0 nu0 q0) t) (xF b0)) args s 0 0 (xF b0) := ⟨_, rfl⟩
  rw [← hQ]
  have hS : va_S (xF b0) s.heap s.heap [] := va_S.rf
  have hl := lv_entry ([.ref (xa X 314), .int a1, .int a2]) (n := 5) (Nat.le_of_ble_eq_true rfl)
  refine W.eq ((congrArg (fun z => entryFrame m z 5) ha).trans (lg_entry_eq m _ 5)) ?_
  generalize (lg_sl ([.ref (xa X 314), .int a1, .int a2]) ++ List.replicate (5 - (lg_sl ([.ref (xa X 314), .int a1, .int a2])).length) Slot.unset).toArray = ls at hl ⊢
  have hl : lv_has ls 5 [(0, .ref (xa X 314)), (1, .int a1), (2, .int a2)] := hl
  have hk_f220 := hts (.fieldLink RX9 220 "BakeTurnsModel" "next" "I") (by decide +kernel)
  have hc_230 := (cwS 2 hts gX9_isWord_X9_letterOfWord rfl rfl rfl (by decide +kernel) ⟨by rw [hR1]; exact Nat.le_of_ble_eq_true rfl, by rw [hR2]; exact Nat.le_of_ble_eq_true rfl⟩ : CallB R s args RX9 230 yX9_letterOfWord cX9_letterOfWord 2 (some .int) wsX9_letterOfWord rmX9_letterOfWord 0 0 2 ∧ (Cond.static yX9_letterOfWord).before args s = true)
  have hk_f19 := hts (.fieldLink RX9 19 "BakeTurnsModel" "text" "[I") (by decide +kernel)
  unfold m9_isWord at hf
  refine lv_iconst (v := 1) hx hb dX9_isWord_0 (by decide) ?_
  refine lv_istore_n (lv' := [(3, .int 1), (0, .ref (xa X 314)), (1, .int a1), (2, .int a2)]) hx hb dX9_isWord_1 rfl hl (by decide) rfl (fun ls hl => ?_)
  refine lv_iconst (v := 0) hx hb dX9_isWord_2 (by decide) ?_
  refine lv_istore (lv' := [(4, .int 0), (3, .int 1), (0, .ref (xa X 314)), (1, .int a1), (2, .int a2)]) hx hb dX9_isWord_3 hl (by decide) rfl (fun ls hl => ?_)
  have L5 : ∀ (n : Nat) (x2 : Int32) (x3 : Int32) (x4 : Int32) (x5 : Int32)  (o6 : Int32) (H : Heap) (locs : List Loc) (ls : Array Slot), m9_isWord_L5 N n x2 x3 x4 x5 tx0 q0 = some o6 → HW X (pmm w s0 u0 sv0 tx0 ow0 rs0 rn0 nu0 q0) H → va_S (xF b0) s.heap H locs → lv_has ls 5 [(0, .ref (xa X 314)), (1, .int x2), (2, .int x3), (3, .int x4), (4, .int x5)] → (∀ (H1 : Heap) (locs1 : List Loc) (ls1 : Array Slot), HW X (pmm w s0 u0 sv0 tx0 ow0 rs0 rn0 nu0 q0) H1 → va_S (xF b0) s.heap H1 locs1 → lv_has ls1 5 [(3, .int o6)] → W p l e R s m args below meth c H1 locs1 0 0 Q (F0 m 65 ls1 [])) → W p l e R s m args below meth c H locs 0 0 Q (F0 m 5 ls []) := by
    intro n; induction n with
    | zero => intro x2 x3 x4 x5 o6 H locs ls hf; rw [m9_isWord_L5] at hf; cases hf
    | succ n ih =>
      intro x2 x3 x4 x5 o6 H locs ls hf hP hS hl K
      rw [m9_isWord_L5] at hf
      refine lv_iload hx hb dX9_isWord_5 (lv_at hl 4 rfl) ?_
      refine lv_aload_n hx hb dX9_isWord_7 rfl (lv_at hl 0 rfl) ?_
      refine w_get hx hb hts iX9_isWord_X9 hown hP hK (by decide) emb_mm rfl 10 (by decide) hk_f220 rfl dX9_isWord_8 ?_
      refine lv_iload_n hx hb dX9_isWord_11 rfl (lv_at hl 2 rfl) ?_
      refine lv_isub hx hb dX9_isWord_12 ?_
      refine lv_icmp_gt (tgt := 65) hx hb dX9_isWord_13 (by decide) (fun h7 => ?_) (fun h7 => ?_)
      · rw [if_pos h7] at hf
        have hf := Option.some.inj hf
        obtain rfl := hf
        exact K _ _ _ hP hS (lv_sub hl [3] rfl)
      · rw [if_neg h7] at hf
        refine lv_iload_n hx hb dX9_isWord_16 rfl (lv_at hl 3 rfl) ?_
        refine lv_if_eq (tgt := 65) hx hb dX9_isWord_17 (by decide) (fun h8 => ?_) (fun h8 => ?_)
        · rw [if_pos h8] at hf
          have hf := Option.some.inj hf
          obtain rfl := hf
          exact K _ _ _ hP hS (lv_sub hl [3] rfl)
        · rw [if_neg h8] at hf
          refine lv_iload_n hx hb dX9_isWord_20 rfl (lv_at hl 1 rfl) ?_
          refine lv_iload hx hb dX9_isWord_21 (lv_at hl 4 rfl) ?_
          obtain ⟨x9, hc10, hf⟩ := lt1_e hf
          refine w_csi ⟨hx, hb, hml, hown, hts⟩ hP hK hS (k9_letterOfWord l hX (pmm w s0 u0 sv0 tx0 ow0 rs0 rn0 nu0 q0) hc10) hc_230 rfl hl.1 rfl (Nat.le_of_ble_eq_true rfl) dX9_isWord_23 ⟨Nat.zero_le _, Nat.zero_le _⟩ (fun H locs hP hS => ?_)
          refine lv_iload hx hb dX9_isWord_26 (lv_at hl 4 rfl) ?_
          refine lv_aload_n hx hb dX9_isWord_28 rfl (lv_at hl 0 rfl) ?_
          refine w_get hx hb hts iX9_isWord_X9 hown hP hK (by decide) emb_mm rfl 10 (by decide) hk_f220 rfl dX9_isWord_29 ?_
          refine lv_iload_n hx hb dX9_isWord_32 rfl (lv_at hl 2 rfl) ?_
          refine lv_isub hx hb dX9_isWord_33 ?_
          obtain ⟨x13, ejK14, hf⟩ := ob1_e hf
          have K14 : ∀ (H : Heap) (locs : List Loc) (ls : Array Slot), HW X (pmm w s0 u0 sv0 tx0 ow0 rs0 rn0 nu0 q0) H → va_S (xF b0) s.heap H locs → lv_has ls 5 [(0, .ref (xa X 314)), (1, .int x2), (2, .int x3), (4, .int x5)] → W p l e R s m args below meth c H locs 0 0 Q (F0 m 50 ls [.int x13, .int x9]) := by
            intro H locs ls hP hS hl
            obtain ⟨x17, ejK18, hf⟩ := lt1_e hf
            have K18 : ∀ (H : Heap) (locs : List Loc) (ls : Array Slot), HW X (pmm w s0 u0 sv0 tx0 ow0 rs0 rn0 nu0 q0) H → va_S (xF b0) s.heap H locs → lv_has ls 5 [(0, .ref (xa X 314)), (1, .int x2), (2, .int x3), (4, .int x5)] → W p l e R s m args below meth c H locs 0 0 Q (F0 m 58 ls [.int x17]) := by
              intro H locs ls hP hS hl
              refine lv_istore_n (lv' := [(3, .int x17), (0, .ref (xa X 314)), (1, .int x2), (2, .int x3), (4, .int x5)]) hx hb dX9_isWord_58 rfl hl (by decide) rfl (fun ls hl => ?_)
              obtain ⟨x19, ex19⟩ : ∃ y : Int32, y = x5 + 1 := ⟨_, rfl⟩
              replace hf := ltn_s ex19 hf
              refine lv_iinc (v := x19) (lv' := [(4, .int x19), (3, .int x17), (0, .ref (xa X 314)), (1, .int x2), (2, .int x3)]) hx hb dX9_isWord_59 hl (k := 4) rfl (by rw [ex19]; rfl) (by decide) rfl (fun ls hl => ?_)
              refine lv_goto (tgt := 5) hx hb dX9_isWord_62 (by decide) ?_
              exact ih x2 x3 x17 x19 o6 _ _ _ hf hP hS (lv_sub hl [2, 3, 4, 1, 0] rfl) K
            clear hf
            refine lv_icmp_ne (tgt := 57) hx hb dX9_isWord_50 (by decide) (fun h16 => ?_) (fun h16 => ?_)
            · rw [if_neg h16] at ejK18
              refine lv_iconst (v := 0) hx hb dX9_isWord_57 (by decide) ?_
              obtain rfl := ejK18
              exact K18 _ _ _ hP hS (lv_sub hl [0, 1, 2, 3] rfl)
            · rw [if_pos h16] at ejK18
              refine lv_iconst (v := 1) hx hb dX9_isWord_53 (by decide) ?_
              refine lv_goto (tgt := 58) hx hb dX9_isWord_54 (by decide) ?_
              obtain rfl := ejK18
              exact K18 _ _ _ hP hS (lv_sub hl [0, 1, 2, 3] rfl)
          clear hf
          refine lv_icmp_ge (tgt := 49) hx hb dX9_isWord_34 (by decide) (fun h11 => ?_) (fun h11 => ?_)
          · rw [if_pos h11] at ejK14
            refine lv_iconst (v := 0) hx hb dX9_isWord_49 (by decide) ?_
            have ejK14 := Option.some.inj ejK14
            obtain rfl := ejK14
            exact K14 _ _ _ hP hS (lv_sub hl [0, 1, 2, 4] rfl)
          · rw [if_neg h11] at ejK14
            refine lv_aload_n hx hb dX9_isWord_37 rfl (lv_at hl 0 rfl) ?_
            refine w_get hx hb hts iX9_isWord_X9 hown hP hK (by decide) emb_mm rfl 5 (by decide) hk_f19 rfl dX9_isWord_38 ?_
            refine lv_iload_n hx hb dX9_isWord_41 rfl (lv_at hl 2 rfl) ?_
            refine lv_iload hx hb dX9_isWord_42 (lv_at hl 4 rfl) ?_
            refine lv_iadd hx hb dX9_isWord_44 ?_
            obtain ⟨hin15, ejK14⟩ := ck_e ejK14
            refine ar_ald (g := tx0) hx hb AR_tx rfl hP hK hin15 dX9_isWord_45 ?_
            refine lv_goto (tgt := 50) hx hb dX9_isWord_46 (by decide) ?_
            have ejK14 := Option.some.inj ejK14
            obtain rfl := ejK14
            exact K14 _ _ _ hP hS (lv_sub hl [0, 1, 2, 4] rfl)
  obtain ⟨x20, hc21, hf⟩ := ob1_e hf
  refine L5 N a1 a2 1 0  x20 _ _ _ hc21 hP hS (lv_sub hl [2, 3, 4, 1, 0] rfl) (fun H locs ls hP hS hl => ?_)
  refine lv_iload_n hx hb dX9_isWord_65 rfl (lv_at hl 0 rfl) ?_
  obtain ⟨hb22, hf⟩ := ckp_e hf
  have hf := Option.some.inj hf
  obtain rfl := hf
  rw [hQ]
  exact w_zret hx hb hr hlocks hP hK hS dX9_isWord_66 hb22 rfl rfl
abbrev rmX9_fail : Room := { frames := 0, cells := 0, slots := 0, locals := 0 }
theorem iX9_fail_X9 : ∀ w ∈ wsX90, w ∈ wsX9_fail := by decide +kernel
set_option maxHeartbeats 4000000 in
set_option maxRecDepth 100000 in
theorem k9_fail (l : Launch) {X : bkX} {b0 : Nat} (hX : XO X b0) (w : bkW) {s0 : Nat → Int32} {u0 : Nat → Int32} {sv0 : Nat → Int32} {tx0 : Nat → Int32} {ow0 : Nat → Int32} {rs0 : Nat → Int64} {rn0 : Nat → Int32} {nu0 : Nat → Int32} {q0 : Nat → Int32} {a1 : Int32} {q9 : Nat → Int32} (hf : m9_fail q0 a1 = q9) : cV l yX9_fail wsX9_fail rmX9_fail X b0 [.ref (xa X 314), .int a1] (pmm w s0 u0 sv0 tx0 ow0 rs0 rn0 nu0 q0) (pmm w s0 u0 sv0 tx0 ow0 rs0 rn0 nu0 q9) := by
  refine Met.ofW (cc := cX9_fail) (maxL := 2) (ret := none) (by decide) rfl ?_
  intro p e s m args below meth c s₁ B hml hv
  obtain ⟨ha, hP, hK⟩ := hv
  have hx := B.exec
  have hb := B.bytes
  have hr := B.returns
  have hts := atoms_spec (ws := wsX9_fail) B.pre
  have hown : s.vm.findClass RX9 = some m.cls := findClass_of_methodNamed B.named
  have hlocks := B.notSynchronized
  obtain ⟨R, hR⟩ : ∃ R, R = (headSpec wsX9_fail rmX9_fail).room := ⟨_, rfl⟩
  rw [← hR]
  have hR1 : R.frames = 0 := by rw [hR]; rfl
  have hR2 : R.locals = 0 := by rw [hR]; rfl
  obtain ⟨Q, hQ⟩ : ∃ Q : State → Prop, Q = MQ below (va_Qv (fun (_ : Unit) => True) (fun _ t => WU X (pmm w s0 u0 sv0 tx0 ow0 rs0 rn0 nu0 q9) t) (xF b0)) args s 0 0 (xF b0) := ⟨_, rfl⟩
  rw [← hQ]
  have hS : va_S (xF b0) s.heap s.heap [] := va_S.rf
  have hl := lv_entry ([.ref (xa X 314), .int a1]) (n := 2) (Nat.le_of_ble_eq_true rfl)
  refine W.eq ((congrArg (fun z => entryFrame m z 2) ha).trans (lg_entry_eq m _ 2)) ?_
  generalize (lg_sl ([.ref (xa X 314), .int a1]) ++ List.replicate (2 - (lg_sl ([.ref (xa X 314), .int a1])).length) Slot.unset).toArray = ls at hl ⊢
  have hl : lv_has ls 2 [(0, .ref (xa X 314)), (1, .int a1)] := hl
  have hk_f233 := hts (.fieldLink RX9 233 "BakeTurnsModel" "fault" "I") (by decide +kernel)
  unfold m9_fail at hf
  refine lv_aload_n hx hb dX9_fail_0 rfl (lv_at hl 0 rfl) ?_
  refine lv_aload_n hx hb dX9_fail_1 rfl (lv_at hl 0 rfl) ?_
  refine w_get hx hb hts iX9_fail_X9 hown hP hK (by decide) emb_mm rfl 11 (by decide) hk_f233 rfl dX9_fail_2 ?_
  obtain ⟨x2, ejK3, hf⟩ := lt1_e hf
  have K3 : ∀ (H : Heap) (locs : List Loc) (ls : Array Slot), HW X (pmm w s0 u0 sv0 tx0 ow0 rs0 rn0 nu0 q0) H → va_S (xF b0) s.heap H locs → lv_has ls 2 [] → W p l e R s m args below meth c H locs 0 0 Q (F0 m 16 ls [.int x2, .ref (xa X 314)]) := by
    intro H locs ls hP hS hl
    refine mm_put hx hb hts iX9_fail_X9 hown hX hP hK hS 11 (by decide) hk_f233 rfl rfl (Nat.le_of_ble_eq_true rfl) (mm_es4 _) dX9_fail_16 (fun q4 eq4 H locs hP hS => ?_)
    replace hf := ltn_s eq4 hf
    obtain rfl := hf
    rw [hQ]
    exact w_vret hx hb hr hlocks hP hK hS dX9_fail_19 rfl
  clear hf
  refine lv_if_ge (tgt := 12) hx hb dX9_fail_5 (by decide) (fun h1 => ?_) (fun h1 => ?_)
  · rw [if_pos h1] at ejK3
    refine lv_aload_n hx hb dX9_fail_12 rfl (lv_at hl 0 rfl) ?_
    refine w_get hx hb hts iX9_fail_X9 hown hP hK (by decide) emb_mm rfl 11 (by decide) hk_f233 rfl dX9_fail_13 ?_
    obtain rfl := ejK3
    exact K3 _ _ _ hP hS (lv_sub hl [] rfl)
  · rw [if_neg h1] at ejK3
    refine lv_iload_n hx hb dX9_fail_8 rfl (lv_at hl 1 rfl) ?_
    refine lv_goto (tgt := 16) hx hb dX9_fail_9 (by decide) ?_
    obtain rfl := ejK3
    exact K3 _ _ _ hP hS (lv_sub hl [] rfl)
abbrev rmX9_readWord : Room := { frames := 3, cells := 0, slots := 0, locals := 71 }
theorem iX9_readWord_X9 : ∀ w ∈ wsX90, w ∈ wsX9_readWord := by decide +kernel
set_option maxHeartbeats 4000000 in
set_option maxRecDepth 100000 in
theorem k9_readWord (l : Launch) {X : bkX} {b0 : Nat} (hX : XO X b0) (w : bkW) {N : Nat} {s0 : Nat → Int32} {u0 : Nat → Int32} {sv0 : Nat → Int32} {tx0 : Nat → Int32} {ow0 : Nat → Int32} {rs0 : Nat → Int64} {rn0 : Nat → Int32} {nu0 : Nat → Int32} {q0 : Nat → Int32} {res9 : Int32} {q9 : Nat → Int32} (hf : m9_readWord N tx0 q0 = some (res9, q9)) : cI l yX9_readWord wsX9_readWord rmX9_readWord X b0 [.ref (xa X 314)] (pmm w s0 u0 sv0 tx0 ow0 rs0 rn0 nu0 q0) res9 (pmm w s0 u0 sv0 tx0 ow0 rs0 rn0 nu0 q9) := by
  refine Met.ofW (cc := cX9_readWord) (maxL := 3) (ret := (some .int)) (by decide) rfl ?_
  intro p e s m args below meth c s₁ B hml hv
  obtain ⟨ha, hP, hK⟩ := hv
  have hx := B.exec
  have hb := B.bytes
  have hr := B.returns
  have hts := atoms_spec (ws := wsX9_readWord) B.pre
  have hown : s.vm.findClass RX9 = some m.cls := findClass_of_methodNamed B.named
  have hlocks := B.notSynchronized
  obtain ⟨R, hR⟩ : ∃ R, R = (headSpec wsX9_readWord rmX9_readWord).room := ⟨_, rfl⟩
  rw [← hR]
  have hR1 : R.frames = 3 := by rw [hR]; rfl
  have hR2 : R.locals = 71 := by rw [hR]; rfl
  obtain ⟨Q, hQ⟩ : ∃ Q : State → Prop, Q = MQ below (va_Qi (fun r' (_ : Unit) => r' = res9) (fun _ t => WU X (pmm w s0 u0 sv0 tx0 ow0 rs0 rn0 nu0 q9) t) (xF b0)) args s 0 0 (xF b0) := ⟨_, rfl⟩
  rw [← hQ]
  have hS : va_S (xF b0) s.heap s.heap [] := va_S.rf
  have hl := lv_entry ([.ref (xa X 314)]) (n := 3) (Nat.le_of_ble_eq_true rfl)
  refine W.eq ((congrArg (fun z => entryFrame m z 3) ha).trans (lg_entry_eq m _ 3)) ?_
  generalize (lg_sl ([.ref (xa X 314)]) ++ List.replicate (3 - (lg_sl ([.ref (xa X 314)])).length) Slot.unset).toArray = ls at hl ⊢
  have hl : lv_has ls 3 [(0, .ref (xa X 314))] := hl
  have hk_f220 := hts (.fieldLink RX9 220 "BakeTurnsModel" "next" "I") (by decide +kernel)
  have hc_236 := (cwV 0 hts gX9_readWord_X9_isLetter rfl rfl rfl (by decide +kernel) ⟨by rw [hR1]; exact Nat.le_of_ble_eq_true rfl, by rw [hR2]; exact Nat.le_of_ble_eq_true rfl⟩ : CallW R s args RX9 RX9 236 yX9_isLetter cX9_isLetter 1 (some .boolean) wsX9_isLetter rmX9_isLetter 0 0 0)
  have hc_244 := (cwV 1 hts gX9_readWord_X9_fail rfl rfl rfl (by decide +kernel) ⟨by rw [hR1]; exact Nat.le_of_ble_eq_true rfl, by rw [hR2]; exact Nat.le_of_ble_eq_true rfl⟩ : CallW R s args RX9 RX9 244 yX9_fail cX9_fail 2 none wsX9_fail rmX9_fail 0 0 1)
  have hc_240 := (cwV 2 hts gX9_readWord_X9_isWord rfl rfl rfl (by decide +kernel) ⟨by rw [hR1]; exact Nat.le_of_ble_eq_true rfl, by rw [hR2]; exact Nat.le_of_ble_eq_true rfl⟩ : CallW R s args RX9 RX9 240 yX9_isWord cX9_isWord 5 (some .boolean) wsX9_isWord rmX9_isWord 0 0 2)
  unfold m9_readWord at hf
  refine lv_aload_n hx hb dX9_readWord_0 rfl (lv_at hl 0 rfl) ?_
  refine w_get hx hb hts iX9_readWord_X9 hown hP hK (by decide) emb_mm rfl 10 (by decide) hk_f220 rfl dX9_readWord_1 ?_
  refine lv_topi (fun x1 ex1 => ?_)
  replace hf := ltn_s ex1 hf
  refine lv_istore_n (lv' := [(1, .int x1), (0, .ref (xa X 314))]) hx hb dX9_readWord_4 rfl hl (by decide) rfl (fun ls hl => ?_)
  have L5 : ∀ (n : Nat) (x3 : Int32) (q4 : Nat → Int32) (oq5 : Nat → Int32) (H : Heap) (locs : List Loc) (ls : Array Slot), m9_readWord_L5 N n x3 tx0 q4 = some oq5 → HW X (pmm w s0 u0 sv0 tx0 ow0 rs0 rn0 nu0 q4) H → va_S (xF b0) s.heap H locs → lv_has ls 3 [(0, .ref (xa X 314)), (1, .int x3)] → (∀ (H1 : Heap) (locs1 : List Loc) (ls1 : Array Slot), HW X (pmm w s0 u0 sv0 tx0 ow0 rs0 rn0 nu0 oq5) H1 → va_S (xF b0) s.heap H1 locs1 → lv_has ls1 3 [(0, .ref (xa X 314)), (1, .int x3)] → W p l e R s m args below meth c H1 locs1 0 0 Q (F0 m 25 ls1 [])) → W p l e R s m args below meth c H locs 0 0 Q (F0 m 5 ls []) := by
    intro n; induction n with
    | zero => intro x3 q4 oq5 H locs ls hf; rw [m9_readWord_L5] at hf; cases hf
    | succ n ih =>
      intro x3 q4 oq5 H locs ls hf hP hS hl K
      rw [m9_readWord_L5] at hf
      refine lv_aload_n hx hb dX9_readWord_5 rfl (lv_at hl 0 rfl) ?_
      obtain ⟨x6, hc7, hf⟩ := ob1_e hf
      refine w_ci ⟨hx, hb, hml, hown, hts⟩ hP hK hS (k9_isLetter l hX w hc7) hc_236 (w_recv hP hK (by decide) emb_mm rfl) rfl hl.1 rfl (Nat.le_of_ble_eq_true rfl) dX9_readWord_6 ⟨Nat.zero_le _, Nat.zero_le _⟩ (fun H locs hP hS => ?_)
      refine lv_if_eq (tgt := 25) hx hb dX9_readWord_9 (by decide) (fun h8 => ?_) (fun h8 => ?_)
      · rw [if_pos h8] at hf
        have hf := Option.some.inj hf
        obtain rfl := hf
        exact K _ _ _ hP hS (lv_sub hl [0, 1] rfl)
      · rw [if_neg h8] at hf
        refine lv_aload_n hx hb dX9_readWord_12 rfl (lv_at hl 0 rfl) ?_
        refine lv_dup hx hb dX9_readWord_13 rfl ?_
        refine w_get hx hb hts iX9_readWord_X9 hown hP hK (by decide) emb_mm rfl 10 (by decide) hk_f220 rfl dX9_readWord_14 ?_
        refine lv_iconst (v := 1) hx hb dX9_readWord_17 (by decide) ?_
        refine lv_iadd hx hb dX9_readWord_18 ?_
        refine mm_put hx hb hts iX9_readWord_X9 hown hX hP hK hS 10 (by decide) hk_f220 rfl rfl (Nat.le_of_ble_eq_true rfl) (mm_es3 _) dX9_readWord_19 (fun q9 eq9 H locs hP hS => ?_)
        replace hf := ltn_s eq9 hf
        refine lv_goto (tgt := 5) hx hb dX9_readWord_22 (by decide) ?_
        exact ih x3 q9 oq5 _ _ _ hf hP hS (lv_sub hl [0, 1] rfl) K
  obtain ⟨q10, hc11, hf⟩ := ob1_e hf
  refine L5 N x1 q0 q10 _ _ _ hc11 hP hS (lv_sub hl [1, 0] rfl) (fun H locs ls hP hS hl => ?_)
  refine lv_iconst (v := 0) hx hb dX9_readWord_25 (by decide) ?_
  refine lv_istore_n (lv' := [(2, .int 0), (0, .ref (xa X 314)), (1, .int x1)]) hx hb dX9_readWord_26 rfl hl (by decide) rfl (fun ls hl => ?_)
  have L27 : ∀ (n : Nat) (x13 : Int32) (x14 : Int32)  (H : Heap) (locs : List Loc) (ls : Array Slot), m9_readWord_L27 N n x13 x14 tx0 q10 = some (res9, q9) → HW X (pmm w s0 u0 sv0 tx0 ow0 rs0 rn0 nu0 q10) H → va_S (xF b0) s.heap H locs → lv_has ls 3 [(0, .ref (xa X 314)), (1, .int x13), (2, .int x14)] → W p l e R s m args below meth c H locs 0 0 Q (F0 m 27 ls []) := by
    intro n; induction n with
    | zero => intro x13 x14 H locs ls hf; rw [m9_readWord_L27] at hf; cases hf
    | succ n ih =>
      intro x13 x14 H locs ls hf hP hS hl
      rw [m9_readWord_L27] at hf
      refine lv_iload_n hx hb dX9_readWord_27 rfl (lv_at hl 2 rfl) ?_
      refine lv_bipush (v := 7) hx hb dX9_readWord_28 (by decide) ?_
      refine lv_icmp_gt (tgt := 58) hx hb dX9_readWord_30 (by decide) (fun h15 => ?_) (fun h15 => ?_)
      · rw [if_pos h15] at hf
        refine lv_aload_n hx hb dX9_readWord_58 rfl (lv_at hl 0 rfl) ?_
        refine lv_iload_n hx hb dX9_readWord_59 rfl (lv_at hl 1 rfl) ?_
        obtain ⟨q16, hc17, hf⟩ := lt1_e hf
        refine w_cv ⟨hx, hb, hml, hown, hts⟩ hP hK hS (k9_fail l hX w hc17) hc_244 (w_recv hP hK (by decide) emb_mm rfl) rfl hl.1 rfl (Nat.le_of_ble_eq_true rfl) dX9_readWord_60 ⟨Nat.zero_le _, Nat.zero_le _⟩ (fun H locs hP hS => ?_)
        refine lv_iconst (v := (-1)) hx hb dX9_readWord_63 (by decide) ?_
        have hf := Option.some.inj hf
        simp only [Prod.mk.injEq] at hf
        obtain ⟨rfl, rfl⟩ := hf
        rw [hQ]
        exact w_iret hx hb hr hlocks hP hK hS dX9_readWord_64 rfl rfl
      · rw [if_neg h15] at hf
        refine lv_aload_n hx hb dX9_readWord_33 rfl (lv_at hl 0 rfl) ?_
        refine w_get hx hb hts iX9_readWord_X9 hown hP hK (by decide) emb_mm rfl 10 (by decide) hk_f220 rfl dX9_readWord_34 ?_
        refine lv_iload_n hx hb dX9_readWord_37 rfl (lv_at hl 1 rfl) ?_
        refine lv_icmp_le (tgt := 58) hx hb dX9_readWord_38 (by decide) (fun h18 => ?_) (fun h18 => ?_)
        · rw [if_pos h18] at hf
          refine lv_aload_n hx hb dX9_readWord_58 rfl (lv_at hl 0 rfl) ?_
          refine lv_iload_n hx hb dX9_readWord_59 rfl (lv_at hl 1 rfl) ?_
          obtain ⟨q19, hc20, hf⟩ := lt1_e hf
          refine w_cv ⟨hx, hb, hml, hown, hts⟩ hP hK hS (k9_fail l hX w hc20) hc_244 (w_recv hP hK (by decide) emb_mm rfl) rfl hl.1 rfl (Nat.le_of_ble_eq_true rfl) dX9_readWord_60 ⟨Nat.zero_le _, Nat.zero_le _⟩ (fun H locs hP hS => ?_)
          refine lv_iconst (v := (-1)) hx hb dX9_readWord_63 (by decide) ?_
          have hf := Option.some.inj hf
          simp only [Prod.mk.injEq] at hf
          obtain ⟨rfl, rfl⟩ := hf
          rw [hQ]
          exact w_iret hx hb hr hlocks hP hK hS dX9_readWord_64 rfl rfl
        · rw [if_neg h18] at hf
          refine lv_aload_n hx hb dX9_readWord_41 rfl (lv_at hl 0 rfl) ?_
          refine lv_iload_n hx hb dX9_readWord_42 rfl (lv_at hl 2 rfl) ?_
          refine lv_iload_n hx hb dX9_readWord_43 rfl (lv_at hl 1 rfl) ?_
          obtain ⟨x21, hc22, hf⟩ := ob1_e hf
          refine w_ci ⟨hx, hb, hml, hown, hts⟩ hP hK hS (k9_isWord l hX w hc22) hc_240 (w_recv hP hK (by decide) emb_mm rfl) rfl hl.1 rfl (Nat.le_of_ble_eq_true rfl) dX9_readWord_44 ⟨Nat.zero_le _, Nat.zero_le _⟩ (fun H locs hP hS => ?_)
          refine lv_if_eq (tgt := 52) hx hb dX9_readWord_47 (by decide) (fun h23 => ?_) (fun h23 => ?_)
          · rw [if_pos h23] at hf
            obtain ⟨x24, ex24⟩ : ∃ y : Int32, y = x14 + 1 := ⟨_, rfl⟩
            replace hf := ltn_s ex24 hf
            refine lv_iinc (v := x24) (lv' := [(2, .int x24), (0, .ref (xa X 314)), (1, .int x13)]) hx hb dX9_readWord_52 hl (k := 2) rfl (by rw [ex24]; rfl) (by decide) rfl (fun ls hl => ?_)
            refine lv_goto (tgt := 27) hx hb dX9_readWord_55 (by decide) ?_
            exact ih x13 x24  _ _ _ hf hP hS (lv_sub hl [1, 2, 0] rfl)
          · rw [if_neg h23] at hf
            refine lv_iload_n hx hb dX9_readWord_50 rfl (lv_at hl 2 rfl) ?_
            have hf := Option.some.inj hf
            simp only [Prod.mk.injEq] at hf
            obtain ⟨rfl, rfl⟩ := hf
            rw [hQ]
            exact w_iret hx hb hr hlocks hP hK hS dX9_readWord_51 rfl rfl
  exact L27 N x1 0  _ _ _ hf hP hS (lv_sub hl [1, 2, 0] rfl)
abbrev rmX9_readNumber : Room := { frames := 2, cells := 0, slots := 0, locals := 42 }
theorem iX9_readNumber_X9 : ∀ w ∈ wsX90, w ∈ wsX9_readNumber := by decide +kernel
set_option maxHeartbeats 4000000 in
set_option maxRecDepth 100000 in
theorem k9_readNumber (l : Launch) {X : bkX} {b0 : Nat} (hX : XO X b0) (w : bkW) {N : Nat} {s0 : Nat → Int32} {u0 : Nat → Int32} {sv0 : Nat → Int32} {tx0 : Nat → Int32} {ow0 : Nat → Int32} {rs0 : Nat → Int64} {rn0 : Nat → Int32} {nu0 : Nat → Int32} {q0 : Nat → Int32} {a1 : Int32} {nu9 : Nat → Int32} {q9 : Nat → Int32} (hf : m9_readNumber N tx0 nu0 q0 a1 = some (nu9, q9)) : cV l yX9_readNumber wsX9_readNumber rmX9_readNumber X b0 [.ref (xa X 314), .int a1] (pmm w s0 u0 sv0 tx0 ow0 rs0 rn0 nu0 q0) (pmm w s0 u0 sv0 tx0 ow0 rs0 rn0 nu9 q9) := by
  refine Met.ofW (cc := cX9_readNumber) (maxL := 4) (ret := none) (by decide) rfl ?_
  intro p e s m args below meth c s₁ B hml hv
  obtain ⟨ha, hP, hK⟩ := hv
  have hx := B.exec
  have hb := B.bytes
  have hr := B.returns
  have hts := atoms_spec (ws := wsX9_readNumber) B.pre
  have hown : s.vm.findClass RX9 = some m.cls := findClass_of_methodNamed B.named
  have hlocks := B.notSynchronized
  obtain ⟨R, hR⟩ : ∃ R, R = (headSpec wsX9_readNumber rmX9_readNumber).room := ⟨_, rfl⟩
  rw [← hR]
  have hR1 : R.frames = 2 := by rw [hR]; rfl
  have hR2 : R.locals = 42 := by rw [hR]; rfl
  obtain ⟨Q, hQ⟩ : ∃ Q : State → Prop, Q = MQ below (va_Qv (fun (_ : Unit) => True) (fun _ t => WU X (pmm w s0 u0 sv0 tx0 ow0 rs0 rn0 nu9 q9) t) (xF b0)) args s 0 0 (xF b0) := ⟨_, rfl⟩
  rw [← hQ]
  have hS : va_S (xF b0) s.heap s.heap [] := va_S.rf
  have hl := lv_entry ([.ref (xa X 314), .int a1]) (n := 4) (Nat.le_of_ble_eq_true rfl)
  refine W.eq ((congrArg (fun z => entryFrame m z 4) ha).trans (lg_entry_eq m _ 4)) ?_
  generalize (lg_sl ([.ref (xa X 314), .int a1]) ++ List.replicate (4 - (lg_sl ([.ref (xa X 314), .int a1])).length) Slot.unset).toArray = ls at hl ⊢
  have hl : lv_has ls 4 [(0, .ref (xa X 314)), (1, .int a1)] := hl
  have hc_223 := (cwV 0 hts gX9_readNumber_X9_here rfl rfl rfl (by decide +kernel) ⟨by rw [hR1]; exact Nat.le_of_ble_eq_true rfl, by rw [hR2]; exact Nat.le_of_ble_eq_true rfl⟩ : CallW R s args RX9 RX9 223 yX9_here cX9_here 1 (some .int) wsX9_here rmX9_here 0 0 0)
  have hk_f220 := hts (.fieldLink RX9 220 "BakeTurnsModel" "next" "I") (by decide +kernel)
  have hc_244 := (cwV 1 hts gX9_readNumber_X9_fail rfl rfl rfl (by decide +kernel) ⟨by rw [hR1]; exact Nat.le_of_ble_eq_true rfl, by rw [hR2]; exact Nat.le_of_ble_eq_true rfl⟩ : CallW R s args RX9 RX9 244 yX9_fail cX9_fail 2 none wsX9_fail rmX9_fail 0 0 1)
  have hc_247 := (cwV 0 hts gX9_readNumber_X9_skip rfl rfl rfl (by decide +kernel) ⟨by rw [hR1]; exact Nat.le_of_ble_eq_true rfl, by rw [hR2]; exact Nat.le_of_ble_eq_true rfl⟩ : CallW R s args RX9 RX9 247 yX9_skip cX9_skip 1 none wsX9_skip rmX9_skip 0 0 0)
  have hc_250 := (cwV 0 hts gX9_readNumber_X9_isDigit rfl rfl rfl (by decide +kernel) ⟨by rw [hR1]; exact Nat.le_of_ble_eq_true rfl, by rw [hR2]; exact Nat.le_of_ble_eq_true rfl⟩ : CallW R s args RX9 RX9 250 yX9_isDigit cX9_isDigit 1 (some .boolean) wsX9_isDigit rmX9_isDigit 0 0 0)
  have hk_f32 := hts (.fieldLink RX9 32 "BakeTurnsModel" "numbers" "[I") (by decide +kernel)
  unfold m9_readNumber at hf
  refine lv_aload_n hx hb dX9_readNumber_0 rfl (lv_at hl 0 rfl) ?_
  obtain ⟨x1, hc2, hf⟩ := ob1_e hf
  refine w_ci ⟨hx, hb, hml, hown, hts⟩ hP hK hS (k9_here l hX w hc2) hc_223 (w_recv hP hK (by decide) emb_mm rfl) rfl hl.1 rfl (Nat.le_of_ble_eq_true rfl) dX9_readNumber_1 ⟨Nat.zero_le _, Nat.zero_le _⟩ (fun H locs hP hS => ?_)
  refine lv_bipush (v := 32) hx hb dX9_readNumber_4 (by decide) ?_
  obtain ⟨q6, ejK7, hf⟩ := lt1_e hf
  have K7 : ∀ (H : Heap) (locs : List Loc) (ls : Array Slot), HW X (pmm w s0 u0 sv0 tx0 ow0 rs0 rn0 nu0 q6) H → va_S (xF b0) s.heap H locs → lv_has ls 4 [(0, .ref (xa X 314)), (1, .int a1)] → W p l e R s m args below meth c H locs 0 0 Q (F0 m 17 ls []) := by
    intro H locs ls hP hS hl
    refine lv_aload_n hx hb dX9_readNumber_17 rfl (lv_at hl 0 rfl) ?_
    obtain ⟨q10, hc11, hf⟩ := ob1_e hf
    refine w_cv ⟨hx, hb, hml, hown, hts⟩ hP hK hS (k9_skip l hX w hc11) hc_247 (w_recv hP hK (by decide) emb_mm rfl) rfl hl.1 rfl (Nat.le_of_ble_eq_true rfl) dX9_readNumber_18 ⟨Nat.zero_le _, Nat.zero_le _⟩ (fun H locs hP hS => ?_)
    refine lv_aload_n hx hb dX9_readNumber_21 rfl (lv_at hl 0 rfl) ?_
    refine w_get hx hb hts iX9_readNumber_X9 hown hP hK (by decide) emb_mm rfl 10 (by decide) hk_f220 rfl dX9_readNumber_22 ?_
    refine lv_topi (fun x12 ex12 => ?_)
    replace hf := ltn_s ex12 hf
    refine lv_istore_n (lv' := [(2, .int x12), (0, .ref (xa X 314)), (1, .int a1)]) hx hb dX9_readNumber_25 rfl hl (by decide) rfl (fun ls hl => ?_)
    refine lv_iconst (v := 0) hx hb dX9_readNumber_26 (by decide) ?_
    refine lv_istore_n (lv' := [(3, .int 0), (2, .int x12), (0, .ref (xa X 314)), (1, .int a1)]) hx hb dX9_readNumber_27 rfl hl (by decide) rfl (fun ls hl => ?_)
    have L28 : ∀ (n : Nat) (x14 : Int32) (x15 : Int32) (x16 : Int32) (q17 : Nat → Int32) (o18 : Int32) (oq19 : Nat → Int32) (H : Heap) (locs : List Loc) (ls : Array Slot), m9_readNumber_L28 N n x14 x15 x16 tx0 q17 = some (o18, oq19) → HW X (pmm w s0 u0 sv0 tx0 ow0 rs0 rn0 nu0 q17) H → va_S (xF b0) s.heap H locs → lv_has ls 4 [(0, .ref (xa X 314)), (1, .int x14), (2, .int x15), (3, .int x16)] → (∀ (H1 : Heap) (locs1 : List Loc) (ls1 : Array Slot), HW X (pmm w s0 u0 sv0 tx0 ow0 rs0 rn0 nu0 oq19) H1 → va_S (xF b0) s.heap H1 locs1 → lv_has ls1 4 [(0, .ref (xa X 314)), (1, .int x14), (2, .int x15), (3, .int o18)] → W p l e R s m args below meth c H1 locs1 0 0 Q (F0 m 71 ls1 [])) → W p l e R s m args below meth c H locs 0 0 Q (F0 m 28 ls []) := by
      intro n; induction n with
      | zero => intro x14 x15 x16 q17 o18 oq19 H locs ls hf; rw [m9_readNumber_L28] at hf; cases hf
      | succ n ih =>
        intro x14 x15 x16 q17 o18 oq19 H locs ls hf hP hS hl K
        rw [m9_readNumber_L28] at hf
        refine lv_aload_n hx hb dX9_readNumber_28 rfl (lv_at hl 0 rfl) ?_
        obtain ⟨x20, hc21, hf⟩ := ob1_e hf
        refine w_ci ⟨hx, hb, hml, hown, hts⟩ hP hK hS (k9_isDigit l hX w hc21) hc_250 (w_recv hP hK (by decide) emb_mm rfl) rfl hl.1 rfl (Nat.le_of_ble_eq_true rfl) dX9_readNumber_29 ⟨Nat.zero_le _, Nat.zero_le _⟩ (fun H locs hP hS => ?_)
        refine lv_if_eq (tgt := 71) hx hb dX9_readNumber_32 (by decide) (fun h22 => ?_) (fun h22 => ?_)
        · rw [if_pos h22] at hf
          have hf := Option.some.inj hf
          simp only [Prod.mk.injEq] at hf
          obtain ⟨rfl, rfl⟩ := hf
          exact K _ _ _ hP hS (lv_sub hl [0, 1, 2, 3] rfl)
        · rw [if_neg h22] at hf
          refine lv_aload_n hx hb dX9_readNumber_35 rfl (lv_at hl 0 rfl) ?_
          refine w_get hx hb hts iX9_readNumber_X9 hown hP hK (by decide) emb_mm rfl 10 (by decide) hk_f220 rfl dX9_readNumber_36 ?_
          refine lv_iload_n hx hb dX9_readNumber_39 rfl (lv_at hl 2 rfl) ?_
          refine lv_isub hx hb dX9_readNumber_40 ?_
          refine lv_iconst (v := 3) hx hb dX9_readNumber_41 (by decide) ?_
          refine lv_icmp_ge (tgt := 71) hx hb dX9_readNumber_42 (by decide) (fun h23 => ?_) (fun h23 => ?_)
          · rw [if_pos h23] at hf
            have hf := Option.some.inj hf
            simp only [Prod.mk.injEq] at hf
            obtain ⟨rfl, rfl⟩ := hf
            exact K _ _ _ hP hS (lv_sub hl [0, 1, 2, 3] rfl)
          · rw [if_neg h23] at hf
            refine lv_bipush (v := 10) hx hb dX9_readNumber_45 (by decide) ?_
            refine lv_iload_n hx hb dX9_readNumber_47 rfl (lv_at hl 3 rfl) ?_
            refine lv_imul hx hb dX9_readNumber_48 ?_
            refine lv_aload_n hx hb dX9_readNumber_49 rfl (lv_at hl 0 rfl) ?_
            obtain ⟨x24, hc25, hf⟩ := ob1_e hf
            refine w_ci ⟨hx, hb, hml, hown, hts⟩ hP hK hS (k9_here l hX w hc25) hc_223 (w_recv hP hK (by decide) emb_mm rfl) rfl hl.1 rfl (Nat.le_of_ble_eq_true rfl) dX9_readNumber_50 ⟨Nat.zero_le _, Nat.zero_le _⟩ (fun H locs hP hS => ?_)
            refine lv_iadd hx hb dX9_readNumber_53 ?_
            refine lv_bipush (v := 48) hx hb dX9_readNumber_54 (by decide) ?_
            refine lv_isub hx hb dX9_readNumber_56 ?_
            refine lv_topi (fun x26 ex26 => ?_)
            replace hf := ltn_s ex26 hf
            refine lv_istore_n (lv' := [(3, .int x26), (0, .ref (xa X 314)), (1, .int x14), (2, .int x15)]) hx hb dX9_readNumber_57 rfl hl (by decide) rfl (fun ls hl => ?_)
            refine lv_aload_n hx hb dX9_readNumber_58 rfl (lv_at hl 1 rfl) ?_
            refine lv_dup hx hb dX9_readNumber_59 rfl ?_
            refine w_get hx hb hts iX9_readNumber_X9 hown hP hK (by decide) emb_mm rfl 10 (by decide) hk_f220 rfl dX9_readNumber_60 ?_
            refine lv_iconst (v := 1) hx hb dX9_readNumber_63 (by decide) ?_
            refine lv_iadd hx hb dX9_readNumber_64 ?_
            refine mm_put hx hb hts iX9_readNumber_X9 hown hX hP hK hS 10 (by decide) hk_f220 rfl rfl (Nat.le_of_ble_eq_true rfl) (mm_es3 _) dX9_readNumber_65 (fun q27 eq27 H locs hP hS => ?_)
            replace hf := ltn_s eq27 hf
            refine lv_goto (tgt := 28) hx hb dX9_readNumber_68 (by decide) ?_
            exact ih x14 x15 x26 q27 o18 oq19 _ _ _ hf hP hS (lv_sub hl [1, 2, 3, 0] rfl) K
    obtain ⟨x28, q29, hc30, hf⟩ := ob2_e hf
    refine L28 N a1 x12 0 q10 x28 q29 _ _ _ hc30 hP hS (lv_sub hl [2, 3, 1, 0] rfl) (fun H locs ls hP hS hl => ?_)
    refine lv_aload_n hx hb dX9_readNumber_71 rfl (lv_at hl 0 rfl) ?_
    refine w_get hx hb hts iX9_readNumber_X9 hown hP hK (by decide) emb_mm rfl 10 (by decide) hk_f220 rfl dX9_readNumber_72 ?_
    refine lv_iload_n hx hb dX9_readNumber_75 rfl (lv_at hl 2 rfl) ?_
    obtain ⟨q39, ejK40, hf⟩ := ob1_e hf
    have K40 : ∀ (H : Heap) (locs : List Loc) (ls : Array Slot), HW X (pmm w s0 u0 sv0 tx0 ow0 rs0 rn0 nu0 q39) H → va_S (xF b0) s.heap H locs → lv_has ls 4 [(0, .ref (xa X 314)), (1, .int a1), (3, .int x28)] → W p l e R s m args below meth c H locs 0 0 Q (F0 m 94 ls []) := by
      intro H locs ls hP hS hl
      refine lv_aload_n hx hb dX9_readNumber_94 rfl (lv_at hl 0 rfl) ?_
      refine w_get hx hb hts iX9_readNumber_X9 hown hP hK (by decide) emb_mm rfl 12 (by decide) hk_f32 rfl dX9_readNumber_95 ?_
      refine lv_iload_n hx hb dX9_readNumber_98 rfl (lv_at hl 1 rfl) ?_
      refine lv_iload_n hx hb dX9_readNumber_99 rfl (lv_at hl 2 rfl) ?_
      obtain ⟨hin48, hf⟩ := ck_e hf
      refine ar_ast (g := nu0) hx hb hX AR_nu rfl (fun z => pmm w s0 u0 sv0 tx0 ow0 rs0 rn0 z q39) (fun z => pmm_nu) hP hK hS hin48 dX9_readNumber_100 (fun nu49 enu49 H locs hP hS => ?_)
      replace hf := ltn_s enu49 hf
      have hf := Option.some.inj hf
      simp only [Prod.mk.injEq] at hf
      obtain ⟨rfl, rfl⟩ := hf
      rw [hQ]
      exact w_vret hx hb hr hlocks hP hK hS dX9_readNumber_101 rfl
    clear hf
    refine lv_icmp_eq (tgt := 86) hx hb dX9_readNumber_76 (by decide) (fun h31 => ?_) (fun h31 => ?_)
    · rw [if_pos h31] at ejK40
      refine lv_aload_n hx hb dX9_readNumber_86 rfl (lv_at hl 0 rfl) ?_
      refine lv_aload_n hx hb dX9_readNumber_87 rfl (lv_at hl 0 rfl) ?_
      refine w_get hx hb hts iX9_readNumber_X9 hown hP hK (by decide) emb_mm rfl 10 (by decide) hk_f220 rfl dX9_readNumber_88 ?_
      obtain ⟨q41, hc42, ejK40⟩ := lt1_e ejK40
      refine w_cv ⟨hx, hb, hml, hown, hts⟩ hP hK hS (k9_fail l hX w hc42) hc_244 (w_recv hP hK (by decide) emb_mm rfl) rfl hl.1 rfl (Nat.le_of_ble_eq_true rfl) dX9_readNumber_91 ⟨Nat.zero_le _, Nat.zero_le _⟩ (fun H locs hP hS => ?_)
      have ejK40 := Option.some.inj ejK40
      obtain rfl := ejK40
      exact K40 _ _ _ hP hS (lv_sub hl [0, 1, 3] rfl)
    · rw [if_neg h31] at ejK40
      refine lv_aload_n hx hb dX9_readNumber_79 rfl (lv_at hl 0 rfl) ?_
      obtain ⟨x43, hc44, ejK40⟩ := ob1_e ejK40
      refine w_ci ⟨hx, hb, hml, hown, hts⟩ hP hK hS (k9_isDigit l hX w hc44) hc_250 (w_recv hP hK (by decide) emb_mm rfl) rfl hl.1 rfl (Nat.le_of_ble_eq_true rfl) dX9_readNumber_80 ⟨Nat.zero_le _, Nat.zero_le _⟩ (fun H locs hP hS => ?_)
      refine lv_if_eq (tgt := 94) hx hb dX9_readNumber_83 (by decide) (fun h45 => ?_) (fun h45 => ?_)
      · rw [if_pos h45] at ejK40
        have ejK40 := Option.some.inj ejK40
        obtain rfl := ejK40
        exact K40 _ _ _ hP hS (lv_sub hl [0, 1, 3] rfl)
      · rw [if_neg h45] at ejK40
        refine lv_aload_n hx hb dX9_readNumber_86 rfl (lv_at hl 0 rfl) ?_
        refine lv_aload_n hx hb dX9_readNumber_87 rfl (lv_at hl 0 rfl) ?_
        refine w_get hx hb hts iX9_readNumber_X9 hown hP hK (by decide) emb_mm rfl 10 (by decide) hk_f220 rfl dX9_readNumber_88 ?_
        obtain ⟨q46, hc47, ejK40⟩ := lt1_e ejK40
        refine w_cv ⟨hx, hb, hml, hown, hts⟩ hP hK hS (k9_fail l hX w hc47) hc_244 (w_recv hP hK (by decide) emb_mm rfl) rfl hl.1 rfl (Nat.le_of_ble_eq_true rfl) dX9_readNumber_91 ⟨Nat.zero_le _, Nat.zero_le _⟩ (fun H locs hP hS => ?_)
        have ejK40 := Option.some.inj ejK40
        obtain rfl := ejK40
        exact K40 _ _ _ hP hS (lv_sub hl [0, 1, 3] rfl)
  clear hf
  refine lv_icmp_eq (tgt := 17) hx hb dX9_readNumber_6 (by decide) (fun h3 => ?_) (fun h3 => ?_)
  · rw [if_pos h3] at ejK7
    obtain rfl := ejK7
    exact K7 _ _ _ hP hS (lv_sub hl [0, 1] rfl)
  · rw [if_neg h3] at ejK7
    refine lv_aload_n hx hb dX9_readNumber_9 rfl (lv_at hl 0 rfl) ?_
    refine lv_aload_n hx hb dX9_readNumber_10 rfl (lv_at hl 0 rfl) ?_
    refine w_get hx hb hts iX9_readNumber_X9 hown hP hK (by decide) emb_mm rfl 10 (by decide) hk_f220 rfl dX9_readNumber_11 ?_
    obtain ⟨q8, hc9, ejK7⟩ := lt1_e ejK7
    refine w_cv ⟨hx, hb, hml, hown, hts⟩ hP hK hS (k9_fail l hX w hc9) hc_244 (w_recv hP hK (by decide) emb_mm rfl) rfl hl.1 rfl (Nat.le_of_ble_eq_true rfl) dX9_readNumber_14 ⟨Nat.zero_le _, Nat.zero_le _⟩ (fun H locs hP hS => ?_)
    obtain rfl := ejK7
    exact K7 _ _ _ hP hS (lv_sub hl [0, 1] rfl)
abbrev rmX9_readCommand : Room := { frames := 4, cells := 0, slots := 0, locals := 93 }
theorem iX9_readCommand_X9 : ∀ w ∈ wsX90, w ∈ wsX9_readCommand := by decide +kernel
set_option maxHeartbeats 4000000 in
set_option maxRecDepth 100000 in
theorem k9_readCommand (l : Launch) {X : bkX} {b0 : Nat} (hX : XO X b0) (w : bkW) {N : Nat} {s0 : Nat → Int32} {u0 : Nat → Int32} {sv0 : Nat → Int32} {tx0 : Nat → Int32} {ow0 : Nat → Int32} {rs0 : Nat → Int64} {rn0 : Nat → Int32} {nu0 : Nat → Int32} {q0 : Nat → Int32} {res9 : Int32} {nu9 : Nat → Int32} {q9 : Nat → Int32} (hf : m9_readCommand N tx0 nu0 q0 = some (res9, nu9, q9)) : cI l yX9_readCommand wsX9_readCommand rmX9_readCommand X b0 [.ref (xa X 314)] (pmm w s0 u0 sv0 tx0 ow0 rs0 rn0 nu0 q0) res9 (pmm w s0 u0 sv0 tx0 ow0 rs0 rn0 nu9 q9) := by
  refine Met.ofW (cc := cX9_readCommand) (maxL := 3) (ret := (some .int)) (by decide) rfl ?_
  intro p e s m args below meth c s₁ B hml hv
  obtain ⟨ha, hP, hK⟩ := hv
  have hx := B.exec
  have hb := B.bytes
  have hr := B.returns
  have hts := atoms_spec (ws := wsX9_readCommand) B.pre
  have hown : s.vm.findClass RX9 = some m.cls := findClass_of_methodNamed B.named
  have hlocks := B.notSynchronized
  obtain ⟨R, hR⟩ : ∃ R, R = (headSpec wsX9_readCommand rmX9_readCommand).room := ⟨_, rfl⟩
  rw [← hR]
  have hR1 : R.frames = 4 := by rw [hR]; rfl
  have hR2 : R.locals = 93 := by rw [hR]; rfl
  obtain ⟨Q, hQ⟩ : ∃ Q : State → Prop, Q = MQ below (va_Qi (fun r' (_ : Unit) => r' = res9) (fun _ t => WU X (pmm w s0 u0 sv0 tx0 ow0 rs0 rn0 nu9 q9) t) (xF b0)) args s 0 0 (xF b0) := ⟨_, rfl⟩
  rw [← hQ]
  have hS : va_S (xF b0) s.heap s.heap [] := va_S.rf
  have hl := lv_entry ([.ref (xa X 314)]) (n := 3) (Nat.le_of_ble_eq_true rfl)
  refine W.eq ((congrArg (fun z => entryFrame m z 3) ha).trans (lg_entry_eq m _ 3)) ?_
  generalize (lg_sl ([.ref (xa X 314)]) ++ List.replicate (3 - (lg_sl ([.ref (xa X 314)])).length) Slot.unset).toArray = ls at hl ⊢
  have hl : lv_has ls 3 [(0, .ref (xa X 314))] := hl
  have hc_253 := (cwV 0 hts gX9_readCommand_X9_readWord rfl rfl rfl (by decide +kernel) ⟨by rw [hR1]; exact Nat.le_of_ble_eq_true rfl, by rw [hR2]; exact Nat.le_of_ble_eq_true rfl⟩ : CallW R s args RX9 RX9 253 yX9_readWord cX9_readWord 3 (some .int) wsX9_readWord rmX9_readWord 0 0 0)
  have hk_f233 := hts (.fieldLink RX9 233 "BakeTurnsModel" "fault" "I") (by decide +kernel)
  have hc_256 := (cwS 1 hts gX9_readCommand_X9_numbersOf rfl rfl rfl (by decide +kernel) ⟨by rw [hR1]; exact Nat.le_of_ble_eq_true rfl, by rw [hR2]; exact Nat.le_of_ble_eq_true rfl⟩ : CallB R s args RX9 256 yX9_numbersOf cX9_numbersOf 1 (some .int) wsX9_numbersOf rmX9_numbersOf 0 0 1 ∧ (Cond.static yX9_numbersOf).before args s = true)
  have hc_259 := (cwV 1 hts gX9_readCommand_X9_readNumber rfl rfl rfl (by decide +kernel) ⟨by rw [hR1]; exact Nat.le_of_ble_eq_true rfl, by rw [hR2]; exact Nat.le_of_ble_eq_true rfl⟩ : CallW R s args RX9 RX9 259 yX9_readNumber cX9_readNumber 4 none wsX9_readNumber rmX9_readNumber 0 0 1)
  have hc_247 := (cwV 0 hts gX9_readCommand_X9_skip rfl rfl rfl (by decide +kernel) ⟨by rw [hR1]; exact Nat.le_of_ble_eq_true rfl, by rw [hR2]; exact Nat.le_of_ble_eq_true rfl⟩ : CallW R s args RX9 RX9 247 yX9_skip cX9_skip 1 none wsX9_skip rmX9_skip 0 0 0)
  have hc_223 := (cwV 0 hts gX9_readCommand_X9_here rfl rfl rfl (by decide +kernel) ⟨by rw [hR1]; exact Nat.le_of_ble_eq_true rfl, by rw [hR2]; exact Nat.le_of_ble_eq_true rfl⟩ : CallW R s args RX9 RX9 223 yX9_here cX9_here 1 (some .int) wsX9_here rmX9_here 0 0 0)
  have hk_f220 := hts (.fieldLink RX9 220 "BakeTurnsModel" "next" "I") (by decide +kernel)
  have hc_244 := (cwV 1 hts gX9_readCommand_X9_fail rfl rfl rfl (by decide +kernel) ⟨by rw [hR1]; exact Nat.le_of_ble_eq_true rfl, by rw [hR2]; exact Nat.le_of_ble_eq_true rfl⟩ : CallW R s args RX9 RX9 244 yX9_fail cX9_fail 2 none wsX9_fail rmX9_fail 0 0 1)
  unfold m9_readCommand at hf
  refine lv_aload_n hx hb dX9_readCommand_0 rfl (lv_at hl 0 rfl) ?_
  obtain ⟨x1, q2, hc3, hf⟩ := ob2_e hf
  refine w_ci ⟨hx, hb, hml, hown, hts⟩ hP hK hS (k9_readWord l hX w hc3) hc_253 (w_recv hP hK (by decide) emb_mm rfl) rfl hl.1 rfl (Nat.le_of_ble_eq_true rfl) dX9_readCommand_1 ⟨Nat.zero_le _, Nat.zero_le _⟩ (fun H locs hP hS => ?_)
  refine lv_istore_n (lv' := [(1, .int x1), (0, .ref (xa X 314))]) hx hb dX9_readCommand_4 rfl hl (by decide) rfl (fun ls hl => ?_)
  refine lv_iconst (v := 0) hx hb dX9_readCommand_5 (by decide) ?_
  refine lv_istore_n (lv' := [(2, .int 0), (1, .int x1), (0, .ref (xa X 314))]) hx hb dX9_readCommand_6 rfl hl (by decide) rfl (fun ls hl => ?_)
  have L7 : ∀ (n : Nat) (x5 : Int32) (x6 : Int32) (nu7 : Nat → Int32) (q8 : Nat → Int32) (onu9 : Nat → Int32) (oq10 : Nat → Int32) (H : Heap) (locs : List Loc) (ls : Array Slot), m9_readCommand_L7 N n x5 x6 tx0 nu7 q8 = some (onu9, oq10) → HW X (pmm w s0 u0 sv0 tx0 ow0 rs0 rn0 nu7 q8) H → va_S (xF b0) s.heap H locs → lv_has ls 3 [(0, .ref (xa X 314)), (1, .int x5), (2, .int x6)] → (∀ (H1 : Heap) (locs1 : List Loc) (ls1 : Array Slot), HW X (pmm w s0 u0 sv0 tx0 ow0 rs0 rn0 onu9 oq10) H1 → va_S (xF b0) s.heap H1 locs1 → lv_has ls1 3 [(0, .ref (xa X 314)), (1, .int x5)] → W p l e R s m args below meth c H1 locs1 0 0 Q (F0 m 33 ls1 [])) → W p l e R s m args below meth c H locs 0 0 Q (F0 m 7 ls []) := by
    intro n; induction n with
    | zero => intro x5 x6 nu7 q8 onu9 oq10 H locs ls hf; rw [m9_readCommand_L7] at hf; cases hf
    | succ n ih =>
      intro x5 x6 nu7 q8 onu9 oq10 H locs ls hf hP hS hl K
      rw [m9_readCommand_L7] at hf
      refine lv_aload_n hx hb dX9_readCommand_7 rfl (lv_at hl 0 rfl) ?_
      refine w_get hx hb hts iX9_readCommand_X9 hown hP hK (by decide) emb_mm rfl 11 (by decide) hk_f233 rfl dX9_readCommand_8 ?_
      refine lv_if_ge (tgt := 33) hx hb dX9_readCommand_11 (by decide) (fun h11 => ?_) (fun h11 => ?_)
      · rw [if_pos h11] at hf
        have hf := Option.some.inj hf
        simp only [Prod.mk.injEq] at hf
        obtain ⟨rfl, rfl⟩ := hf
        exact K _ _ _ hP hS (lv_sub hl [0, 1] rfl)
      · rw [if_neg h11] at hf
        refine lv_iload_n hx hb dX9_readCommand_14 rfl (lv_at hl 2 rfl) ?_
        refine lv_iload_n hx hb dX9_readCommand_15 rfl (lv_at hl 1 rfl) ?_
        obtain ⟨x12, hc13, hf⟩ := lt1_e hf
        refine w_csi ⟨hx, hb, hml, hown, hts⟩ hP hK hS (k9_numbersOf l hX (pmm w s0 u0 sv0 tx0 ow0 rs0 rn0 nu7 q8) hc13) hc_256 rfl hl.1 rfl (Nat.le_of_ble_eq_true rfl) dX9_readCommand_16 ⟨Nat.zero_le _, Nat.zero_le _⟩ (fun H locs hP hS => ?_)
        refine lv_icmp_ge (tgt := 33) hx hb dX9_readCommand_19 (by decide) (fun h14 => ?_) (fun h14 => ?_)
        · rw [if_pos h14] at hf
          have hf := Option.some.inj hf
          simp only [Prod.mk.injEq] at hf
          obtain ⟨rfl, rfl⟩ := hf
          exact K _ _ _ hP hS (lv_sub hl [0, 1] rfl)
        · rw [if_neg h14] at hf
          refine lv_aload_n hx hb dX9_readCommand_22 rfl (lv_at hl 0 rfl) ?_
          refine lv_iload_n hx hb dX9_readCommand_23 rfl (lv_at hl 2 rfl) ?_
          obtain ⟨nu15, q16, hc17, hf⟩ := ob2_e hf
          refine w_cv ⟨hx, hb, hml, hown, hts⟩ hP hK hS (k9_readNumber l hX w hc17) hc_259 (w_recv hP hK (by decide) emb_mm rfl) rfl hl.1 rfl (Nat.le_of_ble_eq_true rfl) dX9_readCommand_24 ⟨Nat.zero_le _, Nat.zero_le _⟩ (fun H locs hP hS => ?_)
          obtain ⟨x18, ex18⟩ : ∃ y : Int32, y = x6 + 1 := ⟨_, rfl⟩
          replace hf := ltn_s ex18 hf
          refine lv_iinc (v := x18) (lv' := [(2, .int x18), (0, .ref (xa X 314)), (1, .int x5)]) hx hb dX9_readCommand_27 hl (k := 2) rfl (by rw [ex18]; rfl) (by decide) rfl (fun ls hl => ?_)
          refine lv_goto (tgt := 7) hx hb dX9_readCommand_30 (by decide) ?_
          exact ih x5 x18 nu15 q16 onu9 oq10 _ _ _ hf hP hS (lv_sub hl [1, 2, 0] rfl) K
  obtain ⟨nu19, q20, hc21, hf⟩ := ob2_e hf
  refine L7 N x1 0 nu0 q2 nu19 q20 _ _ _ hc21 hP hS (lv_sub hl [2, 1, 0] rfl) (fun H locs ls hP hS hl => ?_)
  refine lv_aload_n hx hb dX9_readCommand_33 rfl (lv_at hl 0 rfl) ?_
  obtain ⟨q22, hc23, hf⟩ := ob1_e hf
  refine w_cv ⟨hx, hb, hml, hown, hts⟩ hP hK hS (k9_skip l hX w hc23) hc_247 (w_recv hP hK (by decide) emb_mm rfl) rfl hl.1 rfl (Nat.le_of_ble_eq_true rfl) dX9_readCommand_34 ⟨Nat.zero_le _, Nat.zero_le _⟩ (fun H locs hP hS => ?_)
  refine lv_aload_n hx hb dX9_readCommand_37 rfl (lv_at hl 0 rfl) ?_
  refine w_get hx hb hts iX9_readCommand_X9 hown hP hK (by decide) emb_mm rfl 11 (by decide) hk_f233 rfl dX9_readCommand_38 ?_
  obtain ⟨q30, ejK31, hf⟩ := ob1_e hf
  have K31 : ∀ (H : Heap) (locs : List Loc) (ls : Array Slot), HW X (pmm w s0 u0 sv0 tx0 ow0 rs0 rn0 nu19 q30) H → va_S (xF b0) s.heap H locs → lv_has ls 3 [(0, .ref (xa X 314)), (1, .int x1)] → W p l e R s m args below meth c H locs 0 0 Q (F0 m 61 ls []) := by
    intro H locs ls hP hS hl
    refine lv_aload_n hx hb dX9_readCommand_61 rfl (lv_at hl 0 rfl) ?_
    refine lv_dup hx hb dX9_readCommand_62 rfl ?_
    refine w_get hx hb hts iX9_readCommand_X9 hown hP hK (by decide) emb_mm rfl 10 (by decide) hk_f220 rfl dX9_readCommand_63 ?_
    refine lv_iconst (v := 1) hx hb dX9_readCommand_66 (by decide) ?_
    refine lv_iadd hx hb dX9_readCommand_67 ?_
    refine mm_put hx hb hts iX9_readCommand_X9 hown hX hP hK hS 10 (by decide) hk_f220 rfl rfl (Nat.le_of_ble_eq_true rfl) (mm_es3 _) dX9_readCommand_68 (fun q37 eq37 H locs hP hS => ?_)
    replace hf := ltn_s eq37 hf
    refine lv_aload_n hx hb dX9_readCommand_71 rfl (lv_at hl 0 rfl) ?_
    obtain ⟨q38, hc39, hf⟩ := ob1_e hf
    refine w_cv ⟨hx, hb, hml, hown, hts⟩ hP hK hS (k9_skip l hX w hc39) hc_247 (w_recv hP hK (by decide) emb_mm rfl) rfl hl.1 rfl (Nat.le_of_ble_eq_true rfl) dX9_readCommand_72 ⟨Nat.zero_le _, Nat.zero_le _⟩ (fun H locs hP hS => ?_)
    refine lv_iload_n hx hb dX9_readCommand_75 rfl (lv_at hl 1 rfl) ?_
    have hf := Option.some.inj hf
    simp only [Prod.mk.injEq] at hf
    obtain ⟨rfl, rfl, rfl⟩ := hf
    rw [hQ]
    exact w_iret hx hb hr hlocks hP hK hS dX9_readCommand_76 rfl rfl
  clear hf
  refine lv_if_ge (tgt := 61) hx hb dX9_readCommand_41 (by decide) (fun h24 => ?_) (fun h24 => ?_)
  · rw [if_pos h24] at ejK31
    have ejK31 := Option.some.inj ejK31
    obtain rfl := ejK31
    exact K31 _ _ _ hP hS (lv_sub hl [0, 1] rfl)
  · rw [if_neg h24] at ejK31
    refine lv_aload_n hx hb dX9_readCommand_44 rfl (lv_at hl 0 rfl) ?_
    obtain ⟨x32, hc33, ejK31⟩ := ob1_e ejK31
    refine w_ci ⟨hx, hb, hml, hown, hts⟩ hP hK hS (k9_here l hX w hc33) hc_223 (w_recv hP hK (by decide) emb_mm rfl) rfl hl.1 rfl (Nat.le_of_ble_eq_true rfl) dX9_readCommand_45 ⟨Nat.zero_le _, Nat.zero_le _⟩ (fun H locs hP hS => ?_)
    refine lv_bipush (v := 59) hx hb dX9_readCommand_48 (by decide) ?_
    refine lv_icmp_eq (tgt := 61) hx hb dX9_readCommand_50 (by decide) (fun h34 => ?_) (fun h34 => ?_)
    · rw [if_pos h34] at ejK31
      have ejK31 := Option.some.inj ejK31
      obtain rfl := ejK31
      exact K31 _ _ _ hP hS (lv_sub hl [0, 1] rfl)
    · rw [if_neg h34] at ejK31
      refine lv_aload_n hx hb dX9_readCommand_53 rfl (lv_at hl 0 rfl) ?_
      refine lv_aload_n hx hb dX9_readCommand_54 rfl (lv_at hl 0 rfl) ?_
      refine w_get hx hb hts iX9_readCommand_X9 hown hP hK (by decide) emb_mm rfl 10 (by decide) hk_f220 rfl dX9_readCommand_55 ?_
      obtain ⟨q35, hc36, ejK31⟩ := lt1_e ejK31
      refine w_cv ⟨hx, hb, hml, hown, hts⟩ hP hK hS (k9_fail l hX w hc36) hc_244 (w_recv hP hK (by decide) emb_mm rfl) rfl hl.1 rfl (Nat.le_of_ble_eq_true rfl) dX9_readCommand_58 ⟨Nat.zero_le _, Nat.zero_le _⟩ (fun H locs hP hS => ?_)
      have ejK31 := Option.some.inj ejK31
      obtain rfl := ejK31
      exact K31 _ _ _ hP hS (lv_sub hl [0, 1] rfl)
