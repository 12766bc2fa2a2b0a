abbrev rmX9_pass : Room := { frames := 7, cells := 0, slots := 0, locals := 162 }
theorem iX9_pass_X9 : ∀ w ∈ wsX90, w ∈ wsX9_pass := by decide +kernel
set_option maxHeartbeats 4000000 in
set_option maxRecDepth 100000 in
theorem k9_pass (l : Launch) {X : bkX} {b0 : Nat} (hX : XO X b0) (w : bkW) {N : Nat} {s0 : Nat → Int32} {u0 : Nat → Int32} {sv0 : Nat → Int32} {tx0 : Nat → Int32} {ow0 : Nat → Int32} {rs0 : Nat → Int64} {rn0 : Nat → Int32} {nu0 : Nat → Int32} {q0 : Nat → Int32} {a1 : Int32} {res9 : Int32} {s9 : Nat → Int32} {sv9 : Nat → Int32} {q9 : Nat → Int32} (hf : m9_pass N s0 sv0 q0 a1 = some (res9, s9, sv9, q9)) : cI l yX9_pass wsX9_pass rmX9_pass X b0 [.ref (xa X 314), .int a1] (pmm w s0 u0 sv0 tx0 ow0 rs0 rn0 nu0 q0) res9 (pmm w s9 u0 sv9 tx0 ow0 rs0 rn0 nu0 q9) := by
  refine Met.ofW (cc := cX9_pass) (maxL := 2) (ret := (some .int)) (by decide) rfl ?_
  intro p e s m args below meth c s₁ B hml hv
  obtain ⟨ha, hP, hK⟩ := hv
  have hx := B.exec
  have hb := B.bytes
  have hr := B.returns
  have hts := atoms_spec (ws := wsX9_pass) B.pre
  have hown : s.vm.findClass RX9 = some m.cls := findClass_of_methodNamed B.named
  have hlocks := B.notSynchronized
  obtain ⟨R, hR⟩ : ∃ R, R = (headSpec wsX9_pass rmX9_pass).room := ⟨_, rfl⟩
  rw [← hR]
  have hR1 : R.frames = 7 := by rw [hR]; rfl
  have hR2 : R.locals = 162 := by rw [hR]; rfl
  obtain ⟨Q, hQ⟩ : ∃ Q : State → Prop, Q = MQ below (va_Qi (fun r' (_ : Unit) => r' = res9) (fun _ t => WU X (pmm w s9 u0 sv9 tx0 ow0 rs0 rn0 nu0 q9) t) (xF b0)) args s 0 0 (xF b0) := ⟨_, rfl⟩
  rw [← hQ]
  have hS : va_S (xF b0) s.heap s.heap [] := va_S.rf
  have hl := lv_entry ([.ref (xa X 314), .int a1]) (n := 2) (Nat.le_of_ble_eq_true rfl)
  refine W.eq ((congrArg (fun z => entryFrame m z 2) ha).trans (lg_entry_eq m _ 2)) ?_
  generalize (lg_sl ([.ref (xa X 314), .int a1]) ++ List.replicate (2 - (lg_sl ([.ref (xa X 314), .int a1])).length) Slot.unset).toArray = ls at hl ⊢
  have hl : lv_has ls 2 [(0, .ref (xa X 314)), (1, .int a1)] := hl
  have hc_177 := (cwV 1 hts gX9_pass_X9_passCode rfl rfl rfl (by decide +kernel) ⟨by rw [hR1]; exact Nat.le_of_ble_eq_true rfl, by rw [hR2]; exact Nat.le_of_ble_eq_true rfl⟩ : CallW R s args RX9 RX9 177 yX9_passCode cX9_passCode 2 (some .int) wsX9_passCode rmX9_passCode 0 0 1)
  have hk_f35 := hts (.fieldLink RX9 35 "BakeTurnsModel" "thrown" "I") (by decide +kernel)
  have hc_112 := (cwV 0 hts gX9_pass_X9_save rfl rfl rfl (by decide +kernel) ⟨by rw [hR1]; exact Nat.le_of_ble_eq_true rfl, by rw [hR2]; exact Nat.le_of_ble_eq_true rfl⟩ : CallW R s args RX9 RX9 112 yX9_save cX9_save 2 none wsX9_save rmX9_save 0 0 0)
  have hc_180 := (cwV 1 hts gX9_pass_X9_passNow rfl rfl rfl (by decide +kernel) ⟨by rw [hR1]; exact Nat.le_of_ble_eq_true rfl, by rw [hR2]; exact Nat.le_of_ble_eq_true rfl⟩ : CallW R s args RX9 RX9 180 yX9_passNow cX9_passNow 4 (some .int) wsX9_passNow rmX9_passNow 0 0 1)
  unfold m9_pass at hf
  refine lv_aload_n hx hb dX9_pass_0 rfl (lv_at hl 0 rfl) ?_
  refine lv_aload_n hx hb dX9_pass_1 rfl (lv_at hl 0 rfl) ?_
  refine lv_iload_n hx hb dX9_pass_2 rfl (lv_at hl 1 rfl) ?_
  obtain ⟨x1, hc2, hf⟩ := ob1_e hf
  refine w_ci ⟨hx, hb, hml, hown, hts⟩ hP hK hS (k9_passCode l hX w hc2) hc_177 (w_recv hP hK (by decide) emb_mm rfl) rfl hl.1 rfl (Nat.le_of_ble_eq_true rfl) dX9_pass_3 ⟨Nat.zero_le _, Nat.zero_le _⟩ (fun H locs hP hS => ?_)
  refine mm_put hx hb hts iX9_pass_X9 hown hX hP hK hS 0 (by decide) hk_f35 rfl rfl (Nat.le_of_ble_eq_true rfl) (mm_es0 _) dX9_pass_6 (fun q3 eq3 H locs hP hS => ?_)
  replace hf := ltn_s eq3 hf
  refine lv_aload_n hx hb dX9_pass_9 rfl (lv_at hl 0 rfl) ?_
  refine w_get hx hb hts iX9_pass_X9 hown hP hK (by decide) emb_mm rfl 0 (by decide) hk_f35 rfl dX9_pass_10 ?_
  refine lv_if_le (tgt := 18) hx hb dX9_pass_13 (by decide) (fun h4 => ?_) (fun h4 => ?_)
  · rw [if_pos h4] at hf
    refine lv_aload_n hx hb dX9_pass_18 rfl (lv_at hl 0 rfl) ?_
    obtain ⟨sv5, q6, hc7, hf⟩ := ob2_e hf
    refine w_cv ⟨hx, hb, hml, hown, hts⟩ hP hK hS (k9_save l hX w hc7) hc_112 (w_recv hP hK (by decide) emb_mm rfl) rfl hl.1 rfl (Nat.le_of_ble_eq_true rfl) dX9_pass_19 ⟨Nat.zero_le _, Nat.zero_le _⟩ (fun H locs hP hS => ?_)
    refine lv_aload_n hx hb dX9_pass_22 rfl (lv_at hl 0 rfl) ?_
    refine lv_iload_n hx hb dX9_pass_23 rfl (lv_at hl 1 rfl) ?_
    obtain ⟨x8, s9, hc10, hf⟩ := ob2_e hf
    refine w_ci ⟨hx, hb, hml, hown, hts⟩ hP hK hS (k9_passNow l hX w hc10) hc_180 (w_recv hP hK (by decide) emb_mm rfl) rfl hl.1 rfl (Nat.le_of_ble_eq_true rfl) dX9_pass_24 ⟨Nat.zero_le _, Nat.zero_le _⟩ (fun H locs hP hS => ?_)
    have hf := Option.some.inj hf
    simp only [Prod.mk.injEq] at hf
    obtain ⟨rfl, rfl, rfl, rfl⟩ := hf
    rw [hQ]
    exact w_iret hx hb hr hlocks hP hK hS dX9_pass_27 rfl rfl
  · rw [if_neg h4] at hf
    refine lv_iconst (v := 0) hx hb dX9_pass_16 (by decide) ?_
    have hf := Option.some.inj hf
    simp only [Prod.mk.injEq] at hf
    obtain ⟨rfl, rfl, rfl, rfl⟩ := hf
    rw [hQ]
    exact w_iret hx hb hr hlocks hP hK hS dX9_pass_17 rfl rfl
abbrev rmX9_kind : Room := { frames := 2, cells := 0, slots := 0, locals := 43 }
theorem iX9_kind_X9 : ∀ w ∈ wsX90, w ∈ wsX9_kind := by decide +kernel
set_option maxHeartbeats 4000000 in
set_option maxRecDepth 100000 in
theorem k9_kind (l : Launch) {X : bkX} {b0 : Nat} (hX : XO X b0) (w : bkW) {s0 : Nat → Int32} {u0 : Nat → Int32} {sv0 : Nat → Int32} {tx0 : Nat → Int32} {ow0 : Nat → Int32} {rs0 : Nat → Int64} {rn0 : Nat → Int32} {nu0 : Nat → Int32} {q0 : Nat → Int32} {a1 : Int32} {a2 : Int32} {res9 : Int32} {q9 : Nat → Int32} (hf : m9_kind s0 q0 a1 a2 = some (res9, q9)) : cI l yX9_kind wsX9_kind rmX9_kind X b0 [.ref (xa X 314), .int a1, .int a2] (pmm w s0 u0 sv0 tx0 ow0 rs0 rn0 nu0 q0) res9 (pmm w s0 u0 sv0 tx0 ow0 rs0 rn0 nu0 q9) := by
  refine Met.ofW (cc := cX9_kind) (maxL := 3) (ret := (some .int)) (by decide) rfl ?_
  intro p e s m args below meth c s₁ B hml hv
  obtain ⟨ha, hP, hK⟩ := hv
  have hx := B.exec
  have hb := B.bytes
  have hr := B.returns
  have hts := atoms_spec (ws := wsX9_kind) B.pre
  have hown : s.vm.findClass RX9 = some m.cls := findClass_of_methodNamed B.named
  have hlocks := B.notSynchronized
  obtain ⟨R, hR⟩ : ∃ R, R = (headSpec wsX9_kind rmX9_kind).room := ⟨_, rfl⟩
  rw [← hR]
  have hR1 : R.frames = 2 := by rw [hR]; rfl
  have hR2 : R.locals = 43 := by rw [hR]; rfl
  obtain ⟨Q, hQ⟩ : ∃ Q : State → Prop, Q = MQ below (va_Qi (fun r' (_ : Unit) => r' = res9) (fun _ t => WU X (pmm w s0 u0 sv0 tx0 ow0 rs0 rn0 nu0 q9) t) (xF b0)) args s 0 0 (xF b0) := ⟨_, rfl⟩
  rw [← hQ]
  have hS : va_S (xF b0) s.heap s.heap [] := va_S.rf
  have hl := lv_entry ([.ref (xa X 314), .int a1, .int a2]) (n := 3) (Nat.le_of_ble_eq_true rfl)
  refine W.eq ((congrArg (fun z => entryFrame m z 3) ha).trans (lg_entry_eq m _ 3)) ?_
  generalize (lg_sl ([.ref (xa X 314), .int a1, .int a2]) ++ List.replicate (3 - (lg_sl ([.ref (xa X 314), .int a1, .int a2])).length) Slot.unset).toArray = ls at hl ⊢
  have hl : lv_has ls 3 [(0, .ref (xa X 314)), (1, .int a1), (2, .int a2)] := hl
  have hc_126 := (cwV 1 hts gX9_kind_X9_isKind rfl rfl rfl (by decide +kernel) ⟨by rw [hR1]; exact Nat.le_of_ble_eq_true rfl, by rw [hR2]; exact Nat.le_of_ble_eq_true rfl⟩ : CallW R s args RX9 RX9 126 yX9_isKind cX9_isKind 2 (some .boolean) wsX9_isKind rmX9_isKind 0 0 1)
  have hc_49 := (cwS 3 hts gX9_kind_X9_in rfl rfl rfl (by decide +kernel) ⟨by rw [hR1]; exact Nat.le_of_ble_eq_true rfl, by rw [hR2]; exact Nat.le_of_ble_eq_true rfl⟩ : CallB R s args RX9 49 yX9_in cX9_in 3 (some .boolean) wsX9_in rmX9_in 0 0 3 ∧ (Cond.static yX9_in).before args s = true)
  have hk_f35 := hts (.fieldLink RX9 35 "BakeTurnsModel" "thrown" "I") (by decide +kernel)
  have hk_f7 := hts (.fieldLink RX9 7 "BakeTurnsModel" "s" "[I") (by decide +kernel)
  have hc_46 := (cwS 3 hts gX9_kind_X9_kindOf rfl rfl rfl (by decide +kernel) ⟨by rw [hR1]; exact Nat.le_of_ble_eq_true rfl, by rw [hR2]; exact Nat.le_of_ble_eq_true rfl⟩ : CallB R s args RX9 46 yX9_kindOf cX9_kindOf 3 (some .int) wsX9_kindOf rmX9_kindOf 0 0 3 ∧ (Cond.static yX9_kindOf).before args s = true)
  unfold m9_kind at hf
  refine lv_aload_n hx hb dX9_kind_0 rfl (lv_at hl 0 rfl) ?_
  refine lv_aload_n hx hb dX9_kind_1 rfl (lv_at hl 0 rfl) ?_
  refine lv_iload_n hx hb dX9_kind_2 rfl (lv_at hl 1 rfl) ?_
  obtain ⟨x1, hc2, hf⟩ := ob1_e hf
  refine w_ci ⟨hx, hb, hml, hown, hts⟩ hP hK hS (k9_isKind l hX w hc2) hc_126 (w_recv hP hK (by decide) emb_mm rfl) rfl hl.1 rfl (Nat.le_of_ble_eq_true rfl) dX9_kind_3 ⟨Nat.zero_le _, Nat.zero_le _⟩ (fun H locs hP hS => ?_)
  obtain ⟨x7, ejK8, hf⟩ := lt1_e hf
  have K8 : ∀ (H : Heap) (locs : List Loc) (ls : Array Slot), HW X (pmm w s0 u0 sv0 tx0 ow0 rs0 rn0 nu0 q0) H → va_S (xF b0) s.heap H locs → lv_has ls 3 [(0, .ref (xa X 314)), (1, .int a1), (2, .int a2)] → W p l e R s m args below meth c H locs 0 0 Q (F0 m 27 ls [.int x7, .ref (xa X 314)]) := by
    intro H locs ls hP hS hl
    refine mm_put hx hb hts iX9_kind_X9 hown hX hP hK hS 0 (by decide) hk_f35 rfl rfl (Nat.le_of_ble_eq_true rfl) (mm_es0 _) dX9_kind_27 (fun q12 eq12 H locs hP hS => ?_)
    replace hf := ltn_s eq12 hf
    refine lv_aload_n hx hb dX9_kind_30 rfl (lv_at hl 0 rfl) ?_
    refine w_get hx hb hts iX9_kind_X9 hown hP hK (by decide) emb_mm rfl 0 (by decide) hk_f35 rfl dX9_kind_31 ?_
    refine lv_if_le (tgt := 41) hx hb dX9_kind_34 (by decide) (fun h13 => ?_) (fun h13 => ?_)
    · rw [if_pos h13] at hf
      refine lv_aload_n hx hb dX9_kind_41 rfl (lv_at hl 0 rfl) ?_
      refine w_get hx hb hts iX9_kind_X9 hown hP hK (by decide) emb_mm rfl 1 (by decide) hk_f7 rfl dX9_kind_42 ?_
      refine lv_iload_n hx hb dX9_kind_45 rfl (lv_at hl 1 rfl) ?_
      refine lv_iload_n hx hb dX9_kind_46 rfl (lv_at hl 2 rfl) ?_
      obtain ⟨x14, hc15, hf⟩ := ob1_e hf
      refine w_csi ⟨hx, hb, hml, hown, hts⟩ hP hK hS (by have hM := k9_kindOf l hX AR_s (pmm w s0 u0 sv0 tx0 ow0 rs0 rn0 nu0 q12) hc15; simp only [pmm_s] at hM; exact hM) hc_46 rfl hl.1 rfl (Nat.le_of_ble_eq_true rfl) dX9_kind_47 ⟨Nat.zero_le _, Nat.zero_le _⟩ (fun H locs hP hS => ?_)
      have hf := Option.some.inj hf
      simp only [Prod.mk.injEq] at hf
      obtain ⟨rfl, rfl⟩ := hf
      rw [hQ]
      exact w_iret hx hb hr hlocks hP hK hS dX9_kind_50 rfl rfl
    · rw [if_neg h13] at hf
      refine lv_iconst (v := 0) hx hb dX9_kind_37 (by decide) ?_
      refine lv_goto (tgt := 50) hx hb dX9_kind_38 (by decide) ?_
      have hf := Option.some.inj hf
      simp only [Prod.mk.injEq] at hf
      obtain ⟨rfl, rfl⟩ := hf
      rw [hQ]
      exact w_iret hx hb hr hlocks hP hK hS dX9_kind_50 rfl rfl
  clear hf
  refine lv_if_ne (tgt := 13) hx hb dX9_kind_6 (by decide) (fun h3 => ?_) (fun h3 => ?_)
  · rw [if_neg h3] at ejK8
    refine lv_iload_n hx hb dX9_kind_13 rfl (lv_at hl 2 rfl) ?_
    refine lv_iconst (v := 0) hx hb dX9_kind_14 (by decide) ?_
    refine lv_iconst (v := 4) hx hb dX9_kind_15 (by decide) ?_
    obtain ⟨x9, hc10, ejK8⟩ := lt1_e ejK8
    refine w_csi ⟨hx, hb, hml, hown, hts⟩ hP hK hS (k9_in l hX (pmm w s0 u0 sv0 tx0 ow0 rs0 rn0 nu0 q0) hc10) hc_49 rfl hl.1 rfl (Nat.le_of_ble_eq_true rfl) dX9_kind_16 ⟨Nat.zero_le _, Nat.zero_le _⟩ (fun H locs hP hS => ?_)
    refine lv_if_ne (tgt := 26) hx hb dX9_kind_19 (by decide) (fun h11 => ?_) (fun h11 => ?_)
    · rw [if_neg h11] at ejK8
      refine lv_iconst (v := 0) hx hb dX9_kind_26 (by decide) ?_
      obtain rfl := ejK8
      exact K8 _ _ _ hP hS (lv_sub hl [0, 1, 2] rfl)
    · rw [if_pos h11] at ejK8
      refine lv_iconst (v := 2) hx hb dX9_kind_22 (by decide) ?_
      refine lv_goto (tgt := 27) hx hb dX9_kind_23 (by decide) ?_
      obtain rfl := ejK8
      exact K8 _ _ _ hP hS (lv_sub hl [0, 1, 2] rfl)
  · rw [if_pos h3] at ejK8
    refine lv_iconst (v := 1) hx hb dX9_kind_9 (by decide) ?_
    refine lv_goto (tgt := 27) hx hb dX9_kind_10 (by decide) ?_
    obtain rfl := ejK8
    exact K8 _ _ _ hP hS (lv_sub hl [0, 1, 2] rfl)
abbrev rmX9_doughsOf : Room := { frames := 1, cells := 0, slots := 0, locals := 22 }
theorem iX9_doughsOf_X9 : ∀ w ∈ wsX90, w ∈ wsX9_doughsOf := by decide +kernel
set_option maxHeartbeats 4000000 in
set_option maxRecDepth 100000 in
theorem k9_doughsOf (l : Launch) {X : bkX} {b0 : Nat} (hX : XO X b0) (w : bkW) {N : Nat} {s0 : Nat → Int32} {u0 : Nat → Int32} {sv0 : Nat → Int32} {tx0 : Nat → Int32} {ow0 : Nat → Int32} {rs0 : Nat → Int64} {rn0 : Nat → Int32} {nu0 : Nat → Int32} {q0 : Nat → Int32} {a1 : Int32} {res9 : Int32} (hf : m9_doughsOf N s0 a1 = some res9) : cI l yX9_doughsOf wsX9_doughsOf rmX9_doughsOf X b0 [.ref (xa X 314), .int a1] (pmm w s0 u0 sv0 tx0 ow0 rs0 rn0 nu0 q0) res9 (pmm w s0 u0 sv0 tx0 ow0 rs0 rn0 nu0 q0) := by
  refine Met.ofW (cc := cX9_doughsOf) (maxL := 4) (ret := (some .int)) (by decide) rfl ?_
  intro p e s m args below meth c s₁ B hml hv
  obtain ⟨ha, hP, hK⟩ := hv
  have hx := B.exec
  have hb := B.bytes
  have hr := B.returns
  have hts := atoms_spec (ws := wsX9_doughsOf) B.pre
  have hown : s.vm.findClass RX9 = some m.cls := findClass_of_methodNamed B.named
  have hlocks := B.notSynchronized
  obtain ⟨R, hR⟩ : ∃ R, R = (headSpec wsX9_doughsOf rmX9_doughsOf).room := ⟨_, rfl⟩
  rw [← hR]
  have hR1 : R.frames = 1 := by rw [hR]; rfl
  have hR2 : R.locals = 22 := by rw [hR]; rfl
  obtain ⟨Q, hQ⟩ : ∃ Q : State → Prop, Q = MQ below (va_Qi (fun r' (_ : Unit) => r' = res9) (fun _ t => WU X (pmm w s0 u0 sv0 tx0 ow0 rs0 rn0 nu0 q0) t) (xF b0)) args s 0 0 (xF b0) := ⟨_, rfl⟩
  rw [← hQ]
  have hS : va_S (xF b0) s.heap s.heap [] := va_S.rf
  have hl := lv_entry ([.ref (xa X 314), .int a1]) (n := 4) (Nat.le_of_ble_eq_true rfl)
  refine W.eq ((congrArg (fun z => entryFrame m z 4) ha).trans (lg_entry_eq m _ 4)) ?_
  generalize (lg_sl ([.ref (xa X 314), .int a1]) ++ List.replicate (4 - (lg_sl ([.ref (xa X 314), .int a1])).length) Slot.unset).toArray = ls at hl ⊢
  have hl : lv_has ls 4 [(0, .ref (xa X 314)), (1, .int a1)] := hl
  have hk_f7 := hts (.fieldLink RX9 7 "BakeTurnsModel" "s" "[I") (by decide +kernel)
  have hc_42 := (cwS 3 hts gX9_doughsOf_X9_of rfl rfl rfl (by decide +kernel) ⟨by rw [hR1]; exact Nat.le_of_ble_eq_true rfl, by rw [hR2]; exact Nat.le_of_ble_eq_true rfl⟩ : CallB R s args RX9 42 yX9_of cX9_of 3 (some .int) wsX9_of rmX9_of 0 0 3 ∧ (Cond.static yX9_of).before args s = true)
  unfold m9_doughsOf at hf
  refine lv_iconst (v := 0) hx hb dX9_doughsOf_0 (by decide) ?_
  refine lv_istore_n (lv' := [(2, .int 0), (0, .ref (xa X 314)), (1, .int a1)]) hx hb dX9_doughsOf_1 rfl hl (by decide) rfl (fun ls hl => ?_)
  refine lv_iconst (v := 0) hx hb dX9_doughsOf_2 (by decide) ?_
  refine lv_istore_n (lv' := [(3, .int 0), (2, .int 0), (0, .ref (xa X 314)), (1, .int a1)]) hx hb dX9_doughsOf_3 rfl hl (by decide) rfl (fun ls hl => ?_)
  have L4 : ∀ (n : Nat) (x2 : Int32) (x3 : Int32) (x4 : Int32)  (o5 : Int32) (H : Heap) (locs : List Loc) (ls : Array Slot), m9_doughsOf_L4 N n x2 x3 x4 s0 = some o5 → HW X (pmm w s0 u0 sv0 tx0 ow0 rs0 rn0 nu0 q0) H → va_S (xF b0) s.heap H locs → lv_has ls 4 [(0, .ref (xa X 314)), (1, .int x2), (2, .int x3), (3, .int x4)] → (∀ (H1 : Heap) (locs1 : List Loc) (ls1 : Array Slot), HW X (pmm w s0 u0 sv0 tx0 ow0 rs0 rn0 nu0 q0) H1 → va_S (xF b0) s.heap H1 locs1 → lv_has ls1 4 [(2, .int o5)] → W p l e R s m args below meth c H1 locs1 0 0 Q (F0 m 41 ls1 [])) → W p l e R s m args below meth c H locs 0 0 Q (F0 m 4 ls []) := by
    intro n; induction n with
    | zero => intro x2 x3 x4 o5 H locs ls hf; rw [m9_doughsOf_L4] at hf; cases hf
    | succ n ih =>
      intro x2 x3 x4 o5 H locs ls hf hP hS hl K
      rw [m9_doughsOf_L4] at hf
      refine lv_iload_n hx hb dX9_doughsOf_4 rfl (lv_at hl 3 rfl) ?_
      refine lv_aload_n hx hb dX9_doughsOf_5 rfl (lv_at hl 0 rfl) ?_
      refine w_get hx hb hts iX9_doughsOf_X9 hown hP hK (by decide) emb_mm rfl 1 (by decide) hk_f7 rfl dX9_doughsOf_6 ?_
      refine lv_iconst (v := 4) hx hb dX9_doughsOf_9 (by decide) ?_
      obtain ⟨hin6, hf⟩ := ck_e hf
      refine ar_ald (g := s0) hx hb AR_s rfl hP hK hin6 dX9_doughsOf_10 ?_
      refine lv_icmp_ge (tgt := 41) hx hb dX9_doughsOf_11 (by decide) (fun h7 => ?_) (fun h7 => ?_)
      · rw [if_pos h7] at hf
        have hf := Option.some.inj hf
        obtain rfl := hf
        exact K _ _ _ hP hS (lv_sub hl [2] rfl)
      · rw [if_neg h7] at hf
        refine lv_iload_n hx hb dX9_doughsOf_14 rfl (lv_at hl 2 rfl) ?_
        refine lv_aload_n hx hb dX9_doughsOf_15 rfl (lv_at hl 0 rfl) ?_
        refine w_get hx hb hts iX9_doughsOf_X9 hown hP hK (by decide) emb_mm rfl 1 (by decide) hk_f7 rfl dX9_doughsOf_16 ?_
        refine lv_iload_n hx hb dX9_doughsOf_19 rfl (lv_at hl 3 rfl) ?_
        refine lv_iconst (v := 0) hx hb dX9_doughsOf_20 (by decide) ?_
        obtain ⟨x8, hc9, hf⟩ := ob1_e hf
        refine w_csi ⟨hx, hb, hml, hown, hts⟩ hP hK hS (by have hM := k9_of l hX AR_s (pmm w s0 u0 sv0 tx0 ow0 rs0 rn0 nu0 q0) hc9; simp only [pmm_s] at hM; exact hM) hc_42 rfl hl.1 rfl (Nat.le_of_ble_eq_true rfl) dX9_doughsOf_21 ⟨Nat.zero_le _, Nat.zero_le _⟩ (fun H locs hP hS => ?_)
        refine lv_iload_n hx hb dX9_doughsOf_24 rfl (lv_at hl 1 rfl) ?_
        obtain ⟨x11, ejK12, hf⟩ := lt1_e hf
        have K12 : ∀ (H : Heap) (locs : List Loc) (ls : Array Slot), HW X (pmm w s0 u0 sv0 tx0 ow0 rs0 rn0 nu0 q0) H → va_S (xF b0) s.heap H locs → lv_has ls 4 [(0, .ref (xa X 314)), (1, .int x2), (3, .int x4)] → W p l e R s m args below meth c H locs 0 0 Q (F0 m 33 ls [.int x11, .int x3]) := by
          intro H locs ls hP hS hl
          refine lv_iadd hx hb dX9_doughsOf_33 ?_
          refine lv_topi (fun x13 ex13 => ?_)
          replace hf := ltn_s ex13 hf
          refine lv_istore_n (lv' := [(2, .int x13), (0, .ref (xa X 314)), (1, .int x2), (3, .int x4)]) hx hb dX9_doughsOf_34 rfl hl (by decide) rfl (fun ls hl => ?_)
          obtain ⟨x14, ex14⟩ : ∃ y : Int32, y = x4 + 1 := ⟨_, rfl⟩
          replace hf := ltn_s ex14 hf
          refine lv_iinc (v := x14) (lv' := [(3, .int x14), (2, .int x13), (0, .ref (xa X 314)), (1, .int x2)]) hx hb dX9_doughsOf_35 hl (k := 3) rfl (by rw [ex14]; rfl) (by decide) rfl (fun ls hl => ?_)
          refine lv_goto (tgt := 4) hx hb dX9_doughsOf_38 (by decide) ?_
          exact ih x2 x13 x14 o5 _ _ _ hf hP hS (lv_sub hl [2, 3, 1, 0] rfl) K
        clear hf
        refine lv_icmp_ne (tgt := 32) hx hb dX9_doughsOf_25 (by decide) (fun h10 => ?_) (fun h10 => ?_)
        · rw [if_neg h10] at ejK12
          refine lv_iconst (v := 0) hx hb dX9_doughsOf_32 (by decide) ?_
          obtain rfl := ejK12
          exact K12 _ _ _ hP hS (lv_sub hl [0, 1, 3] rfl)
        · rw [if_pos h10] at ejK12
          refine lv_iconst (v := 1) hx hb dX9_doughsOf_28 (by decide) ?_
          refine lv_goto (tgt := 33) hx hb dX9_doughsOf_29 (by decide) ?_
          obtain rfl := ejK12
          exact K12 _ _ _ hP hS (lv_sub hl [0, 1, 3] rfl)
  obtain ⟨x15, hc16, hf⟩ := ob1_e hf
  refine L4 N a1 0 0  x15 _ _ _ hc16 hP hS (lv_sub hl [2, 3, 1, 0] rfl) (fun H locs ls hP hS hl => ?_)
  refine lv_iload_n hx hb dX9_doughsOf_41 rfl (lv_at hl 0 rfl) ?_
  have hf := Option.some.inj hf
  obtain rfl := hf
  rw [hQ]
  exact w_iret hx hb hr hlocks hP hK hS dX9_doughsOf_42 rfl rfl
abbrev rmX9_houseValue : Room := { frames := 2, cells := 0, slots := 0, locals := 45 }
theorem iX9_houseValue_X9 : ∀ w ∈ wsX90, w ∈ wsX9_houseValue := by decide +kernel
set_option maxHeartbeats 4000000 in
set_option maxRecDepth 100000 in
theorem k9_houseValue (l : Launch) {X : bkX} {b0 : Nat} (hX : XO X b0) (w : bkW) {N : Nat} {s0 : Nat → Int32} {u0 : Nat → Int32} {sv0 : Nat → Int32} {tx0 : Nat → Int32} {ow0 : Nat → Int32} {rs0 : Nat → Int64} {rn0 : Nat → Int32} {nu0 : Nat → Int32} {q0 : Nat → Int32} {a1 : Int32} {a2 : Int32} {res9 : Int32} (hf : m9_houseValue N s0 a1 a2 = some res9) : cI l yX9_houseValue wsX9_houseValue rmX9_houseValue X b0 [.ref (xa X 314), .int a1, .int a2] (pmm w s0 u0 sv0 tx0 ow0 rs0 rn0 nu0 q0) res9 (pmm w s0 u0 sv0 tx0 ow0 rs0 rn0 nu0 q0) := by
  refine Met.ofW (cc := cX9_houseValue) (maxL := 3) (ret := (some .int)) (by decide) rfl ?_
  intro p e s m args below meth c s₁ B hml hv
  obtain ⟨ha, hP, hK⟩ := hv
  have hx := B.exec
  have hb := B.bytes
  have hr := B.returns
  have hts := atoms_spec (ws := wsX9_houseValue) B.pre
  have hown : s.vm.findClass RX9 = some m.cls := findClass_of_methodNamed B.named
  have hlocks := B.notSynchronized
  obtain ⟨R, hR⟩ : ∃ R, R = (headSpec wsX9_houseValue rmX9_houseValue).room := ⟨_, rfl⟩
  rw [← hR]
  have hR1 : R.frames = 2 := by rw [hR]; rfl
  have hR2 : R.locals = 45 := by rw [hR]; rfl
  obtain ⟨Q, hQ⟩ : ∃ Q : State → Prop, Q = MQ below (va_Qi (fun r' (_ : Unit) => r' = res9) (fun _ t => WU X (pmm w s0 u0 sv0 tx0 ow0 rs0 rn0 nu0 q0) t) (xF b0)) args s 0 0 (xF b0) := ⟨_, rfl⟩
  rw [← hQ]
  have hS : va_S (xF b0) s.heap s.heap [] := va_S.rf
  have hl := lv_entry ([.ref (xa X 314), .int a1, .int a2]) (n := 3) (Nat.le_of_ble_eq_true rfl)
  refine W.eq ((congrArg (fun z => entryFrame m z 3) ha).trans (lg_entry_eq m _ 3)) ?_
  generalize (lg_sl ([.ref (xa X 314), .int a1, .int a2]) ++ List.replicate (3 - (lg_sl ([.ref (xa X 314), .int a1, .int a2])).length) Slot.unset).toArray = ls at hl ⊢
  have hl : lv_has ls 3 [(0, .ref (xa X 314)), (1, .int a1), (2, .int a2)] := hl
  have hk_f7 := hts (.fieldLink RX9 7 "BakeTurnsModel" "s" "[I") (by decide +kernel)
  have hc_183 := (cwV 1 hts gX9_houseValue_X9_doughsOf rfl rfl rfl (by decide +kernel) ⟨by rw [hR1]; exact Nat.le_of_ble_eq_true rfl, by rw [hR2]; exact Nat.le_of_ble_eq_true rfl⟩ : CallW R s args RX9 RX9 183 yX9_doughsOf cX9_doughsOf 4 (some .int) wsX9_doughsOf rmX9_doughsOf 0 0 1)
  unfold m9_houseValue at hf
  refine lv_iload_n hx hb dX9_houseValue_0 rfl (lv_at hl 2 rfl) ?_
  refine lv_iconst (v := 4) hx hb dX9_houseValue_1 (by decide) ?_
  refine lv_icmp_ne (tgt := 13) hx hb dX9_houseValue_2 (by decide) (fun h1 => ?_) (fun h1 => ?_)
  · rw [if_neg h1] at hf
    refine lv_aload_n hx hb dX9_houseValue_13 rfl (lv_at hl 0 rfl) ?_
    refine w_get hx hb hts iX9_houseValue_X9 hown hP hK (by decide) emb_mm rfl 1 (by decide) hk_f7 rfl dX9_houseValue_14 ?_
    refine lv_bipush (v := 37) hx hb dX9_houseValue_17 (by decide) ?_
    refine lv_bipush (v := 6) hx hb dX9_houseValue_19 (by decide) ?_
    refine lv_iload_n hx hb dX9_houseValue_21 rfl (lv_at hl 1 rfl) ?_
    refine lv_imul hx hb dX9_houseValue_22 ?_
    refine lv_iadd hx hb dX9_houseValue_23 ?_
    refine lv_iload_n hx hb dX9_houseValue_24 rfl (lv_at hl 2 rfl) ?_
    refine lv_iconst (v := 4) hx hb dX9_houseValue_25 (by decide) ?_
    obtain ⟨x3, x4, ejK5, hf⟩ := lt2_e hf
    have K5 : ∀ (H : Heap) (locs : List Loc) (ls : Array Slot), HW X (pmm w s0 u0 sv0 tx0 ow0 rs0 rn0 nu0 q0) H → va_S (xF b0) s.heap H locs → lv_has ls 3 [] → W p l e R s m args below meth c H locs 0 0 Q (F0 m 36 ls [.int x4, .int x3, .ref (xa X 315)]) := by
      intro H locs ls hP hS hl
      refine lv_iadd hx hb dX9_houseValue_36 ?_
      obtain ⟨hin6, hf⟩ := ck_e hf
      refine ar_ald (g := s0) hx hb AR_s rfl hP hK hin6 dX9_houseValue_37 ?_
      have hf := Option.some.inj hf
      obtain rfl := hf
      rw [hQ]
      exact w_iret hx hb hr hlocks hP hK hS dX9_houseValue_38 rfl rfl
    clear hf
    refine lv_icmp_ge (tgt := 33) hx hb dX9_houseValue_26 (by decide) (fun h2 => ?_) (fun h2 => ?_)
    · rw [if_pos h2] at ejK5
      refine lv_iload_n hx hb dX9_houseValue_33 rfl (lv_at hl 2 rfl) ?_
      refine lv_iconst (v := 1) hx hb dX9_houseValue_34 (by decide) ?_
      refine lv_isub hx hb dX9_houseValue_35 ?_
      simp only [Prod.mk.injEq] at ejK5
      obtain ⟨rfl, rfl⟩ := ejK5
      exact K5 _ _ _ hP hS (lv_sub hl [] rfl)
    · rw [if_neg h2] at ejK5
      refine lv_iload_n hx hb dX9_houseValue_29 rfl (lv_at hl 2 rfl) ?_
      refine lv_goto (tgt := 36) hx hb dX9_houseValue_30 (by decide) ?_
      simp only [Prod.mk.injEq] at ejK5
      obtain ⟨rfl, rfl⟩ := ejK5
      exact K5 _ _ _ hP hS (lv_sub hl [] rfl)
  · rw [if_pos h1] at hf
    refine lv_aload_n hx hb dX9_houseValue_5 rfl (lv_at hl 0 rfl) ?_
    refine lv_iload_n hx hb dX9_houseValue_6 rfl (lv_at hl 1 rfl) ?_
    obtain ⟨x7, hc8, hf⟩ := ob1_e hf
    refine w_ci ⟨hx, hb, hml, hown, hts⟩ hP hK hS (k9_doughsOf l hX w hc8) hc_183 (w_recv hP hK (by decide) emb_mm rfl) rfl hl.1 rfl (Nat.le_of_ble_eq_true rfl) dX9_houseValue_7 ⟨Nat.zero_le _, Nat.zero_le _⟩ (fun H locs hP hS => ?_)
    refine lv_goto (tgt := 38) hx hb dX9_houseValue_10 (by decide) ?_
    have hf := Option.some.inj hf
    obtain rfl := hf
    rw [hQ]
    exact w_iret hx hb hr hlocks hP hK hS dX9_houseValue_38 rfl rfl
abbrev rmX9_house : Room := { frames := 3, cells := 0, slots := 0, locals := 67 }
theorem iX9_house_X9 : ∀ w ∈ wsX90, w ∈ wsX9_house := by decide +kernel
set_option maxHeartbeats 4000000 in
set_option maxRecDepth 100000 in
theorem k9_house (l : Launch) {X : bkX} {b0 : Nat} (hX : XO X b0) (w : bkW) {N : Nat} {s0 : Nat → Int32} {u0 : Nat → Int32} {sv0 : Nat → Int32} {tx0 : Nat → Int32} {ow0 : Nat → Int32} {rs0 : Nat → Int64} {rn0 : Nat → Int32} {nu0 : Nat → Int32} {q0 : Nat → Int32} {a1 : Int32} {a2 : Int32} {res9 : Int32} {q9 : Nat → Int32} (hf : m9_house N s0 q0 a1 a2 = some (res9, q9)) : cI l yX9_house wsX9_house rmX9_house X b0 [.ref (xa X 314), .int a1, .int a2] (pmm w s0 u0 sv0 tx0 ow0 rs0 rn0 nu0 q0) res9 (pmm w s0 u0 sv0 tx0 ow0 rs0 rn0 nu0 q9) := by
  refine Met.ofW (cc := cX9_house) (maxL := 3) (ret := (some .int)) (by decide) rfl ?_
  intro p e s m args below meth c s₁ B hml hv
  obtain ⟨ha, hP, hK⟩ := hv
  have hx := B.exec
  have hb := B.bytes
  have hr := B.returns
  have hts := atoms_spec (ws := wsX9_house) B.pre
  have hown : s.vm.findClass RX9 = some m.cls := findClass_of_methodNamed B.named
  have hlocks := B.notSynchronized
  obtain ⟨R, hR⟩ : ∃ R, R = (headSpec wsX9_house rmX9_house).room := ⟨_, rfl⟩
  rw [← hR]
  have hR1 : R.frames = 3 := by rw [hR]; rfl
  have hR2 : R.locals = 67 := by rw [hR]; rfl
  obtain ⟨Q, hQ⟩ : ∃ Q : State → Prop, Q = MQ below (va_Qi (fun r' (_ : Unit) => r' = res9) (fun _ t => WU X (pmm w s0 u0 sv0 tx0 ow0 rs0 rn0 nu0 q9) t) (xF b0)) args s 0 0 (xF b0) := ⟨_, rfl⟩
  rw [← hQ]
  have hS : va_S (xF b0) s.heap s.heap [] := va_S.rf
  have hl := lv_entry ([.ref (xa X 314), .int a1, .int a2]) (n := 3) (Nat.le_of_ble_eq_true rfl)
  refine W.eq ((congrArg (fun z => entryFrame m z 3) ha).trans (lg_entry_eq m _ 3)) ?_
  generalize (lg_sl ([.ref (xa X 314), .int a1, .int a2]) ++ List.replicate (3 - (lg_sl ([.ref (xa X 314), .int a1, .int a2])).length) Slot.unset).toArray = ls at hl ⊢
  have hl : lv_has ls 3 [(0, .ref (xa X 314)), (1, .int a1), (2, .int a2)] := hl
  have hc_122 := (cwV 1 hts gX9_house_X9_isHouse rfl rfl rfl (by decide +kernel) ⟨by rw [hR1]; exact Nat.le_of_ble_eq_true rfl, by rw [hR2]; exact Nat.le_of_ble_eq_true rfl⟩ : CallW R s args RX9 RX9 122 yX9_isHouse cX9_isHouse 2 (some .boolean) wsX9_isHouse rmX9_isHouse 0 0 1)
  have hc_49 := (cwS 3 hts gX9_house_X9_in rfl rfl rfl (by decide +kernel) ⟨by rw [hR1]; exact Nat.le_of_ble_eq_true rfl, by rw [hR2]; exact Nat.le_of_ble_eq_true rfl⟩ : CallB R s args RX9 49 yX9_in cX9_in 3 (some .boolean) wsX9_in rmX9_in 0 0 3 ∧ (Cond.static yX9_in).before args s = true)
  have hk_f35 := hts (.fieldLink RX9 35 "BakeTurnsModel" "thrown" "I") (by decide +kernel)
  have hc_186 := (cwV 2 hts gX9_house_X9_houseValue rfl rfl rfl (by decide +kernel) ⟨by rw [hR1]; exact Nat.le_of_ble_eq_true rfl, by rw [hR2]; exact Nat.le_of_ble_eq_true rfl⟩ : CallW R s args RX9 RX9 186 yX9_houseValue cX9_houseValue 3 (some .int) wsX9_houseValue rmX9_houseValue 0 0 2)
  unfold m9_house at hf
  refine lv_aload_n hx hb dX9_house_0 rfl (lv_at hl 0 rfl) ?_
  refine lv_aload_n hx hb dX9_house_1 rfl (lv_at hl 0 rfl) ?_
  refine lv_iload_n hx hb dX9_house_2 rfl (lv_at hl 1 rfl) ?_
  obtain ⟨x1, hc2, hf⟩ := ob1_e hf
  refine w_ci ⟨hx, hb, hml, hown, hts⟩ hP hK hS (k9_isHouse l hX w hc2) hc_122 (w_recv hP hK (by decide) emb_mm rfl) rfl hl.1 rfl (Nat.le_of_ble_eq_true rfl) dX9_house_3 ⟨Nat.zero_le _, Nat.zero_le _⟩ (fun H locs hP hS => ?_)
  obtain ⟨x7, ejK8, hf⟩ := lt1_e hf
  have K8 : ∀ (H : Heap) (locs : List Loc) (ls : Array Slot), HW X (pmm w s0 u0 sv0 tx0 ow0 rs0 rn0 nu0 q0) H → va_S (xF b0) s.heap H locs → lv_has ls 3 [(0, .ref (xa X 314)), (1, .int a1), (2, .int a2)] → W p l e R s m args below meth c H locs 0 0 Q (F0 m 28 ls [.int x7, .ref (xa X 314)]) := by
    intro H locs ls hP hS hl
    refine mm_put hx hb hts iX9_house_X9 hown hX hP hK hS 0 (by decide) hk_f35 rfl rfl (Nat.le_of_ble_eq_true rfl) (mm_es0 _) dX9_house_28 (fun q12 eq12 H locs hP hS => ?_)
    replace hf := ltn_s eq12 hf
    refine lv_aload_n hx hb dX9_house_31 rfl (lv_at hl 0 rfl) ?_
    refine w_get hx hb hts iX9_house_X9 hown hP hK (by decide) emb_mm rfl 0 (by decide) hk_f35 rfl dX9_house_32 ?_
    refine lv_if_le (tgt := 42) hx hb dX9_house_35 (by decide) (fun h13 => ?_) (fun h13 => ?_)
    · rw [if_pos h13] at hf
      refine lv_aload_n hx hb dX9_house_42 rfl (lv_at hl 0 rfl) ?_
      refine lv_iload_n hx hb dX9_house_43 rfl (lv_at hl 1 rfl) ?_
      refine lv_iload_n hx hb dX9_house_44 rfl (lv_at hl 2 rfl) ?_
      obtain ⟨x14, hc15, hf⟩ := ob1_e hf
      refine w_ci ⟨hx, hb, hml, hown, hts⟩ hP hK hS (k9_houseValue l hX w hc15) hc_186 (w_recv hP hK (by decide) emb_mm rfl) rfl hl.1 rfl (Nat.le_of_ble_eq_true rfl) dX9_house_45 ⟨Nat.zero_le _, Nat.zero_le _⟩ (fun H locs hP hS => ?_)
      have hf := Option.some.inj hf
      simp only [Prod.mk.injEq] at hf
      obtain ⟨rfl, rfl⟩ := hf
      rw [hQ]
      exact w_iret hx hb hr hlocks hP hK hS dX9_house_48 rfl rfl
    · rw [if_neg h13] at hf
      refine lv_iconst (v := 0) hx hb dX9_house_38 (by decide) ?_
      refine lv_goto (tgt := 48) hx hb dX9_house_39 (by decide) ?_
      have hf := Option.some.inj hf
      simp only [Prod.mk.injEq] at hf
      obtain ⟨rfl, rfl⟩ := hf
      rw [hQ]
      exact w_iret hx hb hr hlocks hP hK hS dX9_house_48 rfl rfl
  clear hf
  refine lv_if_ne (tgt := 13) hx hb dX9_house_6 (by decide) (fun h3 => ?_) (fun h3 => ?_)
  · rw [if_neg h3] at ejK8
    refine lv_iload_n hx hb dX9_house_13 rfl (lv_at hl 2 rfl) ?_
    refine lv_iconst (v := 0) hx hb dX9_house_14 (by decide) ?_
    refine lv_bipush (v := 6) hx hb dX9_house_15 (by decide) ?_
    obtain ⟨x9, hc10, ejK8⟩ := lt1_e ejK8
    refine w_csi ⟨hx, hb, hml, hown, hts⟩ hP hK hS (k9_in l hX (pmm w s0 u0 sv0 tx0 ow0 rs0 rn0 nu0 q0) hc10) hc_49 rfl hl.1 rfl (Nat.le_of_ble_eq_true rfl) dX9_house_17 ⟨Nat.zero_le _, Nat.zero_le _⟩ (fun H locs hP hS => ?_)
    refine lv_if_ne (tgt := 27) hx hb dX9_house_20 (by decide) (fun h11 => ?_) (fun h11 => ?_)
    · rw [if_neg h11] at ejK8
      refine lv_iconst (v := 0) hx hb dX9_house_27 (by decide) ?_
      obtain rfl := ejK8
      exact K8 _ _ _ hP hS (lv_sub hl [0, 1, 2] rfl)
    · rw [if_pos h11] at ejK8
      refine lv_iconst (v := 2) hx hb dX9_house_23 (by decide) ?_
      refine lv_goto (tgt := 28) hx hb dX9_house_24 (by decide) ?_
      obtain rfl := ejK8
      exact K8 _ _ _ hP hS (lv_sub hl [0, 1, 2] rfl)
  · rw [if_pos h3] at ejK8
    refine lv_iconst (v := 1) hx hb dX9_house_9 (by decide) ?_
    refine lv_goto (tgt := 28) hx hb dX9_house_10 (by decide) ?_
    obtain rfl := ejK8
    exact K8 _ _ _ hP hS (lv_sub hl [0, 1, 2] rfl)
abbrev rmX9_placesOf : Room := { frames := 1, cells := 0, slots := 0, locals := 22 }
theorem iX9_placesOf_X9 : ∀ w ∈ wsX90, w ∈ wsX9_placesOf := by decide +kernel
set_option maxHeartbeats 4000000 in
set_option maxRecDepth 100000 in
theorem k9_placesOf (l : Launch) {X : bkX} {b0 : Nat} (hX : XO X b0) (w : bkW) {N : Nat} {s0 : Nat → Int32} {u0 : Nat → Int32} {sv0 : Nat → Int32} {tx0 : Nat → Int32} {ow0 : Nat → Int32} {rs0 : Nat → Int64} {rn0 : Nat → Int32} {nu0 : Nat → Int32} {q0 : Nat → Int32} {a1 : Int32} {res9 : Int32} (hf : m9_placesOf N s0 a1 = some res9) : cI l yX9_placesOf wsX9_placesOf rmX9_placesOf X b0 [.ref (xa X 314), .int a1] (pmm w s0 u0 sv0 tx0 ow0 rs0 rn0 nu0 q0) res9 (pmm w s0 u0 sv0 tx0 ow0 rs0 rn0 nu0 q0) := by
  refine Met.ofW (cc := cX9_placesOf) (maxL := 4) (ret := (some .int)) (by decide) rfl ?_
  intro p e s m args below meth c s₁ B hml hv
  obtain ⟨ha, hP, hK⟩ := hv
  have hx := B.exec
  have hb := B.bytes
  have hr := B.returns
  have hts := atoms_spec (ws := wsX9_placesOf) B.pre
  have hown : s.vm.findClass RX9 = some m.cls := findClass_of_methodNamed B.named
  have hlocks := B.notSynchronized
  obtain ⟨R, hR⟩ : ∃ R, R = (headSpec wsX9_placesOf rmX9_placesOf).room := ⟨_, rfl⟩
  rw [← hR]
  have hR1 : R.frames = 1 := by rw [hR]; rfl
  have hR2 : R.locals = 22 := by rw [hR]; rfl
  obtain ⟨Q, hQ⟩ : ∃ Q : State → Prop, Q = MQ below (va_Qi (fun r' (_ : Unit) => r' = res9) (fun _ t => WU X (pmm w s0 u0 sv0 tx0 ow0 rs0 rn0 nu0 q0) t) (xF b0)) args s 0 0 (xF b0) := ⟨_, rfl⟩
  rw [← hQ]
  have hS : va_S (xF b0) s.heap s.heap [] := va_S.rf
  have hl := lv_entry ([.ref (xa X 314), .int a1]) (n := 4) (Nat.le_of_ble_eq_true rfl)
  refine W.eq ((congrArg (fun z => entryFrame m z 4) ha).trans (lg_entry_eq m _ 4)) ?_
  generalize (lg_sl ([.ref (xa X 314), .int a1]) ++ List.replicate (4 - (lg_sl ([.ref (xa X 314), .int a1])).length) Slot.unset).toArray = ls at hl ⊢
  have hl : lv_has ls 4 [(0, .ref (xa X 314)), (1, .int a1)] := hl
  have hk_f7 := hts (.fieldLink RX9 7 "BakeTurnsModel" "s" "[I") (by decide +kernel)
  have hc_68 := (cwS 3 hts gX9_placesOf_X9_at rfl rfl rfl (by decide +kernel) ⟨by rw [hR1]; exact Nat.le_of_ble_eq_true rfl, by rw [hR2]; exact Nat.le_of_ble_eq_true rfl⟩ : CallB R s args RX9 68 yX9_at cX9_at 3 (some .int) wsX9_at rmX9_at 0 0 3 ∧ (Cond.static yX9_at).before args s = true)
  unfold m9_placesOf at hf
  refine lv_iconst (v := 0) hx hb dX9_placesOf_0 (by decide) ?_
  refine lv_istore_n (lv' := [(2, .int 0), (0, .ref (xa X 314)), (1, .int a1)]) hx hb dX9_placesOf_1 rfl hl (by decide) rfl (fun ls hl => ?_)
  refine lv_iconst (v := 0) hx hb dX9_placesOf_2 (by decide) ?_
  refine lv_istore_n (lv' := [(3, .int 0), (2, .int 0), (0, .ref (xa X 314)), (1, .int a1)]) hx hb dX9_placesOf_3 rfl hl (by decide) rfl (fun ls hl => ?_)
  have L4 : ∀ (n : Nat) (x2 : Int32) (x3 : Int32) (x4 : Int32)  (o5 : Int32) (H : Heap) (locs : List Loc) (ls : Array Slot), m9_placesOf_L4 N n x2 x3 x4 s0 = some o5 → HW X (pmm w s0 u0 sv0 tx0 ow0 rs0 rn0 nu0 q0) H → va_S (xF b0) s.heap H locs → lv_has ls 4 [(0, .ref (xa X 314)), (1, .int x2), (2, .int x3), (3, .int x4)] → (∀ (H1 : Heap) (locs1 : List Loc) (ls1 : Array Slot), HW X (pmm w s0 u0 sv0 tx0 ow0 rs0 rn0 nu0 q0) H1 → va_S (xF b0) s.heap H1 locs1 → lv_has ls1 4 [(2, .int o5)] → W p l e R s m args below meth c H1 locs1 0 0 Q (F0 m 39 ls1 [])) → W p l e R s m args below meth c H locs 0 0 Q (F0 m 4 ls []) := by
    intro n; induction n with
    | zero => intro x2 x3 x4 o5 H locs ls hf; rw [m9_placesOf_L4] at hf; cases hf
    | succ n ih =>
      intro x2 x3 x4 o5 H locs ls hf hP hS hl K
      rw [m9_placesOf_L4] at hf
      refine lv_iload_n hx hb dX9_placesOf_4 rfl (lv_at hl 3 rfl) ?_
      refine lv_bipush (v := 12) hx hb dX9_placesOf_5 (by decide) ?_
      refine lv_icmp_ge (tgt := 39) hx hb dX9_placesOf_7 (by decide) (fun h6 => ?_) (fun h6 => ?_)
      · rw [if_pos h6] at hf
        have hf := Option.some.inj hf
        obtain rfl := hf
        exact K _ _ _ hP hS (lv_sub hl [2] rfl)
      · rw [if_neg h6] at hf
        refine lv_iload_n hx hb dX9_placesOf_10 rfl (lv_at hl 2 rfl) ?_
        refine lv_aload_n hx hb dX9_placesOf_11 rfl (lv_at hl 0 rfl) ?_
        refine w_get hx hb hts iX9_placesOf_X9 hown hP hK (by decide) emb_mm rfl 1 (by decide) hk_f7 rfl dX9_placesOf_12 ?_
        refine lv_iload_n hx hb dX9_placesOf_15 rfl (lv_at hl 3 rfl) ?_
        refine lv_iconst (v := 0) hx hb dX9_placesOf_16 (by decide) ?_
        obtain ⟨x7, hc8, hf⟩ := ob1_e hf
        refine w_csi ⟨hx, hb, hml, hown, hts⟩ hP hK hS (by have hM := k9_at l hX AR_s (pmm w s0 u0 sv0 tx0 ow0 rs0 rn0 nu0 q0) hc8; simp only [pmm_s] at hM; exact hM) hc_68 rfl hl.1 rfl (Nat.le_of_ble_eq_true rfl) dX9_placesOf_17 ⟨Nat.zero_le _, Nat.zero_le _⟩ (fun H locs hP hS => ?_)
        refine lv_iload_n hx hb dX9_placesOf_20 rfl (lv_at hl 1 rfl) ?_
        obtain ⟨x10, ejK11, hf⟩ := lt1_e hf
        have K11 : ∀ (H : Heap) (locs : List Loc) (ls : Array Slot), HW X (pmm w s0 u0 sv0 tx0 ow0 rs0 rn0 nu0 q0) H → va_S (xF b0) s.heap H locs → lv_has ls 4 [(0, .ref (xa X 314)), (1, .int x2), (3, .int x4)] → W p l e R s m args below meth c H locs 0 0 Q (F0 m 31 ls [.int x10, .int x3]) := by
          intro H locs ls hP hS hl
          refine lv_ior hx hb dX9_placesOf_31 ?_
          refine lv_topi (fun x12 ex12 => ?_)
          replace hf := ltn_s ex12 hf
          refine lv_istore_n (lv' := [(2, .int x12), (0, .ref (xa X 314)), (1, .int x2), (3, .int x4)]) hx hb dX9_placesOf_32 rfl hl (by decide) rfl (fun ls hl => ?_)
          obtain ⟨x13, ex13⟩ : ∃ y : Int32, y = x4 + 1 := ⟨_, rfl⟩
          replace hf := ltn_s ex13 hf
          refine lv_iinc (v := x13) (lv' := [(3, .int x13), (2, .int x12), (0, .ref (xa X 314)), (1, .int x2)]) hx hb dX9_placesOf_33 hl (k := 3) rfl (by rw [ex13]; rfl) (by decide) rfl (fun ls hl => ?_)
          refine lv_goto (tgt := 4) hx hb dX9_placesOf_36 (by decide) ?_
          exact ih x2 x12 x13 o5 _ _ _ hf hP hS (lv_sub hl [2, 3, 1, 0] rfl) K
        clear hf
        refine lv_icmp_ne (tgt := 30) hx hb dX9_placesOf_21 (by decide) (fun h9 => ?_) (fun h9 => ?_)
        · rw [if_neg h9] at ejK11
          refine lv_iconst (v := 0) hx hb dX9_placesOf_30 (by decide) ?_
          obtain rfl := ejK11
          exact K11 _ _ _ hP hS (lv_sub hl [0, 1, 3] rfl)
        · rw [if_pos h9] at ejK11
          refine lv_iconst (v := 1) hx hb dX9_placesOf_24 (by decide) ?_
          refine lv_iload_n hx hb dX9_placesOf_25 rfl (lv_at hl 3 rfl) ?_
          refine lv_ishl hx hb dX9_placesOf_26 ?_
          refine lv_goto (tgt := 31) hx hb dX9_placesOf_27 (by decide) ?_
          obtain rfl := ejK11
          exact K11 _ _ _ hP hS (lv_sub hl [0, 1, 3] rfl)
  obtain ⟨x14, hc15, hf⟩ := ob1_e hf
  refine L4 N a1 0 0  x14 _ _ _ hc15 hP hS (lv_sub hl [2, 3, 1, 0] rfl) (fun H locs ls hP hS hl => ?_)
  refine lv_iload_n hx hb dX9_placesOf_39 rfl (lv_at hl 0 rfl) ?_
  have hf := Option.some.inj hf
  obtain rfl := hf
  rw [hQ]
  exact w_iret hx hb hr hlocks hP hK hS dX9_placesOf_40 rfl rfl
abbrev rmX9_doughValue : Room := { frames := 2, cells := 0, slots := 0, locals := 45 }
theorem iX9_doughValue_X9 : ∀ w ∈ wsX90, w ∈ wsX9_doughValue := by decide +kernel
set_option maxHeartbeats 4000000 in
set_option maxRecDepth 100000 in
theorem k9_doughValue (l : Launch) {X : bkX} {b0 : Nat} (hX : XO X b0) (w : bkW) {N : Nat} {s0 : Nat → Int32} {u0 : Nat → Int32} {sv0 : Nat → Int32} {tx0 : Nat → Int32} {ow0 : Nat → Int32} {rs0 : Nat → Int64} {rn0 : Nat → Int32} {nu0 : Nat → Int32} {q0 : Nat → Int32} {a1 : Int32} {a2 : Int32} {res9 : Int32} (hf : m9_doughValue N s0 a1 a2 = some res9) : cI l yX9_doughValue wsX9_doughValue rmX9_doughValue X b0 [.ref (xa X 314), .int a1, .int a2] (pmm w s0 u0 sv0 tx0 ow0 rs0 rn0 nu0 q0) res9 (pmm w s0 u0 sv0 tx0 ow0 rs0 rn0 nu0 q0) := by
  refine Met.ofW (cc := cX9_doughValue) (maxL := 3) (ret := (some .int)) (by decide) rfl ?_
  intro p e s m args below meth c s₁ B hml hv
  obtain ⟨ha, hP, hK⟩ := hv
  have hx := B.exec
  have hb := B.bytes
  have hr := B.returns
  have hts := atoms_spec (ws := wsX9_doughValue) B.pre
  have hown : s.vm.findClass RX9 = some m.cls := findClass_of_methodNamed B.named
  have hlocks := B.notSynchronized
  obtain ⟨R, hR⟩ : ∃ R, R = (headSpec wsX9_doughValue rmX9_doughValue).room := ⟨_, rfl⟩
  rw [← hR]
  have hR1 : R.frames = 2 := by rw [hR]; rfl
  have hR2 : R.locals = 45 := by rw [hR]; rfl
  obtain ⟨Q, hQ⟩ : ∃ Q : State → Prop, Q = MQ below (va_Qi (fun r' (_ : Unit) => r' = res9) (fun _ t => WU X (pmm w s0 u0 sv0 tx0 ow0 rs0 rn0 nu0 q0) t) (xF b0)) args s 0 0 (xF b0) := ⟨_, rfl⟩
  rw [← hQ]
  have hS : va_S (xF b0) s.heap s.heap [] := va_S.rf
  have hl := lv_entry ([.ref (xa X 314), .int a1, .int a2]) (n := 3) (Nat.le_of_ble_eq_true rfl)
  refine W.eq ((congrArg (fun z => entryFrame m z 3) ha).trans (lg_entry_eq m _ 3)) ?_
  generalize (lg_sl ([.ref (xa X 314), .int a1, .int a2]) ++ List.replicate (3 - (lg_sl ([.ref (xa X 314), .int a1, .int a2])).length) Slot.unset).toArray = ls at hl ⊢
  have hl : lv_has ls 3 [(0, .ref (xa X 314)), (1, .int a1), (2, .int a2)] := hl
  have hk_f7 := hts (.fieldLink RX9 7 "BakeTurnsModel" "s" "[I") (by decide +kernel)
  have hc_42 := (cwS 3 hts gX9_doughValue_X9_of rfl rfl rfl (by decide +kernel) ⟨by rw [hR1]; exact Nat.le_of_ble_eq_true rfl, by rw [hR2]; exact Nat.le_of_ble_eq_true rfl⟩ : CallB R s args RX9 42 yX9_of cX9_of 3 (some .int) wsX9_of rmX9_of 0 0 3 ∧ (Cond.static yX9_of).before args s = true)
  have hc_189 := (cwV 1 hts gX9_doughValue_X9_placesOf rfl rfl rfl (by decide +kernel) ⟨by rw [hR1]; exact Nat.le_of_ble_eq_true rfl, by rw [hR2]; exact Nat.le_of_ble_eq_true rfl⟩ : CallW R s args RX9 RX9 189 yX9_placesOf cX9_placesOf 4 (some .int) wsX9_placesOf rmX9_placesOf 0 0 1)
  have hc_53 := (cwS 2 hts gX9_doughValue_X9_placeInLine rfl rfl rfl (by decide +kernel) ⟨by rw [hR1]; exact Nat.le_of_ble_eq_true rfl, by rw [hR2]; exact Nat.le_of_ble_eq_true rfl⟩ : CallB R s args RX9 53 yX9_placeInLine cX9_placeInLine 4 (some .int) wsX9_placeInLine rmX9_placeInLine 0 0 2 ∧ (Cond.static yX9_placeInLine).before args s = true)
  unfold m9_doughValue at hf
  refine lv_iload_n hx hb dX9_doughValue_0 rfl (lv_at hl 2 rfl) ?_
  refine lv_bipush (v := 7) hx hb dX9_doughValue_1 (by decide) ?_
  refine lv_icmp_ge (tgt := 18) hx hb dX9_doughValue_3 (by decide) (fun h1 => ?_) (fun h1 => ?_)
  · rw [if_pos h1] at hf
    refine lv_iload_n hx hb dX9_doughValue_18 rfl (lv_at hl 2 rfl) ?_
    refine lv_bipush (v := 7) hx hb dX9_doughValue_19 (by decide) ?_
    refine lv_icmp_ne (tgt := 35) hx hb dX9_doughValue_21 (by decide) (fun h2 => ?_) (fun h2 => ?_)
    · rw [if_neg h2] at hf
      refine lv_iload_n hx hb dX9_doughValue_35 rfl (lv_at hl 2 rfl) ?_
      refine lv_bipush (v := 8) hx hb dX9_doughValue_36 (by decide) ?_
      refine lv_icmp_ne (tgt := 49) hx hb dX9_doughValue_38 (by decide) (fun h3 => ?_) (fun h3 => ?_)
      · rw [if_neg h3] at hf
        refine lv_aload_n hx hb dX9_doughValue_49 rfl (lv_at hl 0 rfl) ?_
        refine w_get hx hb hts iX9_doughValue_X9 hown hP hK (by decide) emb_mm rfl 1 (by decide) hk_f7 rfl dX9_doughValue_50 ?_
        refine lv_iload_n hx hb dX9_doughValue_53 rfl (lv_at hl 1 rfl) ?_
        refine lv_bipush (v := 7) hx hb dX9_doughValue_54 (by decide) ?_
        obtain ⟨x4, hc5, hf⟩ := ob1_e hf
        refine w_csi ⟨hx, hb, hml, hown, hts⟩ hP hK hS (by have hM := k9_of l hX AR_s (pmm w s0 u0 sv0 tx0 ow0 rs0 rn0 nu0 q0) hc5; simp only [pmm_s] at hM; exact hM) hc_42 rfl hl.1 rfl (Nat.le_of_ble_eq_true rfl) dX9_doughValue_56 ⟨Nat.zero_le _, Nat.zero_le _⟩ (fun H locs hP hS => ?_)
        have hf := Option.some.inj hf
        obtain rfl := hf
        rw [hQ]
        exact w_iret hx hb hr hlocks hP hK hS dX9_doughValue_59 rfl rfl
      · rw [if_pos h3] at hf
        refine lv_aload_n hx hb dX9_doughValue_41 rfl (lv_at hl 0 rfl) ?_
        refine lv_iload_n hx hb dX9_doughValue_42 rfl (lv_at hl 1 rfl) ?_
        obtain ⟨x6, hc7, hf⟩ := ob1_e hf
        refine w_ci ⟨hx, hb, hml, hown, hts⟩ hP hK hS (k9_placesOf l hX w hc7) hc_189 (w_recv hP hK (by decide) emb_mm rfl) rfl hl.1 rfl (Nat.le_of_ble_eq_true rfl) dX9_doughValue_43 ⟨Nat.zero_le _, Nat.zero_le _⟩ (fun H locs hP hS => ?_)
        refine lv_goto (tgt := 59) hx hb dX9_doughValue_46 (by decide) ?_
        have hf := Option.some.inj hf
        obtain rfl := hf
        rw [hQ]
        exact w_iret hx hb hr hlocks hP hK hS dX9_doughValue_59 rfl rfl
    · rw [if_pos h2] at hf
      refine lv_aload_n hx hb dX9_doughValue_24 rfl (lv_at hl 0 rfl) ?_
      refine w_get hx hb hts iX9_doughValue_X9 hown hP hK (by decide) emb_mm rfl 1 (by decide) hk_f7 rfl dX9_doughValue_25 ?_
      refine lv_iload_n hx hb dX9_doughValue_28 rfl (lv_at hl 1 rfl) ?_
      obtain ⟨x8, hc9, hf⟩ := ob1_e hf
      refine w_csi ⟨hx, hb, hml, hown, hts⟩ hP hK hS (by have hM := k9_placeInLine l hX AR_s (pmm w s0 u0 sv0 tx0 ow0 rs0 rn0 nu0 q0) hc9; simp only [pmm_s] at hM; exact hM) hc_53 rfl hl.1 rfl (Nat.le_of_ble_eq_true rfl) dX9_doughValue_29 ⟨Nat.zero_le _, Nat.zero_le _⟩ (fun H locs hP hS => ?_)
      refine lv_goto (tgt := 59) hx hb dX9_doughValue_32 (by decide) ?_
      have hf := Option.some.inj hf
      obtain rfl := hf
      rw [hQ]
      exact w_iret hx hb hr hlocks hP hK hS dX9_doughValue_59 rfl rfl
  · rw [if_neg h1] at hf
    refine lv_aload_n hx hb dX9_doughValue_6 rfl (lv_at hl 0 rfl) ?_
    refine w_get hx hb hts iX9_doughValue_X9 hown hP hK (by decide) emb_mm rfl 1 (by decide) hk_f7 rfl dX9_doughValue_7 ?_
    refine lv_iload_n hx hb dX9_doughValue_10 rfl (lv_at hl 1 rfl) ?_
    refine lv_iload_n hx hb dX9_doughValue_11 rfl (lv_at hl 2 rfl) ?_
    obtain ⟨x10, hc11, hf⟩ := ob1_e hf
    refine w_csi ⟨hx, hb, hml, hown, hts⟩ hP hK hS (by have hM := k9_of l hX AR_s (pmm w s0 u0 sv0 tx0 ow0 rs0 rn0 nu0 q0) hc11; simp only [pmm_s] at hM; exact hM) hc_42 rfl hl.1 rfl (Nat.le_of_ble_eq_true rfl) dX9_doughValue_12 ⟨Nat.zero_le _, Nat.zero_le _⟩ (fun H locs hP hS => ?_)
    refine lv_goto (tgt := 59) hx hb dX9_doughValue_15 (by decide) ?_
    have hf := Option.some.inj hf
    obtain rfl := hf
    rw [hQ]
    exact w_iret hx hb hr hlocks hP hK hS dX9_doughValue_59 rfl rfl
abbrev rmX9_dough : Room := { frames := 3, cells := 0, slots := 0, locals := 67 }
theorem iX9_dough_X9 : ∀ w ∈ wsX90, w ∈ wsX9_dough := by decide +kernel
set_option maxHeartbeats 4000000 in
set_option maxRecDepth 100000 in
theorem k9_dough (l : Launch) {X : bkX} {b0 : Nat} (hX : XO X b0) (w : bkW) {N : Nat} {s0 : Nat → Int32} {u0 : Nat → Int32} {sv0 : Nat → Int32} {tx0 : Nat → Int32} {ow0 : Nat → Int32} {rs0 : Nat → Int64} {rn0 : Nat → Int32} {nu0 : Nat → Int32} {q0 : Nat → Int32} {a1 : Int32} {a2 : Int32} {res9 : Int32} {q9 : Nat → Int32} (hf : m9_dough N s0 q0 a1 a2 = some (res9, q9)) : cI l yX9_dough wsX9_dough rmX9_dough X b0 [.ref (xa X 314), .int a1, .int a2] (pmm w s0 u0 sv0 tx0 ow0 rs0 rn0 nu0 q0) res9 (pmm w s0 u0 sv0 tx0 ow0 rs0 rn0 nu0 q9) := by
  refine Met.ofW (cc := cX9_dough) (maxL := 3) (ret := (some .int)) (by decide) rfl ?_
  intro p e s m args below meth c s₁ B hml hv
  obtain ⟨ha, hP, hK⟩ := hv
  have hx := B.exec
  have hb := B.bytes
  have hr := B.returns
  have hts := atoms_spec (ws := wsX9_dough) B.pre
  have hown : s.vm.findClass RX9 = some m.cls := findClass_of_methodNamed B.named
  have hlocks := B.notSynchronized
  obtain ⟨R, hR⟩ : ∃ R, R = (headSpec wsX9_dough rmX9_dough).room := ⟨_, rfl⟩
  rw [← hR]
  have hR1 : R.frames = 3 := by rw [hR]; rfl
  have hR2 : R.locals = 67 := by rw [hR]; rfl
  obtain ⟨Q, hQ⟩ : ∃ Q : State → Prop, Q = MQ below (va_Qi (fun r' (_ : Unit) => r' = res9) (fun _ t => WU X (pmm w s0 u0 sv0 tx0 ow0 rs0 rn0 nu0 q9) t) (xF b0)) args s 0 0 (xF b0) := ⟨_, rfl⟩
  rw [← hQ]
  have hS : va_S (xF b0) s.heap s.heap [] := va_S.rf
  have hl := lv_entry ([.ref (xa X 314), .int a1, .int a2]) (n := 3) (Nat.le_of_ble_eq_true rfl)
  refine W.eq ((congrArg (fun z => entryFrame m z 3) ha).trans (lg_entry_eq m _ 3)) ?_
  generalize (lg_sl ([.ref (xa X 314), .int a1, .int a2]) ++ List.replicate (3 - (lg_sl ([.ref (xa X 314), .int a1, .int a2])).length) Slot.unset).toArray = ls at hl ⊢
  have hl : lv_has ls 3 [(0, .ref (xa X 314)), (1, .int a1), (2, .int a2)] := hl
  have hc_136 := (cwV 1 hts gX9_dough_X9_isDough rfl rfl rfl (by decide +kernel) ⟨by rw [hR1]; exact Nat.le_of_ble_eq_true rfl, by rw [hR2]; exact Nat.le_of_ble_eq_true rfl⟩ : CallW R s args RX9 RX9 136 yX9_isDough cX9_isDough 2 (some .boolean) wsX9_isDough rmX9_isDough 0 0 1)
  have hc_49 := (cwS 3 hts gX9_dough_X9_in rfl rfl rfl (by decide +kernel) ⟨by rw [hR1]; exact Nat.le_of_ble_eq_true rfl, by rw [hR2]; exact Nat.le_of_ble_eq_true rfl⟩ : CallB R s args RX9 49 yX9_in cX9_in 3 (some .boolean) wsX9_in rmX9_in 0 0 3 ∧ (Cond.static yX9_in).before args s = true)
  have hk_f35 := hts (.fieldLink RX9 35 "BakeTurnsModel" "thrown" "I") (by decide +kernel)
  have hc_192 := (cwV 2 hts gX9_dough_X9_doughValue rfl rfl rfl (by decide +kernel) ⟨by rw [hR1]; exact Nat.le_of_ble_eq_true rfl, by rw [hR2]; exact Nat.le_of_ble_eq_true rfl⟩ : CallW R s args RX9 RX9 192 yX9_doughValue cX9_doughValue 3 (some .int) wsX9_doughValue rmX9_doughValue 0 0 2)
  unfold m9_dough at hf
  refine lv_aload_n hx hb dX9_dough_0 rfl (lv_at hl 0 rfl) ?_
  refine lv_aload_n hx hb dX9_dough_1 rfl (lv_at hl 0 rfl) ?_
  refine lv_iload_n hx hb dX9_dough_2 rfl (lv_at hl 1 rfl) ?_
  obtain ⟨x1, hc2, hf⟩ := ob1_e hf
  refine w_ci ⟨hx, hb, hml, hown, hts⟩ hP hK hS (k9_isDough l hX w hc2) hc_136 (w_recv hP hK (by decide) emb_mm rfl) rfl hl.1 rfl (Nat.le_of_ble_eq_true rfl) dX9_dough_3 ⟨Nat.zero_le _, Nat.zero_le _⟩ (fun H locs hP hS => ?_)
  obtain ⟨x7, ejK8, hf⟩ := lt1_e hf
  have K8 : ∀ (H : Heap) (locs : List Loc) (ls : Array Slot), HW X (pmm w s0 u0 sv0 tx0 ow0 rs0 rn0 nu0 q0) H → va_S (xF b0) s.heap H locs → lv_has ls 3 [(0, .ref (xa X 314)), (1, .int a1), (2, .int a2)] → W p l e R s m args below meth c H locs 0 0 Q (F0 m 28 ls [.int x7, .ref (xa X 314)]) := by
    intro H locs ls hP hS hl
    refine mm_put hx hb hts iX9_dough_X9 hown hX hP hK hS 0 (by decide) hk_f35 rfl rfl (Nat.le_of_ble_eq_true rfl) (mm_es0 _) dX9_dough_28 (fun q12 eq12 H locs hP hS => ?_)
    replace hf := ltn_s eq12 hf
    refine lv_aload_n hx hb dX9_dough_31 rfl (lv_at hl 0 rfl) ?_
    refine w_get hx hb hts iX9_dough_X9 hown hP hK (by decide) emb_mm rfl 0 (by decide) hk_f35 rfl dX9_dough_32 ?_
    refine lv_if_le (tgt := 42) hx hb dX9_dough_35 (by decide) (fun h13 => ?_) (fun h13 => ?_)
    · rw [if_pos h13] at hf
      refine lv_aload_n hx hb dX9_dough_42 rfl (lv_at hl 0 rfl) ?_
      refine lv_iload_n hx hb dX9_dough_43 rfl (lv_at hl 1 rfl) ?_
      refine lv_iload_n hx hb dX9_dough_44 rfl (lv_at hl 2 rfl) ?_
      obtain ⟨x14, hc15, hf⟩ := ob1_e hf
      refine w_ci ⟨hx, hb, hml, hown, hts⟩ hP hK hS (k9_doughValue l hX w hc15) hc_192 (w_recv hP hK (by decide) emb_mm rfl) rfl hl.1 rfl (Nat.le_of_ble_eq_true rfl) dX9_dough_45 ⟨Nat.zero_le _, Nat.zero_le _⟩ (fun H locs hP hS => ?_)
      have hf := Option.some.inj hf
      simp only [Prod.mk.injEq] at hf
      obtain ⟨rfl, rfl⟩ := hf
      rw [hQ]
      exact w_iret hx hb hr hlocks hP hK hS dX9_dough_48 rfl rfl
    · rw [if_neg h13] at hf
      refine lv_iconst (v := 0) hx hb dX9_dough_38 (by decide) ?_
      refine lv_goto (tgt := 48) hx hb dX9_dough_39 (by decide) ?_
      have hf := Option.some.inj hf
      simp only [Prod.mk.injEq] at hf
      obtain ⟨rfl, rfl⟩ := hf
      rw [hQ]
      exact w_iret hx hb hr hlocks hP hK hS dX9_dough_48 rfl rfl
  clear hf
  refine lv_if_ne (tgt := 13) hx hb dX9_dough_6 (by decide) (fun h3 => ?_) (fun h3 => ?_)
  · rw [if_neg h3] at ejK8
    refine lv_iload_n hx hb dX9_dough_13 rfl (lv_at hl 2 rfl) ?_
    refine lv_iconst (v := 0) hx hb dX9_dough_14 (by decide) ?_
    refine lv_bipush (v := 9) hx hb dX9_dough_15 (by decide) ?_
    obtain ⟨x9, hc10, ejK8⟩ := lt1_e ejK8
    refine w_csi ⟨hx, hb, hml, hown, hts⟩ hP hK hS (k9_in l hX (pmm w s0 u0 sv0 tx0 ow0 rs0 rn0 nu0 q0) hc10) hc_49 rfl hl.1 rfl (Nat.le_of_ble_eq_true rfl) dX9_dough_17 ⟨Nat.zero_le _, Nat.zero_le _⟩ (fun H locs hP hS => ?_)
    refine lv_if_ne (tgt := 27) hx hb dX9_dough_20 (by decide) (fun h11 => ?_) (fun h11 => ?_)
    · rw [if_neg h11] at ejK8
      refine lv_iconst (v := 0) hx hb dX9_dough_27 (by decide) ?_
      obtain rfl := ejK8
      exact K8 _ _ _ hP hS (lv_sub hl [0, 1, 2] rfl)
    · rw [if_pos h11] at ejK8
      refine lv_iconst (v := 2) hx hb dX9_dough_23 (by decide) ?_
      refine lv_goto (tgt := 28) hx hb dX9_dough_24 (by decide) ?_
      obtain rfl := ejK8
      exact K8 _ _ _ hP hS (lv_sub hl [0, 1, 2] rfl)
  · rw [if_pos h3] at ejK8
    refine lv_iconst (v := 1) hx hb dX9_dough_9 (by decide) ?_
    refine lv_goto (tgt := 28) hx hb dX9_dough_10 (by decide) ?_
    obtain rfl := ejK8
    exact K8 _ _ _ hP hS (lv_sub hl [0, 1, 2] rfl)
abbrev rmX9_placeValue : Room := { frames := 1, cells := 0, slots := 0, locals := 22 }
theorem iX9_placeValue_X9 : ∀ w ∈ wsX90, w ∈ wsX9_placeValue := by decide +kernel
set_option maxHeartbeats 4000000 in
set_option maxRecDepth 100000 in
theorem k9_placeValue (l : Launch) {X : bkX} {b0 : Nat} (hX : XO X b0) (w : bkW) {s0 : Nat → Int32} {u0 : Nat → Int32} {sv0 : Nat → Int32} {tx0 : Nat → Int32} {ow0 : Nat → Int32} {rs0 : Nat → Int64} {rn0 : Nat → Int32} {nu0 : Nat → Int32} {q0 : Nat → Int32} {a1 : Int32} {a2 : Int32} {res9 : Int32} (hf : m9_placeValue s0 a1 a2 = some res9) : cI l yX9_placeValue wsX9_placeValue rmX9_placeValue X b0 [.ref (xa X 314), .int a1, .int a2] (pmm w s0 u0 sv0 tx0 ow0 rs0 rn0 nu0 q0) res9 (pmm w s0 u0 sv0 tx0 ow0 rs0 rn0 nu0 q0) := by
  refine Met.ofW (cc := cX9_placeValue) (maxL := 3) (ret := (some .int)) (by decide) rfl ?_
  intro p e s m args below meth c s₁ B hml hv
  obtain ⟨ha, hP, hK⟩ := hv
  have hx := B.exec
  have hb := B.bytes
  have hr := B.returns
  have hts := atoms_spec (ws := wsX9_placeValue) B.pre
  have hown : s.vm.findClass RX9 = some m.cls := findClass_of_methodNamed B.named
  have hlocks := B.notSynchronized
  obtain ⟨R, hR⟩ : ∃ R, R = (headSpec wsX9_placeValue rmX9_placeValue).room := ⟨_, rfl⟩
  rw [← hR]
  have hR1 : R.frames = 1 := by rw [hR]; rfl
  have hR2 : R.locals = 22 := by rw [hR]; rfl
  obtain ⟨Q, hQ⟩ : ∃ Q : State → Prop, Q = MQ below (va_Qi (fun r' (_ : Unit) => r' = res9) (fun _ t => WU X (pmm w s0 u0 sv0 tx0 ow0 rs0 rn0 nu0 q0) t) (xF b0)) args s 0 0 (xF b0) := ⟨_, rfl⟩
  rw [← hQ]
  have hS : va_S (xF b0) s.heap s.heap [] := va_S.rf
  have hl := lv_entry ([.ref (xa X 314), .int a1, .int a2]) (n := 3) (Nat.le_of_ble_eq_true rfl)
  refine W.eq ((congrArg (fun z => entryFrame m z 3) ha).trans (lg_entry_eq m _ 3)) ?_
  generalize (lg_sl ([.ref (xa X 314), .int a1, .int a2]) ++ List.replicate (3 - (lg_sl ([.ref (xa X 314), .int a1, .int a2])).length) Slot.unset).toArray = ls at hl ⊢
  have hl : lv_has ls 3 [(0, .ref (xa X 314)), (1, .int a1), (2, .int a2)] := hl
  have hk_f7 := hts (.fieldLink RX9 7 "BakeTurnsModel" "s" "[I") (by decide +kernel)
  have hc_68 := (cwS 3 hts gX9_placeValue_X9_at rfl rfl rfl (by decide +kernel) ⟨by rw [hR1]; exact Nat.le_of_ble_eq_true rfl, by rw [hR2]; exact Nat.le_of_ble_eq_true rfl⟩ : CallB R s args RX9 68 yX9_at cX9_at 3 (some .int) wsX9_at rmX9_at 0 0 3 ∧ (Cond.static yX9_at).before args s = true)
  have hc_71 := (cwS 2 hts gX9_placeValue_X9_heatAt rfl rfl rfl (by decide +kernel) ⟨by rw [hR1]; exact Nat.le_of_ble_eq_true rfl, by rw [hR2]; exact Nat.le_of_ble_eq_true rfl⟩ : CallB R s args RX9 71 yX9_heatAt cX9_heatAt 3 (some .int) wsX9_heatAt rmX9_heatAt 0 0 2 ∧ (Cond.static yX9_heatAt).before args s = true)
  unfold m9_placeValue at hf
  refine lv_iload_n hx hb dX9_placeValue_0 rfl (lv_at hl 2 rfl) ?_
  refine lv_if_ne (tgt := 13) hx hb dX9_placeValue_1 (by decide) (fun h1 => ?_) (fun h1 => ?_)
  · rw [if_neg h1] at hf
    refine lv_aload_n hx hb dX9_placeValue_13 rfl (lv_at hl 0 rfl) ?_
    refine w_get hx hb hts iX9_placeValue_X9 hown hP hK (by decide) emb_mm rfl 1 (by decide) hk_f7 rfl dX9_placeValue_14 ?_
    refine lv_iload_n hx hb dX9_placeValue_17 rfl (lv_at hl 1 rfl) ?_
    refine lv_iconst (v := 0) hx hb dX9_placeValue_18 (by decide) ?_
    obtain ⟨x2, hc3, hf⟩ := ob1_e hf
    refine w_csi ⟨hx, hb, hml, hown, hts⟩ hP hK hS (by have hM := k9_at l hX AR_s (pmm w s0 u0 sv0 tx0 ow0 rs0 rn0 nu0 q0) hc3; simp only [pmm_s] at hM; exact hM) hc_68 rfl hl.1 rfl (Nat.le_of_ble_eq_true rfl) dX9_placeValue_19 ⟨Nat.zero_le _, Nat.zero_le _⟩ (fun H locs hP hS => ?_)
    refine lv_iconst (v := (-1)) hx hb dX9_placeValue_22 (by decide) ?_
    refine lv_icmp_ne (tgt := 30) hx hb dX9_placeValue_23 (by decide) (fun h4 => ?_) (fun h4 => ?_)
    · rw [if_neg h4] at hf
      refine lv_aload_n hx hb dX9_placeValue_30 rfl (lv_at hl 0 rfl) ?_
      refine w_get hx hb hts iX9_placeValue_X9 hown hP hK (by decide) emb_mm rfl 1 (by decide) hk_f7 rfl dX9_placeValue_31 ?_
      refine lv_iload_n hx hb dX9_placeValue_34 rfl (lv_at hl 1 rfl) ?_
      refine lv_iload_n hx hb dX9_placeValue_35 rfl (lv_at hl 2 rfl) ?_
      refine lv_iconst (v := 1) hx hb dX9_placeValue_36 (by decide) ?_
      refine lv_isub hx hb dX9_placeValue_37 ?_
      obtain ⟨x5, hc6, hf⟩ := ob1_e hf
      refine w_csi ⟨hx, hb, hml, hown, hts⟩ hP hK hS (by have hM := k9_at l hX AR_s (pmm w s0 u0 sv0 tx0 ow0 rs0 rn0 nu0 q0) hc6; simp only [pmm_s] at hM; exact hM) hc_68 rfl hl.1 rfl (Nat.le_of_ble_eq_true rfl) dX9_placeValue_38 ⟨Nat.zero_le _, Nat.zero_le _⟩ (fun H locs hP hS => ?_)
      have hf := Option.some.inj hf
      obtain rfl := hf
      rw [hQ]
      exact w_iret hx hb hr hlocks hP hK hS dX9_placeValue_41 rfl rfl
    · rw [if_pos h4] at hf
      refine lv_iconst (v := (-1)) hx hb dX9_placeValue_26 (by decide) ?_
      refine lv_goto (tgt := 41) hx hb dX9_placeValue_27 (by decide) ?_
      have hf := Option.some.inj hf
      obtain rfl := hf
      rw [hQ]
      exact w_iret hx hb hr hlocks hP hK hS dX9_placeValue_41 rfl rfl
  · rw [if_pos h1] at hf
    refine lv_aload_n hx hb dX9_placeValue_4 rfl (lv_at hl 0 rfl) ?_
    refine w_get hx hb hts iX9_placeValue_X9 hown hP hK (by decide) emb_mm rfl 1 (by decide) hk_f7 rfl dX9_placeValue_5 ?_
    refine lv_iload_n hx hb dX9_placeValue_8 rfl (lv_at hl 1 rfl) ?_
    obtain ⟨x7, hc8, hf⟩ := ob1_e hf
    refine w_csi ⟨hx, hb, hml, hown, hts⟩ hP hK hS (by have hM := k9_heatAt l hX AR_s (pmm w s0 u0 sv0 tx0 ow0 rs0 rn0 nu0 q0) hc8; simp only [pmm_s] at hM; exact hM) hc_71 rfl hl.1 rfl (Nat.le_of_ble_eq_true rfl) dX9_placeValue_9 ⟨Nat.zero_le _, Nat.zero_le _⟩ (fun H locs hP hS => ?_)
    have hf := Option.some.inj hf
    obtain rfl := hf
    rw [hQ]
    exact w_iret hx hb hr hlocks hP hK hS dX9_placeValue_12 rfl rfl
abbrev rmX9_place : Room := { frames := 2, cells := 0, slots := 0, locals := 44 }
theorem iX9_place_X9 : ∀ w ∈ wsX90, w ∈ wsX9_place := by decide +kernel
set_option maxHeartbeats 4000000 in
set_option maxRecDepth 100000 in
theorem k9_place (l : Launch) {X : bkX} {b0 : Nat} (hX : XO X b0) (w : bkW) {s0 : Nat → Int32} {u0 : Nat → Int32} {sv0 : Nat → Int32} {tx0 : Nat → Int32} {ow0 : Nat → Int32} {rs0 : Nat → Int64} {rn0 : Nat → Int32} {nu0 : Nat → Int32} {q0 : Nat → Int32} {a1 : Int32} {a2 : Int32} {res9 : Int32} {q9 : Nat → Int32} (hf : m9_place s0 q0 a1 a2 = some (res9, q9)) : cI l yX9_place wsX9_place rmX9_place X b0 [.ref (xa X 314), .int a1, .int a2] (pmm w s0 u0 sv0 tx0 ow0 rs0 rn0 nu0 q0) res9 (pmm w s0 u0 sv0 tx0 ow0 rs0 rn0 nu0 q9) := by
  refine Met.ofW (cc := cX9_place) (maxL := 3) (ret := (some .int)) (by decide) rfl ?_
  intro p e s m args below meth c s₁ B hml hv
  obtain ⟨ha, hP, hK⟩ := hv
  have hx := B.exec
  have hb := B.bytes
  have hr := B.returns
  have hts := atoms_spec (ws := wsX9_place) B.pre
  have hown : s.vm.findClass RX9 = some m.cls := findClass_of_methodNamed B.named
  have hlocks := B.notSynchronized
  obtain ⟨R, hR⟩ : ∃ R, R = (headSpec wsX9_place rmX9_place).room := ⟨_, rfl⟩
  rw [← hR]
  have hR1 : R.frames = 2 := by rw [hR]; rfl
  have hR2 : R.locals = 44 := by rw [hR]; rfl
  obtain ⟨Q, hQ⟩ : ∃ Q : State → Prop, Q = MQ below (va_Qi (fun r' (_ : Unit) => r' = res9) (fun _ t => WU X (pmm w s0 u0 sv0 tx0 ow0 rs0 rn0 nu0 q9) t) (xF b0)) args s 0 0 (xF b0) := ⟨_, rfl⟩
  rw [← hQ]
  have hS : va_S (xF b0) s.heap s.heap [] := va_S.rf
  have hl := lv_entry ([.ref (xa X 314), .int a1, .int a2]) (n := 3) (Nat.le_of_ble_eq_true rfl)
  refine W.eq ((congrArg (fun z => entryFrame m z 3) ha).trans (lg_entry_eq m _ 3)) ?_
  generalize (lg_sl ([.ref (xa X 314), .int a1, .int a2]) ++ List.replicate (3 - (lg_sl ([.ref (xa X 314), .int a1, .int a2])).length) Slot.unset).toArray = ls at hl ⊢
  have hl : lv_has ls 3 [(0, .ref (xa X 314)), (1, .int a1), (2, .int a2)] := hl
  have hc_49 := (cwS 3 hts gX9_place_X9_in rfl rfl rfl (by decide +kernel) ⟨by rw [hR1]; exact Nat.le_of_ble_eq_true rfl, by rw [hR2]; exact Nat.le_of_ble_eq_true rfl⟩ : CallB R s args RX9 49 yX9_in cX9_in 3 (some .boolean) wsX9_in rmX9_in 0 0 3 ∧ (Cond.static yX9_in).before args s = true)
  have hk_f35 := hts (.fieldLink RX9 35 "BakeTurnsModel" "thrown" "I") (by decide +kernel)
  have hc_195 := (cwV 2 hts gX9_place_X9_placeValue rfl rfl rfl (by decide +kernel) ⟨by rw [hR1]; exact Nat.le_of_ble_eq_true rfl, by rw [hR2]; exact Nat.le_of_ble_eq_true rfl⟩ : CallW R s args RX9 RX9 195 yX9_placeValue cX9_placeValue 3 (some .int) wsX9_placeValue rmX9_placeValue 0 0 2)
  unfold m9_place at hf
  refine lv_aload_n hx hb dX9_place_0 rfl (lv_at hl 0 rfl) ?_
  refine lv_iload_n hx hb dX9_place_1 rfl (lv_at hl 1 rfl) ?_
  refine lv_iconst (v := 0) hx hb dX9_place_2 (by decide) ?_
  refine lv_bipush (v := 11) hx hb dX9_place_3 (by decide) ?_
  obtain ⟨x1, hc2, hf⟩ := lt1_e hf
  refine w_csi ⟨hx, hb, hml, hown, hts⟩ hP hK hS (k9_in l hX (pmm w s0 u0 sv0 tx0 ow0 rs0 rn0 nu0 q0) hc2) hc_49 rfl hl.1 rfl (Nat.le_of_ble_eq_true rfl) dX9_place_5 ⟨Nat.zero_le _, Nat.zero_le _⟩ (fun H locs hP hS => ?_)
  obtain ⟨x7, ejK8, hf⟩ := lt1_e hf
  have K8 : ∀ (H : Heap) (locs : List Loc) (ls : Array Slot), HW X (pmm w s0 u0 sv0 tx0 ow0 rs0 rn0 nu0 q0) H → va_S (xF b0) s.heap H locs → lv_has ls 3 [(0, .ref (xa X 314)), (1, .int a1), (2, .int a2)] → W p l e R s m args below meth c H locs 0 0 Q (F0 m 29 ls [.int x7, .ref (xa X 314)]) := by
    intro H locs ls hP hS hl
    refine mm_put hx hb hts iX9_place_X9 hown hX hP hK hS 0 (by decide) hk_f35 rfl rfl (Nat.le_of_ble_eq_true rfl) (mm_es0 _) dX9_place_29 (fun q12 eq12 H locs hP hS => ?_)
    replace hf := ltn_s eq12 hf
    refine lv_aload_n hx hb dX9_place_32 rfl (lv_at hl 0 rfl) ?_
    refine w_get hx hb hts iX9_place_X9 hown hP hK (by decide) emb_mm rfl 0 (by decide) hk_f35 rfl dX9_place_33 ?_
    refine lv_if_le (tgt := 43) hx hb dX9_place_36 (by decide) (fun h13 => ?_) (fun h13 => ?_)
    · rw [if_pos h13] at hf
      refine lv_aload_n hx hb dX9_place_43 rfl (lv_at hl 0 rfl) ?_
      refine lv_iload_n hx hb dX9_place_44 rfl (lv_at hl 1 rfl) ?_
      refine lv_iload_n hx hb dX9_place_45 rfl (lv_at hl 2 rfl) ?_
      obtain ⟨x14, hc15, hf⟩ := ob1_e hf
      refine w_ci ⟨hx, hb, hml, hown, hts⟩ hP hK hS (k9_placeValue l hX w hc15) hc_195 (w_recv hP hK (by decide) emb_mm rfl) rfl hl.1 rfl (Nat.le_of_ble_eq_true rfl) dX9_place_46 ⟨Nat.zero_le _, Nat.zero_le _⟩ (fun H locs hP hS => ?_)
      have hf := Option.some.inj hf
      simp only [Prod.mk.injEq] at hf
      obtain ⟨rfl, rfl⟩ := hf
      rw [hQ]
      exact w_iret hx hb hr hlocks hP hK hS dX9_place_49 rfl rfl
    · rw [if_neg h13] at hf
      refine lv_iconst (v := 0) hx hb dX9_place_39 (by decide) ?_
      refine lv_goto (tgt := 49) hx hb dX9_place_40 (by decide) ?_
      have hf := Option.some.inj hf
      simp only [Prod.mk.injEq] at hf
      obtain ⟨rfl, rfl⟩ := hf
      rw [hQ]
      exact w_iret hx hb hr hlocks hP hK hS dX9_place_49 rfl rfl
  clear hf
  refine lv_if_ne (tgt := 15) hx hb dX9_place_8 (by decide) (fun h3 => ?_) (fun h3 => ?_)
  · rw [if_neg h3] at ejK8
    refine lv_iload_n hx hb dX9_place_15 rfl (lv_at hl 2 rfl) ?_
    refine lv_iconst (v := 0) hx hb dX9_place_16 (by decide) ?_
    refine lv_iconst (v := 3) hx hb dX9_place_17 (by decide) ?_
    obtain ⟨x9, hc10, ejK8⟩ := lt1_e ejK8
    refine w_csi ⟨hx, hb, hml, hown, hts⟩ hP hK hS (k9_in l hX (pmm w s0 u0 sv0 tx0 ow0 rs0 rn0 nu0 q0) hc10) hc_49 rfl hl.1 rfl (Nat.le_of_ble_eq_true rfl) dX9_place_18 ⟨Nat.zero_le _, Nat.zero_le _⟩ (fun H locs hP hS => ?_)
    refine lv_if_ne (tgt := 28) hx hb dX9_place_21 (by decide) (fun h11 => ?_) (fun h11 => ?_)
    · rw [if_neg h11] at ejK8
      refine lv_iconst (v := 0) hx hb dX9_place_28 (by decide) ?_
      obtain rfl := ejK8
      exact K8 _ _ _ hP hS (lv_sub hl [0, 1, 2] rfl)
    · rw [if_pos h11] at ejK8
      refine lv_iconst (v := 2) hx hb dX9_place_24 (by decide) ?_
      refine lv_goto (tgt := 29) hx hb dX9_place_25 (by decide) ?_
      obtain rfl := ejK8
      exact K8 _ _ _ hP hS (lv_sub hl [0, 1, 2] rfl)
  · rw [if_pos h3] at ejK8
    refine lv_iconst (v := 1) hx hb dX9_place_11 (by decide) ?_
    refine lv_goto (tgt := 29) hx hb dX9_place_12 (by decide) ?_
    obtain rfl := ejK8
    exact K8 _ _ _ hP hS (lv_sub hl [0, 1, 2] rfl)
abbrev rmX9_wholeValue : Room := { frames := 3, cells := 0, slots := 0, locals := 69 }
theorem iX9_wholeValue_X9 : ∀ w ∈ wsX90, w ∈ wsX9_wholeValue := by decide +kernel
set_option maxHeartbeats 4000000 in
set_option maxRecDepth 100000 in
theorem k9_wholeValue (l : Launch) {X : bkX} {b0 : Nat} (hX : XO X b0) (w : bkW) {N : Nat} {s0 : Nat → Int32} {u0 : Nat → Int32} {sv0 : Nat → Int32} {tx0 : Nat → Int32} {ow0 : Nat → Int32} {rs0 : Nat → Int64} {rn0 : Nat → Int32} {nu0 : Nat → Int32} {q0 : Nat → Int32} {a1 : Int32} {res9 : Int32} (hf : m9_wholeValue N s0 q0 a1 = some res9) : cI l yX9_wholeValue wsX9_wholeValue rmX9_wholeValue X b0 [.ref (xa X 314), .int a1] (pmm w s0 u0 sv0 tx0 ow0 rs0 rn0 nu0 q0) res9 (pmm w s0 u0 sv0 tx0 ow0 rs0 rn0 nu0 q0) := by
  refine Met.ofW (cc := cX9_wholeValue) (maxL := 2) (ret := (some .int)) (by decide) rfl ?_
  intro p e s m args below meth c s₁ B hml hv
  obtain ⟨ha, hP, hK⟩ := hv
  have hx := B.exec
  have hb := B.bytes
  have hr := B.returns
  have hts := atoms_spec (ws := wsX9_wholeValue) B.pre
  have hown : s.vm.findClass RX9 = some m.cls := findClass_of_methodNamed B.named
  have hlocks := B.notSynchronized
  obtain ⟨R, hR⟩ : ∃ R, R = (headSpec wsX9_wholeValue rmX9_wholeValue).room := ⟨_, rfl⟩
  rw [← hR]
  have hR1 : R.frames = 3 := by rw [hR]; rfl
  have hR2 : R.locals = 69 := by rw [hR]; rfl
  obtain ⟨Q, hQ⟩ : ∃ Q : State → Prop, Q = MQ below (va_Qi (fun r' (_ : Unit) => r' = res9) (fun _ t => WU X (pmm w s0 u0 sv0 tx0 ow0 rs0 rn0 nu0 q0) t) (xF b0)) args s 0 0 (xF b0) := ⟨_, rfl⟩
  rw [← hQ]
  have hS : va_S (xF b0) s.heap s.heap [] := va_S.rf
  have hl := lv_entry ([.ref (xa X 314), .int a1]) (n := 2) (Nat.le_of_ble_eq_true rfl)
  refine W.eq ((congrArg (fun z => entryFrame m z 2) ha).trans (lg_entry_eq m _ 2)) ?_
  generalize (lg_sl ([.ref (xa X 314), .int a1]) ++ List.replicate (2 - (lg_sl ([.ref (xa X 314), .int a1])).length) Slot.unset).toArray = ls at hl ⊢
  have hl : lv_has ls 2 [(0, .ref (xa X 314)), (1, .int a1)] := hl
  have hk_f7 := hts (.fieldLink RX9 7 "BakeTurnsModel" "s" "[I") (by decide +kernel)
  have hc_78 := (cwS 3 hts gX9_wholeValue_X9_freeIn rfl rfl rfl (by decide +kernel) ⟨by rw [hR1]; exact Nat.le_of_ble_eq_true rfl, by rw [hR2]; exact Nat.le_of_ble_eq_true rfl⟩ : CallB R s args RX9 78 yX9_freeIn cX9_freeIn 5 (some .int) wsX9_freeIn rmX9_freeIn 0 0 3 ∧ (Cond.static yX9_freeIn).before args s = true)
  have hc_165 := (cwV 0 hts gX9_wholeValue_X9_useOfAll rfl rfl rfl (by decide +kernel) ⟨by rw [hR1]; exact Nat.le_of_ble_eq_true rfl, by rw [hR2]; exact Nat.le_of_ble_eq_true rfl⟩ : CallW R s args RX9 RX9 165 yX9_useOfAll cX9_useOfAll 3 (some .int) wsX9_useOfAll rmX9_useOfAll 0 0 0)
  have hk_f198 := hts (.fieldLink RX9 198 "BakeTurnsModel" "length" "I") (by decide +kernel)
  unfold m9_wholeValue at hf
  refine lv_iload_n hx hb dX9_wholeValue_0 rfl (lv_at hl 1 rfl) ?_
  by_cases hsw17 : a1 = 0
  · rw [if_pos hsw17] at hf
    refine lv_tableIn (off := 71) (tgt := 72) hx hb dX9_wholeValue_1 (by rw [hsw17]; decide) (by rw [hsw17]; decide) (by rw [hsw17]; rfl) (by decide) ?_
    refine lv_aload_n hx hb dX9_wholeValue_72 rfl (lv_at hl 0 rfl) ?_
    refine w_get hx hb hts iX9_wholeValue_X9 hown hP hK (by decide) emb_mm rfl 1 (by decide) hk_f7 rfl dX9_wholeValue_73 ?_
    refine lv_iconst (v := 2) hx hb dX9_wholeValue_76 (by decide) ?_
    obtain ⟨hin1, hf⟩ := ck_e hf
    refine ar_ald (g := s0) hx hb AR_s rfl hP hK hin1 dX9_wholeValue_77 ?_
    have hf := Option.some.inj hf
    obtain rfl := hf
    rw [hQ]
    exact w_iret hx hb hr hlocks hP hK hS dX9_wholeValue_78 rfl rfl
  rw [if_neg hsw17] at hf
  by_cases hsw18 : a1 = 1
  · rw [if_pos hsw18] at hf
    refine lv_tableIn (off := 78) (tgt := 79) hx hb dX9_wholeValue_1 (by rw [hsw18]; decide) (by rw [hsw18]; decide) (by rw [hsw18]; rfl) (by decide) ?_
    refine lv_aload_n hx hb dX9_wholeValue_79 rfl (lv_at hl 0 rfl) ?_
    refine w_get hx hb hts iX9_wholeValue_X9 hown hP hK (by decide) emb_mm rfl 1 (by decide) hk_f7 rfl dX9_wholeValue_80 ?_
    refine lv_iconst (v := 3) hx hb dX9_wholeValue_83 (by decide) ?_
    obtain ⟨hin2, hf⟩ := ck_e hf
    refine ar_ald (g := s0) hx hb AR_s rfl hP hK hin2 dX9_wholeValue_84 ?_
    have hf := Option.some.inj hf
    obtain rfl := hf
    rw [hQ]
    exact w_iret hx hb hr hlocks hP hK hS dX9_wholeValue_85 rfl rfl
  rw [if_neg hsw18] at hf
  by_cases hsw19 : a1 = 2
  · rw [if_pos hsw19] at hf
    refine lv_tableIn (off := 85) (tgt := 86) hx hb dX9_wholeValue_1 (by rw [hsw19]; decide) (by rw [hsw19]; decide) (by rw [hsw19]; rfl) (by decide) ?_
    refine lv_aload_n hx hb dX9_wholeValue_86 rfl (lv_at hl 0 rfl) ?_
    refine w_get hx hb hts iX9_wholeValue_X9 hown hP hK (by decide) emb_mm rfl 1 (by decide) hk_f7 rfl dX9_wholeValue_87 ?_
    refine lv_iconst (v := 4) hx hb dX9_wholeValue_90 (by decide) ?_
    obtain ⟨hin3, hf⟩ := ck_e hf
    refine ar_ald (g := s0) hx hb AR_s rfl hP hK hin3 dX9_wholeValue_91 ?_
    have hf := Option.some.inj hf
    obtain rfl := hf
    rw [hQ]
    exact w_iret hx hb hr hlocks hP hK hS dX9_wholeValue_92 rfl rfl
  rw [if_neg hsw19] at hf
  by_cases hsw20 : a1 = 3
  · rw [if_pos hsw20] at hf
    refine lv_tableIn (off := 92) (tgt := 93) hx hb dX9_wholeValue_1 (by rw [hsw20]; decide) (by rw [hsw20]; decide) (by rw [hsw20]; rfl) (by decide) ?_
    refine lv_aload_n hx hb dX9_wholeValue_93 rfl (lv_at hl 0 rfl) ?_
    refine w_get hx hb hts iX9_wholeValue_X9 hown hP hK (by decide) emb_mm rfl 1 (by decide) hk_f7 rfl dX9_wholeValue_94 ?_
    refine lv_iconst (v := 0) hx hb dX9_wholeValue_97 (by decide) ?_
    obtain ⟨hin4, hf⟩ := ck_e hf
    refine ar_ald (g := s0) hx hb AR_s rfl hP hK hin4 dX9_wholeValue_98 ?_
    have hf := Option.some.inj hf
    obtain rfl := hf
    rw [hQ]
    exact w_iret hx hb hr hlocks hP hK hS dX9_wholeValue_99 rfl rfl
  rw [if_neg hsw20] at hf
  by_cases hsw21 : a1 = 4
  · rw [if_pos hsw21] at hf
    refine lv_tableIn (off := 99) (tgt := 100) hx hb dX9_wholeValue_1 (by rw [hsw21]; decide) (by rw [hsw21]; decide) (by rw [hsw21]; rfl) (by decide) ?_
    refine lv_aload_n hx hb dX9_wholeValue_100 rfl (lv_at hl 0 rfl) ?_
    refine w_get hx hb hts iX9_wholeValue_X9 hown hP hK (by decide) emb_mm rfl 1 (by decide) hk_f7 rfl dX9_wholeValue_101 ?_
    refine lv_iconst (v := 1) hx hb dX9_wholeValue_104 (by decide) ?_
    obtain ⟨hin5, hf⟩ := ck_e hf
    refine ar_ald (g := s0) hx hb AR_s rfl hP hK hin5 dX9_wholeValue_105 ?_
    have hf := Option.some.inj hf
    obtain rfl := hf
    rw [hQ]
    exact w_iret hx hb hr hlocks hP hK hS dX9_wholeValue_106 rfl rfl
  rw [if_neg hsw21] at hf
  by_cases hsw22 : a1 = 5
  · rw [if_pos hsw22] at hf
    refine lv_tableIn (off := 106) (tgt := 107) hx hb dX9_wholeValue_1 (by rw [hsw22]; decide) (by rw [hsw22]; decide) (by rw [hsw22]; rfl) (by decide) ?_
    refine lv_aload_n hx hb dX9_wholeValue_107 rfl (lv_at hl 0 rfl) ?_
    refine w_get hx hb hts iX9_wholeValue_X9 hown hP hK (by decide) emb_mm rfl 1 (by decide) hk_f7 rfl dX9_wholeValue_108 ?_
    refine lv_iconst (v := 5) hx hb dX9_wholeValue_111 (by decide) ?_
    obtain ⟨hin6, hf⟩ := ck_e hf
    refine ar_ald (g := s0) hx hb AR_s rfl hP hK hin6 dX9_wholeValue_112 ?_
    have hf := Option.some.inj hf
    obtain rfl := hf
    rw [hQ]
    exact w_iret hx hb hr hlocks hP hK hS dX9_wholeValue_113 rfl rfl
  rw [if_neg hsw22] at hf
  by_cases hsw23 : a1 = 6
  · rw [if_pos hsw23] at hf
    refine lv_tableIn (off := 113) (tgt := 114) hx hb dX9_wholeValue_1 (by rw [hsw23]; decide) (by rw [hsw23]; decide) (by rw [hsw23]; rfl) (by decide) ?_
    refine lv_aload_n hx hb dX9_wholeValue_114 rfl (lv_at hl 0 rfl) ?_
    refine w_get hx hb hts iX9_wholeValue_X9 hown hP hK (by decide) emb_mm rfl 1 (by decide) hk_f7 rfl dX9_wholeValue_115 ?_
    refine lv_iconst (v := 0) hx hb dX9_wholeValue_118 (by decide) ?_
    refine lv_sipush (v := 400) hx hb dX9_wholeValue_119 (by decide) ?_
    obtain ⟨x7, hc8, hf⟩ := ob1_e hf
    refine w_csi ⟨hx, hb, hml, hown, hts⟩ hP hK hS (by have hM := k9_freeIn l hX AR_s (pmm w s0 u0 sv0 tx0 ow0 rs0 rn0 nu0 q0) hc8; simp only [pmm_s] at hM; exact hM) hc_78 rfl hl.1 rfl (Nat.le_of_ble_eq_true rfl) dX9_wholeValue_122 ⟨Nat.zero_le _, Nat.zero_le _⟩ (fun H locs hP hS => ?_)
    have hf := Option.some.inj hf
    obtain rfl := hf
    rw [hQ]
    exact w_iret hx hb hr hlocks hP hK hS dX9_wholeValue_125 rfl rfl
  rw [if_neg hsw23] at hf
  by_cases hsw24 : a1 = 7
  · rw [if_pos hsw24] at hf
    refine lv_tableIn (off := 125) (tgt := 126) hx hb dX9_wholeValue_1 (by rw [hsw24]; decide) (by rw [hsw24]; decide) (by rw [hsw24]; rfl) (by decide) ?_
    refine lv_aload_n hx hb dX9_wholeValue_126 rfl (lv_at hl 0 rfl) ?_
    refine w_get hx hb hts iX9_wholeValue_X9 hown hP hK (by decide) emb_mm rfl 1 (by decide) hk_f7 rfl dX9_wholeValue_127 ?_
    refine lv_bipush (v := 6) hx hb dX9_wholeValue_130 (by decide) ?_
    obtain ⟨hin9, hf⟩ := ck_e hf
    refine ar_ald (g := s0) hx hb AR_s rfl hP hK hin9 dX9_wholeValue_132 ?_
    have hf := Option.some.inj hf
    obtain rfl := hf
    rw [hQ]
    exact w_iret hx hb hr hlocks hP hK hS dX9_wholeValue_133 rfl rfl
  rw [if_neg hsw24] at hf
  by_cases hsw25 : a1 = 8
  · rw [if_pos hsw25] at hf
    refine lv_tableIn (off := 133) (tgt := 134) hx hb dX9_wholeValue_1 (by rw [hsw25]; decide) (by rw [hsw25]; decide) (by rw [hsw25]; rfl) (by decide) ?_
    refine lv_aload_n hx hb dX9_wholeValue_134 rfl (lv_at hl 0 rfl) ?_
    obtain ⟨x10, hc11, hf⟩ := ob1_e hf
    refine w_ci ⟨hx, hb, hml, hown, hts⟩ hP hK hS (k9_useOfAll l hX w hc11) hc_165 (w_recv hP hK (by decide) emb_mm rfl) rfl hl.1 rfl (Nat.le_of_ble_eq_true rfl) dX9_wholeValue_135 ⟨Nat.zero_le _, Nat.zero_le _⟩ (fun H locs hP hS => ?_)
    have hf := Option.some.inj hf
    obtain rfl := hf
    rw [hQ]
    exact w_iret hx hb hr hlocks hP hK hS dX9_wholeValue_138 rfl rfl
  rw [if_neg hsw25] at hf
  by_cases hsw26 : a1 = 9
  · rw [if_pos hsw26] at hf
    refine lv_tableIn (off := 138) (tgt := 139) hx hb dX9_wholeValue_1 (by rw [hsw26]; decide) (by rw [hsw26]; decide) (by rw [hsw26]; rfl) (by decide) ?_
    refine lv_aload_n hx hb dX9_wholeValue_139 rfl (lv_at hl 0 rfl) ?_
    refine w_get hx hb hts iX9_wholeValue_X9 hown hP hK (by decide) emb_mm rfl 1 (by decide) hk_f7 rfl dX9_wholeValue_140 ?_
    refine lv_bipush (v := 7) hx hb dX9_wholeValue_143 (by decide) ?_
    obtain ⟨hin12, hf⟩ := ck_e hf
    refine ar_ald (g := s0) hx hb AR_s rfl hP hK hin12 dX9_wholeValue_145 ?_
    have hf := Option.some.inj hf
    obtain rfl := hf
    rw [hQ]
    exact w_iret hx hb hr hlocks hP hK hS dX9_wholeValue_146 rfl rfl
  rw [if_neg hsw26] at hf
  by_cases hsw27 : a1 = 10
  · rw [if_pos hsw27] at hf
    refine lv_tableIn (off := 146) (tgt := 147) hx hb dX9_wholeValue_1 (by rw [hsw27]; decide) (by rw [hsw27]; decide) (by rw [hsw27]; rfl) (by decide) ?_
    refine lv_aload_n hx hb dX9_wholeValue_147 rfl (lv_at hl 0 rfl) ?_
    refine w_get hx hb hts iX9_wholeValue_X9 hown hP hK (by decide) emb_mm rfl 1 (by decide) hk_f7 rfl dX9_wholeValue_148 ?_
    refine lv_bipush (v := 8) hx hb dX9_wholeValue_151 (by decide) ?_
    obtain ⟨hin13, hf⟩ := ck_e hf
    refine ar_ald (g := s0) hx hb AR_s rfl hP hK hin13 dX9_wholeValue_153 ?_
    have hf := Option.some.inj hf
    obtain rfl := hf
    rw [hQ]
    exact w_iret hx hb hr hlocks hP hK hS dX9_wholeValue_154 rfl rfl
  rw [if_neg hsw27] at hf
  by_cases hsw28 : a1 = 11
  · rw [if_pos hsw28] at hf
    refine lv_tableIn (off := 154) (tgt := 155) hx hb dX9_wholeValue_1 (by rw [hsw28]; decide) (by rw [hsw28]; decide) (by rw [hsw28]; rfl) (by decide) ?_
    refine lv_aload_n hx hb dX9_wholeValue_155 rfl (lv_at hl 0 rfl) ?_
    refine w_get hx hb hts iX9_wholeValue_X9 hown hP hK (by decide) emb_mm rfl 1 (by decide) hk_f7 rfl dX9_wholeValue_156 ?_
    refine lv_bipush (v := 9) hx hb dX9_wholeValue_159 (by decide) ?_
    obtain ⟨hin14, hf⟩ := ck_e hf
    refine ar_ald (g := s0) hx hb AR_s rfl hP hK hin14 dX9_wholeValue_161 ?_
    have hf := Option.some.inj hf
    obtain rfl := hf
    rw [hQ]
    exact w_iret hx hb hr hlocks hP hK hS dX9_wholeValue_162 rfl rfl
  rw [if_neg hsw28] at hf
  by_cases hsw29 : a1 = 12
  · rw [if_pos hsw29] at hf
    refine lv_tableIn (off := 162) (tgt := 163) hx hb dX9_wholeValue_1 (by rw [hsw29]; decide) (by rw [hsw29]; decide) (by rw [hsw29]; rfl) (by decide) ?_
    refine lv_aload_n hx hb dX9_wholeValue_163 rfl (lv_at hl 0 rfl) ?_
    refine w_get hx hb hts iX9_wholeValue_X9 hown hP hK (by decide) emb_mm rfl 1 (by decide) hk_f7 rfl dX9_wholeValue_164 ?_
    refine lv_bipush (v := 10) hx hb dX9_wholeValue_167 (by decide) ?_
    obtain ⟨hin15, hf⟩ := ck_e hf
    refine ar_ald (g := s0) hx hb AR_s rfl hP hK hin15 dX9_wholeValue_169 ?_
    have hf := Option.some.inj hf
    obtain rfl := hf
    rw [hQ]
    exact w_iret hx hb hr hlocks hP hK hS dX9_wholeValue_170 rfl rfl
  rw [if_neg hsw29] at hf
  by_cases hsw30 : a1 = 13
  · rw [if_pos hsw30] at hf
    refine lv_tableIn (off := 170) (tgt := 171) hx hb dX9_wholeValue_1 (by rw [hsw30]; decide) (by rw [hsw30]; decide) (by rw [hsw30]; rfl) (by decide) ?_
    refine lv_aload_n hx hb dX9_wholeValue_171 rfl (lv_at hl 0 rfl) ?_
    refine w_get hx hb hts iX9_wholeValue_X9 hown hP hK (by decide) emb_mm rfl 1 (by decide) hk_f7 rfl dX9_wholeValue_172 ?_
    refine lv_bipush (v := 11) hx hb dX9_wholeValue_175 (by decide) ?_
    obtain ⟨hin16, hf⟩ := ck_e hf
    refine ar_ald (g := s0) hx hb AR_s rfl hP hK hin16 dX9_wholeValue_177 ?_
    have hf := Option.some.inj hf
    obtain rfl := hf
    rw [hQ]
    exact w_iret hx hb hr hlocks hP hK hS dX9_wholeValue_178 rfl rfl
  rw [if_neg hsw30] at hf
  have hdf : (a1).toInt < 0 ∨ 13 < (a1).toInt := by
    have ghsw17 := ne_i (z := 0) hsw17 (by decide)
    have ghsw18 := ne_i (z := 1) hsw18 (by decide)
    have ghsw19 := ne_i (z := 2) hsw19 (by decide)
    have ghsw20 := ne_i (z := 3) hsw20 (by decide)
    have ghsw21 := ne_i (z := 4) hsw21 (by decide)
    have ghsw22 := ne_i (z := 5) hsw22 (by decide)
    have ghsw23 := ne_i (z := 6) hsw23 (by decide)
    have ghsw24 := ne_i (z := 7) hsw24 (by decide)
    have ghsw25 := ne_i (z := 8) hsw25 (by decide)
    have ghsw26 := ne_i (z := 9) hsw26 (by decide)
    have ghsw27 := ne_i (z := 10) hsw27 (by decide)
    have ghsw28 := ne_i (z := 11) hsw28 (by decide)
    have ghsw29 := ne_i (z := 12) hsw29 (by decide)
    have ghsw30 := ne_i (z := 13) hsw30 (by decide)
    omega
  refine lv_tableOut (tgt := 179) hx hb dX9_wholeValue_1 hdf (by decide) ?_
  refine lv_aload_n hx hb dX9_wholeValue_179 rfl (lv_at hl 0 rfl) ?_
  refine w_get hx hb hts iX9_wholeValue_X9 hown hP hK (by decide) emb_mm rfl 6 (by decide) hk_f198 rfl dX9_wholeValue_180 ?_
  have hf := Option.some.inj hf
  obtain rfl := hf
  rw [hQ]
  exact w_iret hx hb hr hlocks hP hK hS dX9_wholeValue_183 rfl rfl
