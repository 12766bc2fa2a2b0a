abbrev rmX9_whole : Room := { frames := 4, cells := 0, slots := 0, locals := 90 }
theorem iX9_whole_X9 : ∀ w ∈ wsX90, w ∈ wsX9_whole := by decide +kernel
set_option maxHeartbeats 4000000 in
set_option maxRecDepth 100000 in
theorem k9_whole (l : Launch) {X : bkX} {b0 : Nat} (hX : XO X b0) (w : bkW) {N : Nat} {s0 : Nat → Int32} {u0 : Nat → Int32} {sv0 : Nat → Int32} {tx0 : Nat → Int32} {ow0 : Nat → Int32} {rs0 : Nat → Int64} {rn0 : Nat → Int32} {nu0 : Nat → Int32} {q0 : Nat → Int32} {a1 : Int32} {res9 : Int32} {q9 : Nat → Int32} (hf : m9_whole N s0 q0 a1 = some (res9, q9)) : cI l yX9_whole wsX9_whole rmX9_whole X b0 [.ref (xa X 314), .int a1] (pmm w s0 u0 sv0 tx0 ow0 rs0 rn0 nu0 q0) res9 (pmm w s0 u0 sv0 tx0 ow0 rs0 rn0 nu0 q9) := by
  refine Met.ofW (cc := cX9_whole) (maxL := 2) (ret := (some .int)) (by decide) rfl ?_
  intro p e s m args below meth c s₁ B hml hv
  obtain ⟨ha, hP, hK⟩ := hv
  have hx := B.exec
  have hb := B.bytes
  have hr := B.returns
  have hts := atoms_spec (ws := wsX9_whole) B.pre
  have hown : s.vm.findClass RX9 = some m.cls := findClass_of_methodNamed B.named
  have hlocks := B.notSynchronized
  obtain ⟨R, hR⟩ : ∃ R, R = (headSpec wsX9_whole rmX9_whole).room := ⟨_, rfl⟩
  rw [← hR]
  have hR1 : R.frames = 4 := by rw [hR]; rfl
  have hR2 : R.locals = 90 := by rw [hR]; rfl
  obtain ⟨Q, hQ⟩ : ∃ Q : State → Prop, Q = MQ below (va_Qi (fun r' (_ : Unit) => r' = res9) (fun _ t => WU X (pmm w s0 u0 sv0 tx0 ow0 rs0 rn0 nu0 q9) t) (xF b0)) args s 0 0 (xF b0) := ⟨_, rfl⟩
  rw [← hQ]
  have hS : va_S (xF b0) s.heap s.heap [] := va_S.rf
  have hl := lv_entry ([.ref (xa X 314), .int a1]) (n := 2) (Nat.le_of_ble_eq_true rfl)
  refine W.eq ((congrArg (fun z => entryFrame m z 2) ha).trans (lg_entry_eq m _ 2)) ?_
  generalize (lg_sl ([.ref (xa X 314), .int a1]) ++ List.replicate (2 - (lg_sl ([.ref (xa X 314), .int a1])).length) Slot.unset).toArray = ls at hl ⊢
  have hl : lv_has ls 2 [(0, .ref (xa X 314)), (1, .int a1)] := hl
  have hc_49 := (cwS 3 hts gX9_whole_X9_in rfl rfl rfl (by decide +kernel) ⟨by rw [hR1]; exact Nat.le_of_ble_eq_true rfl, by rw [hR2]; exact Nat.le_of_ble_eq_true rfl⟩ : CallB R s args RX9 49 yX9_in cX9_in 3 (some .boolean) wsX9_in rmX9_in 0 0 3 ∧ (Cond.static yX9_in).before args s = true)
  have hk_f35 := hts (.fieldLink RX9 35 "BakeTurnsModel" "thrown" "I") (by decide +kernel)
  have hc_201 := (cwV 1 hts gX9_whole_X9_wholeValue rfl rfl rfl (by decide +kernel) ⟨by rw [hR1]; exact Nat.le_of_ble_eq_true rfl, by rw [hR2]; exact Nat.le_of_ble_eq_true rfl⟩ : CallW R s args RX9 RX9 201 yX9_wholeValue cX9_wholeValue 2 (some .int) wsX9_wholeValue rmX9_wholeValue 0 0 1)
  unfold m9_whole at hf
  refine lv_aload_n hx hb dX9_whole_0 rfl (lv_at hl 0 rfl) ?_
  refine lv_iload_n hx hb dX9_whole_1 rfl (lv_at hl 1 rfl) ?_
  refine lv_iconst (v := 0) hx hb dX9_whole_2 (by decide) ?_
  refine lv_bipush (v := 14) hx hb dX9_whole_3 (by decide) ?_
  obtain ⟨x1, hc2, hf⟩ := lt1_e hf
  refine w_csi ⟨hx, hb, hml, hown, hts⟩ hP hK hS (k9_in l hX (pmm w s0 u0 sv0 tx0 ow0 rs0 rn0 nu0 q0) hc2) hc_49 rfl hl.1 rfl (Nat.le_of_ble_eq_true rfl) dX9_whole_5 ⟨Nat.zero_le _, Nat.zero_le _⟩ (fun H locs hP hS => ?_)
  obtain ⟨x4, ejK5, hf⟩ := lt1_e hf
  have K5 : ∀ (H : Heap) (locs : List Loc) (ls : Array Slot), HW X (pmm w s0 u0 sv0 tx0 ow0 rs0 rn0 nu0 q0) H → va_S (xF b0) s.heap H locs → lv_has ls 2 [(0, .ref (xa X 314)), (1, .int a1)] → W p l e R s m args below meth c H locs 0 0 Q (F0 m 16 ls [.int x4, .ref (xa X 314)]) := by
    intro H locs ls hP hS hl
    refine mm_put hx hb hts iX9_whole_X9 hown hX hP hK hS 0 (by decide) hk_f35 rfl rfl (Nat.le_of_ble_eq_true rfl) (mm_es0 _) dX9_whole_16 (fun q6 eq6 H locs hP hS => ?_)
    replace hf := ltn_s eq6 hf
    refine lv_aload_n hx hb dX9_whole_19 rfl (lv_at hl 0 rfl) ?_
    refine w_get hx hb hts iX9_whole_X9 hown hP hK (by decide) emb_mm rfl 0 (by decide) hk_f35 rfl dX9_whole_20 ?_
    refine lv_if_le (tgt := 30) hx hb dX9_whole_23 (by decide) (fun h7 => ?_) (fun h7 => ?_)
    · rw [if_pos h7] at hf
      refine lv_aload_n hx hb dX9_whole_30 rfl (lv_at hl 0 rfl) ?_
      refine lv_iload_n hx hb dX9_whole_31 rfl (lv_at hl 1 rfl) ?_
      obtain ⟨x8, hc9, hf⟩ := ob1_e hf
      refine w_ci ⟨hx, hb, hml, hown, hts⟩ hP hK hS (k9_wholeValue l hX w hc9) hc_201 (w_recv hP hK (by decide) emb_mm rfl) rfl hl.1 rfl (Nat.le_of_ble_eq_true rfl) dX9_whole_32 ⟨Nat.zero_le _, Nat.zero_le _⟩ (fun H locs hP hS => ?_)
      have hf := Option.some.inj hf
      simp only [Prod.mk.injEq] at hf
      obtain ⟨rfl, rfl⟩ := hf
      rw [hQ]
      exact w_iret hx hb hr hlocks hP hK hS dX9_whole_35 rfl rfl
    · rw [if_neg h7] at hf
      refine lv_iconst (v := 0) hx hb dX9_whole_26 (by decide) ?_
      refine lv_goto (tgt := 35) hx hb dX9_whole_27 (by decide) ?_
      have hf := Option.some.inj hf
      simp only [Prod.mk.injEq] at hf
      obtain ⟨rfl, rfl⟩ := hf
      rw [hQ]
      exact w_iret hx hb hr hlocks hP hK hS dX9_whole_35 rfl rfl
  clear hf
  refine lv_if_eq (tgt := 15) hx hb dX9_whole_8 (by decide) (fun h3 => ?_) (fun h3 => ?_)
  · rw [if_pos h3] at ejK5
    refine lv_iconst (v := 1) hx hb dX9_whole_15 (by decide) ?_
    obtain rfl := ejK5
    exact K5 _ _ _ hP hS (lv_sub hl [0, 1] rfl)
  · rw [if_neg h3] at ejK5
    refine lv_iconst (v := 0) hx hb dX9_whole_11 (by decide) ?_
    refine lv_goto (tgt := 16) hx hb dX9_whole_12 (by decide) ?_
    obtain rfl := ejK5
    exact K5 _ _ _ hP hS (lv_sub hl [0, 1] rfl)
abbrev rmX9_line : Room := { frames := 0, cells := 0, slots := 0, locals := 0 }
theorem iX9_line_X9 : ∀ w ∈ wsX90, w ∈ wsX9_line := by decide +kernel
set_option maxHeartbeats 4000000 in
set_option maxRecDepth 100000 in
theorem k9_line (l : Launch) {X : bkX} {b0 : Nat} (hX : XO X b0) (w : bkW) {s0 : Nat → Int32} {u0 : Nat → Int32} {sv0 : Nat → Int32} {tx0 : Nat → Int32} {ow0 : Nat → Int32} {rs0 : Nat → Int64} {rn0 : Nat → Int32} {nu0 : Nat → Int32} {q0 : Nat → Int32} {a1 : Int32} {res9 : Int32} {q9 : Nat → Int32} (hf : m9_line s0 q0 a1 = some (res9, q9)) : cI l yX9_line wsX9_line rmX9_line X b0 [.ref (xa X 314), .int a1] (pmm w s0 u0 sv0 tx0 ow0 rs0 rn0 nu0 q0) res9 (pmm w s0 u0 sv0 tx0 ow0 rs0 rn0 nu0 q9) := by
  refine Met.ofW (cc := cX9_line) (maxL := 2) (ret := (some .int)) (by decide) rfl ?_
  intro p e s m args below meth c s₁ B hml hv
  obtain ⟨ha, hP, hK⟩ := hv
  have hx := B.exec
  have hb := B.bytes
  have hr := B.returns
  have hts := atoms_spec (ws := wsX9_line) B.pre
  have hown : s.vm.findClass RX9 = some m.cls := findClass_of_methodNamed B.named
  have hlocks := B.notSynchronized
  obtain ⟨R, hR⟩ : ∃ R, R = (headSpec wsX9_line rmX9_line).room := ⟨_, rfl⟩
  rw [← hR]
  have hR1 : R.frames = 0 := by rw [hR]; rfl
  have hR2 : R.locals = 0 := by rw [hR]; rfl
  obtain ⟨Q, hQ⟩ : ∃ Q : State → Prop, Q = MQ below (va_Qi (fun r' (_ : Unit) => r' = res9) (fun _ t => WU X (pmm w s0 u0 sv0 tx0 ow0 rs0 rn0 nu0 q9) t) (xF b0)) args s 0 0 (xF b0) := ⟨_, rfl⟩
  rw [← hQ]
  have hS : va_S (xF b0) s.heap s.heap [] := va_S.rf
  have hl := lv_entry ([.ref (xa X 314), .int a1]) (n := 2) (Nat.le_of_ble_eq_true rfl)
  refine W.eq ((congrArg (fun z => entryFrame m z 2) ha).trans (lg_entry_eq m _ 2)) ?_
  generalize (lg_sl ([.ref (xa X 314), .int a1]) ++ List.replicate (2 - (lg_sl ([.ref (xa X 314), .int a1])).length) Slot.unset).toArray = ls at hl ⊢
  have hl : lv_has ls 2 [(0, .ref (xa X 314)), (1, .int a1)] := hl
  have hk_f35 := hts (.fieldLink RX9 35 "BakeTurnsModel" "thrown" "I") (by decide +kernel)
  have hk_f7 := hts (.fieldLink RX9 7 "BakeTurnsModel" "s" "[I") (by decide +kernel)
  unfold m9_line at hf
  refine lv_aload_n hx hb dX9_line_0 rfl (lv_at hl 0 rfl) ?_
  refine lv_iload_n hx hb dX9_line_1 rfl (lv_at hl 1 rfl) ?_
  obtain ⟨x2, ejK3, hf⟩ := lt1_e hf
  have K3 : ∀ (H : Heap) (locs : List Loc) (ls : Array Slot), HW X (pmm w s0 u0 sv0 tx0 ow0 rs0 rn0 nu0 q0) H → va_S (xF b0) s.heap H locs → lv_has ls 2 [(0, .ref (xa X 314)), (1, .int a1)] → W p l e R s m args below meth c H locs 0 0 Q (F0 m 10 ls [.int x2, .ref (xa X 314)]) := by
    intro H locs ls hP hS hl
    refine mm_put hx hb hts iX9_line_X9 hown hX hP hK hS 0 (by decide) hk_f35 rfl rfl (Nat.le_of_ble_eq_true rfl) (mm_es0 _) dX9_line_10 (fun q4 eq4 H locs hP hS => ?_)
    replace hf := ltn_s eq4 hf
    refine lv_aload_n hx hb dX9_line_13 rfl (lv_at hl 0 rfl) ?_
    refine w_get hx hb hts iX9_line_X9 hown hP hK (by decide) emb_mm rfl 0 (by decide) hk_f35 rfl dX9_line_14 ?_
    refine lv_if_le (tgt := 24) hx hb dX9_line_17 (by decide) (fun h5 => ?_) (fun h5 => ?_)
    · rw [if_pos h5] at hf
      refine lv_iload_n hx hb dX9_line_24 rfl (lv_at hl 1 rfl) ?_
      refine lv_aload_n hx hb dX9_line_25 rfl (lv_at hl 0 rfl) ?_
      refine w_get hx hb hts iX9_line_X9 hown hP hK (by decide) emb_mm rfl 1 (by decide) hk_f7 rfl dX9_line_26 ?_
      refine lv_iconst (v := 5) hx hb dX9_line_29 (by decide) ?_
      obtain ⟨hin6, hf⟩ := ck_e hf
      refine ar_ald (g := s0) hx hb AR_s rfl hP hK hin6 dX9_line_30 ?_
      refine lv_icmp_ge (tgt := 47) hx hb dX9_line_31 (by decide) (fun h7 => ?_) (fun h7 => ?_)
      · rw [if_pos h7] at hf
        refine lv_iconst (v := (-1)) hx hb dX9_line_47 (by decide) ?_
        have hf := Option.some.inj hf
        simp only [Prod.mk.injEq] at hf
        obtain ⟨rfl, rfl⟩ := hf
        rw [hQ]
        exact w_iret hx hb hr hlocks hP hK hS dX9_line_48 rfl rfl
      · rw [if_neg h7] at hf
        refine lv_aload_n hx hb dX9_line_34 rfl (lv_at hl 0 rfl) ?_
        refine w_get hx hb hts iX9_line_X9 hown hP hK (by decide) emb_mm rfl 1 (by decide) hk_f7 rfl dX9_line_35 ?_
        refine lv_sipush (v := 213) hx hb dX9_line_38 (by decide) ?_
        refine lv_iload_n hx hb dX9_line_41 rfl (lv_at hl 1 rfl) ?_
        refine lv_iadd hx hb dX9_line_42 ?_
        obtain ⟨hin8, hf⟩ := ck_e hf
        refine ar_ald (g := s0) hx hb AR_s rfl hP hK hin8 dX9_line_43 ?_
        refine lv_goto (tgt := 48) hx hb dX9_line_44 (by decide) ?_
        have hf := Option.some.inj hf
        simp only [Prod.mk.injEq] at hf
        obtain ⟨rfl, rfl⟩ := hf
        rw [hQ]
        exact w_iret hx hb hr hlocks hP hK hS dX9_line_48 rfl rfl
    · rw [if_neg h5] at hf
      refine lv_iconst (v := 0) hx hb dX9_line_20 (by decide) ?_
      refine lv_goto (tgt := 48) hx hb dX9_line_21 (by decide) ?_
      have hf := Option.some.inj hf
      simp only [Prod.mk.injEq] at hf
      obtain ⟨rfl, rfl⟩ := hf
      rw [hQ]
      exact w_iret hx hb hr hlocks hP hK hS dX9_line_48 rfl rfl
  clear hf
  refine lv_if_ge (tgt := 9) hx hb dX9_line_2 (by decide) (fun h1 => ?_) (fun h1 => ?_)
  · rw [if_pos h1] at ejK3
    refine lv_iconst (v := 0) hx hb dX9_line_9 (by decide) ?_
    obtain rfl := ejK3
    exact K3 _ _ _ hP hS (lv_sub hl [0, 1] rfl)
  · rw [if_neg h1] at ejK3
    refine lv_iconst (v := 1) hx hb dX9_line_5 (by decide) ?_
    refine lv_goto (tgt := 10) hx hb dX9_line_6 (by decide) ?_
    obtain rfl := ejK3
    exact K3 _ _ _ hP hS (lv_sub hl [0, 1] rfl)
abbrev rmX9_reasonNow : Room := { frames := 4, cells := 0, slots := 0, locals := 91 }
theorem iX9_reasonNow_X9 : ∀ w ∈ wsX90, w ∈ wsX9_reasonNow := by decide +kernel
set_option maxHeartbeats 4000000 in
set_option maxRecDepth 100000 in
theorem k9_reasonNow (l : Launch) {X : bkX} {b0 : Nat} (hX : XO X b0) (w : bkW) {N : Nat} {s0 : Nat → Int32} {u0 : Nat → Int32} {sv0 : Nat → Int32} {tx0 : Nat → Int32} {ow0 : Nat → Int32} {rs0 : Nat → Int64} {rn0 : Nat → Int32} {nu0 : Nat → Int32} {q0 : Nat → Int32} {a1 : Int32} {res9 : Int32} (hf : m9_reasonNow N s0 a1 = some res9) : cI l yX9_reasonNow wsX9_reasonNow rmX9_reasonNow X b0 [.ref (xa X 314), .int a1] (pmm w s0 u0 sv0 tx0 ow0 rs0 rn0 nu0 q0) res9 (pmm w s0 u0 sv0 tx0 ow0 rs0 rn0 nu0 q0) := by
  refine Met.ofW (cc := cX9_reasonNow) (maxL := 2) (ret := (some .int)) (by decide) rfl ?_
  intro p e s m args below meth c s₁ B hml hv
  obtain ⟨ha, hP, hK⟩ := hv
  have hx := B.exec
  have hb := B.bytes
  have hr := B.returns
  have hts := atoms_spec (ws := wsX9_reasonNow) B.pre
  have hown : s.vm.findClass RX9 = some m.cls := findClass_of_methodNamed B.named
  have hlocks := B.notSynchronized
  obtain ⟨R, hR⟩ : ∃ R, R = (headSpec wsX9_reasonNow rmX9_reasonNow).room := ⟨_, rfl⟩
  rw [← hR]
  have hR1 : R.frames = 4 := by rw [hR]; rfl
  have hR2 : R.locals = 91 := by rw [hR]; rfl
  obtain ⟨Q, hQ⟩ : ∃ Q : State → Prop, Q = MQ below (va_Qi (fun r' (_ : Unit) => r' = res9) (fun _ t => WU X (pmm w s0 u0 sv0 tx0 ow0 rs0 rn0 nu0 q0) t) (xF b0)) args s 0 0 (xF b0) := ⟨_, rfl⟩
  rw [← hQ]
  have hS : va_S (xF b0) s.heap s.heap [] := va_S.rf
  have hl := lv_entry ([.ref (xa X 314), .int a1]) (n := 2) (Nat.le_of_ble_eq_true rfl)
  refine W.eq ((congrArg (fun z => entryFrame m z 2) ha).trans (lg_entry_eq m _ 2)) ?_
  generalize (lg_sl ([.ref (xa X 314), .int a1]) ++ List.replicate (2 - (lg_sl ([.ref (xa X 314), .int a1])).length) Slot.unset).toArray = ls at hl ⊢
  have hl : lv_has ls 2 [(0, .ref (xa X 314)), (1, .int a1)] := hl
  have hk_f7 := hts (.fieldLink RX9 7 "BakeTurnsModel" "s" "[I") (by decide +kernel)
  have hc_42 := (cwS 3 hts gX9_reasonNow_X9_of rfl rfl rfl (by decide +kernel) ⟨by rw [hR1]; exact Nat.le_of_ble_eq_true rfl, by rw [hR2]; exact Nat.le_of_ble_eq_true rfl⟩ : CallB R s args RX9 42 yX9_of cX9_of 3 (some .int) wsX9_of rmX9_of 0 0 3 ∧ (Cond.static yX9_of).before args s = true)
  have hc_81 := (cwS 2 hts gX9_reasonNow_X9_reasonOf rfl rfl rfl (by decide +kernel) ⟨by rw [hR1]; exact Nat.le_of_ble_eq_true rfl, by rw [hR2]; exact Nat.le_of_ble_eq_true rfl⟩ : CallB R s args RX9 81 yX9_reasonOf cX9_reasonOf 3 (some .int) wsX9_reasonOf rmX9_reasonOf 0 0 2 ∧ (Cond.static yX9_reasonOf).before args s = true)
  unfold m9_reasonNow at hf
  refine lv_aload_n hx hb dX9_reasonNow_0 rfl (lv_at hl 0 rfl) ?_
  refine w_get hx hb hts iX9_reasonNow_X9 hown hP hK (by decide) emb_mm rfl 1 (by decide) hk_f7 rfl dX9_reasonNow_1 ?_
  refine lv_iload_n hx hb dX9_reasonNow_4 rfl (lv_at hl 1 rfl) ?_
  refine lv_iconst (v := 4) hx hb dX9_reasonNow_5 (by decide) ?_
  obtain ⟨x1, hc2, hf⟩ := ob1_e hf
  refine w_csi ⟨hx, hb, hml, hown, hts⟩ hP hK hS (by have hM := k9_of l hX AR_s (pmm w s0 u0 sv0 tx0 ow0 rs0 rn0 nu0 q0) hc2; simp only [pmm_s] at hM; exact hM) hc_42 rfl hl.1 rfl (Nat.le_of_ble_eq_true rfl) dX9_reasonNow_6 ⟨Nat.zero_le _, Nat.zero_le _⟩ (fun H locs hP hS => ?_)
  refine lv_if_ne (tgt := 23) hx hb dX9_reasonNow_9 (by decide) (fun h3 => ?_) (fun h3 => ?_)
  · rw [if_neg h3] at hf
    refine lv_iconst (v := (-1)) hx hb dX9_reasonNow_23 (by decide) ?_
    have hf := Option.some.inj hf
    obtain rfl := hf
    rw [hQ]
    exact w_iret hx hb hr hlocks hP hK hS dX9_reasonNow_24 rfl rfl
  · rw [if_pos h3] at hf
    refine lv_aload_n hx hb dX9_reasonNow_12 rfl (lv_at hl 0 rfl) ?_
    refine w_get hx hb hts iX9_reasonNow_X9 hown hP hK (by decide) emb_mm rfl 1 (by decide) hk_f7 rfl dX9_reasonNow_13 ?_
    refine lv_iload_n hx hb dX9_reasonNow_16 rfl (lv_at hl 1 rfl) ?_
    obtain ⟨x4, hc5, hf⟩ := ob1_e hf
    refine w_csi ⟨hx, hb, hml, hown, hts⟩ hP hK hS (by have hM := k9_reasonOf l hX AR_s (pmm w s0 u0 sv0 tx0 ow0 rs0 rn0 nu0 q0) hc5; simp only [pmm_s] at hM; exact hM) hc_81 rfl hl.1 rfl (Nat.le_of_ble_eq_true rfl) dX9_reasonNow_17 ⟨Nat.zero_le _, Nat.zero_le _⟩ (fun H locs hP hS => ?_)
    refine lv_goto (tgt := 24) hx hb dX9_reasonNow_20 (by decide) ?_
    have hf := Option.some.inj hf
    obtain rfl := hf
    rw [hQ]
    exact w_iret hx hb hr hlocks hP hK hS dX9_reasonNow_24 rfl rfl
abbrev rmX9_reason : Room := { frames := 5, cells := 0, slots := 0, locals := 112 }
theorem iX9_reason_X9 : ∀ w ∈ wsX90, w ∈ wsX9_reason := by decide +kernel
set_option maxHeartbeats 4000000 in
set_option maxRecDepth 100000 in
theorem k9_reason (l : Launch) {X : bkX} {b0 : Nat} (hX : XO X b0) (w : bkW) {N : Nat} {s0 : Nat → Int32} {u0 : Nat → Int32} {sv0 : Nat → Int32} {tx0 : Nat → Int32} {ow0 : Nat → Int32} {rs0 : Nat → Int64} {rn0 : Nat → Int32} {nu0 : Nat → Int32} {q0 : Nat → Int32} {a1 : Int32} {res9 : Int32} {q9 : Nat → Int32} (hf : m9_reason N s0 q0 a1 = some (res9, q9)) : cI l yX9_reason wsX9_reason rmX9_reason X b0 [.ref (xa X 314), .int a1] (pmm w s0 u0 sv0 tx0 ow0 rs0 rn0 nu0 q0) res9 (pmm w s0 u0 sv0 tx0 ow0 rs0 rn0 nu0 q9) := by
  refine Met.ofW (cc := cX9_reason) (maxL := 2) (ret := (some .int)) (by decide) rfl ?_
  intro p e s m args below meth c s₁ B hml hv
  obtain ⟨ha, hP, hK⟩ := hv
  have hx := B.exec
  have hb := B.bytes
  have hr := B.returns
  have hts := atoms_spec (ws := wsX9_reason) B.pre
  have hown : s.vm.findClass RX9 = some m.cls := findClass_of_methodNamed B.named
  have hlocks := B.notSynchronized
  obtain ⟨R, hR⟩ : ∃ R, R = (headSpec wsX9_reason rmX9_reason).room := ⟨_, rfl⟩
  rw [← hR]
  have hR1 : R.frames = 5 := by rw [hR]; rfl
  have hR2 : R.locals = 112 := by rw [hR]; rfl
  obtain ⟨Q, hQ⟩ : ∃ Q : State → Prop, Q = MQ below (va_Qi (fun r' (_ : Unit) => r' = res9) (fun _ t => WU X (pmm w s0 u0 sv0 tx0 ow0 rs0 rn0 nu0 q9) t) (xF b0)) args s 0 0 (xF b0) := ⟨_, rfl⟩
  rw [← hQ]
  have hS : va_S (xF b0) s.heap s.heap [] := va_S.rf
  have hl := lv_entry ([.ref (xa X 314), .int a1]) (n := 2) (Nat.le_of_ble_eq_true rfl)
  refine W.eq ((congrArg (fun z => entryFrame m z 2) ha).trans (lg_entry_eq m _ 2)) ?_
  generalize (lg_sl ([.ref (xa X 314), .int a1]) ++ List.replicate (2 - (lg_sl ([.ref (xa X 314), .int a1])).length) Slot.unset).toArray = ls at hl ⊢
  have hl : lv_has ls 2 [(0, .ref (xa X 314)), (1, .int a1)] := hl
  have hc_136 := (cwV 1 hts gX9_reason_X9_isDough rfl rfl rfl (by decide +kernel) ⟨by rw [hR1]; exact Nat.le_of_ble_eq_true rfl, by rw [hR2]; exact Nat.le_of_ble_eq_true rfl⟩ : CallW R s args RX9 RX9 136 yX9_isDough cX9_isDough 2 (some .boolean) wsX9_isDough rmX9_isDough 0 0 1)
  have hk_f35 := hts (.fieldLink RX9 35 "BakeTurnsModel" "thrown" "I") (by decide +kernel)
  have hc_204 := (cwV 1 hts gX9_reason_X9_reasonNow rfl rfl rfl (by decide +kernel) ⟨by rw [hR1]; exact Nat.le_of_ble_eq_true rfl, by rw [hR2]; exact Nat.le_of_ble_eq_true rfl⟩ : CallW R s args RX9 RX9 204 yX9_reasonNow cX9_reasonNow 2 (some .int) wsX9_reasonNow rmX9_reasonNow 0 0 1)
  unfold m9_reason at hf
  refine lv_aload_n hx hb dX9_reason_0 rfl (lv_at hl 0 rfl) ?_
  refine lv_aload_n hx hb dX9_reason_1 rfl (lv_at hl 0 rfl) ?_
  refine lv_iload_n hx hb dX9_reason_2 rfl (lv_at hl 1 rfl) ?_
  obtain ⟨x1, hc2, hf⟩ := ob1_e hf
  refine w_ci ⟨hx, hb, hml, hown, hts⟩ hP hK hS (k9_isDough l hX w hc2) hc_136 (w_recv hP hK (by decide) emb_mm rfl) rfl hl.1 rfl (Nat.le_of_ble_eq_true rfl) dX9_reason_3 ⟨Nat.zero_le _, Nat.zero_le _⟩ (fun H locs hP hS => ?_)
  obtain ⟨x4, ejK5, hf⟩ := lt1_e hf
  have K5 : ∀ (H : Heap) (locs : List Loc) (ls : Array Slot), HW X (pmm w s0 u0 sv0 tx0 ow0 rs0 rn0 nu0 q0) H → va_S (xF b0) s.heap H locs → lv_has ls 2 [(0, .ref (xa X 314)), (1, .int a1)] → W p l e R s m args below meth c H locs 0 0 Q (F0 m 14 ls [.int x4, .ref (xa X 314)]) := by
    intro H locs ls hP hS hl
    refine mm_put hx hb hts iX9_reason_X9 hown hX hP hK hS 0 (by decide) hk_f35 rfl rfl (Nat.le_of_ble_eq_true rfl) (mm_es0 _) dX9_reason_14 (fun q6 eq6 H locs hP hS => ?_)
    replace hf := ltn_s eq6 hf
    refine lv_aload_n hx hb dX9_reason_17 rfl (lv_at hl 0 rfl) ?_
    refine w_get hx hb hts iX9_reason_X9 hown hP hK (by decide) emb_mm rfl 0 (by decide) hk_f35 rfl dX9_reason_18 ?_
    refine lv_if_le (tgt := 28) hx hb dX9_reason_21 (by decide) (fun h7 => ?_) (fun h7 => ?_)
    · rw [if_pos h7] at hf
      refine lv_aload_n hx hb dX9_reason_28 rfl (lv_at hl 0 rfl) ?_
      refine lv_iload_n hx hb dX9_reason_29 rfl (lv_at hl 1 rfl) ?_
      obtain ⟨x8, hc9, hf⟩ := ob1_e hf
      refine w_ci ⟨hx, hb, hml, hown, hts⟩ hP hK hS (k9_reasonNow l hX w hc9) hc_204 (w_recv hP hK (by decide) emb_mm rfl) rfl hl.1 rfl (Nat.le_of_ble_eq_true rfl) dX9_reason_30 ⟨Nat.zero_le _, Nat.zero_le _⟩ (fun H locs hP hS => ?_)
      have hf := Option.some.inj hf
      simp only [Prod.mk.injEq] at hf
      obtain ⟨rfl, rfl⟩ := hf
      rw [hQ]
      exact w_iret hx hb hr hlocks hP hK hS dX9_reason_33 rfl rfl
    · rw [if_neg h7] at hf
      refine lv_iconst (v := 0) hx hb dX9_reason_24 (by decide) ?_
      refine lv_goto (tgt := 33) hx hb dX9_reason_25 (by decide) ?_
      have hf := Option.some.inj hf
      simp only [Prod.mk.injEq] at hf
      obtain ⟨rfl, rfl⟩ := hf
      rw [hQ]
      exact w_iret hx hb hr hlocks hP hK hS dX9_reason_33 rfl rfl
  clear hf
  refine lv_if_eq (tgt := 13) hx hb dX9_reason_6 (by decide) (fun h3 => ?_) (fun h3 => ?_)
  · rw [if_pos h3] at ejK5
    refine lv_iconst (v := 1) hx hb dX9_reason_13 (by decide) ?_
    obtain rfl := ejK5
    exact K5 _ _ _ hP hS (lv_sub hl [0, 1] rfl)
  · rw [if_neg h3] at ejK5
    refine lv_iconst (v := 0) hx hb dX9_reason_9 (by decide) ?_
    refine lv_goto (tgt := 14) hx hb dX9_reason_10 (by decide) ?_
    obtain rfl := ejK5
    exact K5 _ _ _ hP hS (lv_sub hl [0, 1] rfl)
abbrev rmX9_tryNow : Room := { frames := 0, cells := 0, slots := 0, locals := 0 }
theorem iX9_tryNow_X9 : ∀ w ∈ wsX90, w ∈ wsX9_tryNow := by decide +kernel
set_option maxHeartbeats 4000000 in
set_option maxRecDepth 100000 in
theorem k9_tryNow (l : Launch) {X : bkX} {b0 : Nat} (hX : XO X b0) (w : bkW) {N : Nat} {s0 : Nat → Int32} {u0 : Nat → Int32} {sv0 : Nat → Int32} {tx0 : Nat → Int32} {ow0 : Nat → Int32} {rs0 : Nat → Int64} {rn0 : Nat → Int32} {nu0 : Nat → Int32} {q0 : Nat → Int32} {u9 : Nat → Int32} (hf : m9_tryNow N s0 u0 = some u9) : cV l yX9_tryNow wsX9_tryNow rmX9_tryNow X b0 [.ref (xa X 314)] (pmm w s0 u0 sv0 tx0 ow0 rs0 rn0 nu0 q0) (pmm w s0 u9 sv0 tx0 ow0 rs0 rn0 nu0 q0) := by
  refine Met.ofW (cc := cX9_tryNow) (maxL := 2) (ret := none) (by decide) rfl ?_
  intro p e s m args below meth c s₁ B hml hv
  obtain ⟨ha, hP, hK⟩ := hv
  have hx := B.exec
  have hb := B.bytes
  have hr := B.returns
  have hts := atoms_spec (ws := wsX9_tryNow) B.pre
  have hown : s.vm.findClass RX9 = some m.cls := findClass_of_methodNamed B.named
  have hlocks := B.notSynchronized
  obtain ⟨R, hR⟩ : ∃ R, R = (headSpec wsX9_tryNow rmX9_tryNow).room := ⟨_, rfl⟩
  rw [← hR]
  have hR1 : R.frames = 0 := by rw [hR]; rfl
  have hR2 : R.locals = 0 := by rw [hR]; rfl
  obtain ⟨Q, hQ⟩ : ∃ Q : State → Prop, Q = MQ below (va_Qv (fun (_ : Unit) => True) (fun _ t => WU X (pmm w s0 u9 sv0 tx0 ow0 rs0 rn0 nu0 q0) t) (xF b0)) args s 0 0 (xF b0) := ⟨_, rfl⟩
  rw [← hQ]
  have hS : va_S (xF b0) s.heap s.heap [] := va_S.rf
  have hl := lv_entry ([.ref (xa X 314)]) (n := 2) (Nat.le_of_ble_eq_true rfl)
  refine W.eq ((congrArg (fun z => entryFrame m z 2) ha).trans (lg_entry_eq m _ 2)) ?_
  generalize (lg_sl ([.ref (xa X 314)]) ++ List.replicate (2 - (lg_sl ([.ref (xa X 314)])).length) Slot.unset).toArray = ls at hl ⊢
  have hl : lv_has ls 2 [(0, .ref (xa X 314))] := hl
  have hk_f13 := hts (.fieldLink RX9 13 "BakeTurnsModel" "w" "[I") (by decide +kernel)
  have hk_f7 := hts (.fieldLink RX9 7 "BakeTurnsModel" "s" "[I") (by decide +kernel)
  unfold m9_tryNow at hf
  refine lv_iconst (v := 0) hx hb dX9_tryNow_0 (by decide) ?_
  refine lv_istore_n (lv' := [(1, .int 0), (0, .ref (xa X 314))]) hx hb dX9_tryNow_1 rfl hl (by decide) rfl (fun ls hl => ?_)
  have L2 : ∀ (n : Nat) (x2 : Int32) (u3 : Nat → Int32) (ou4 : Nat → Int32) (H : Heap) (locs : List Loc) (ls : Array Slot), m9_tryNow_L2 N n x2 s0 u3 = some ou4 → HW X (pmm w s0 u3 sv0 tx0 ow0 rs0 rn0 nu0 q0) H → va_S (xF b0) s.heap H locs → lv_has ls 2 [(0, .ref (xa X 314)), (1, .int x2)] → (∀ (H1 : Heap) (locs1 : List Loc) (ls1 : Array Slot), HW X (pmm w s0 ou4 sv0 tx0 ow0 rs0 rn0 nu0 q0) H1 → va_S (xF b0) s.heap H1 locs1 → lv_has ls1 2 [] → W p l e R s m args below meth c H1 locs1 0 0 Q (F0 m 27 ls1 [])) → W p l e R s m args below meth c H locs 0 0 Q (F0 m 2 ls []) := by
    intro n; induction n with
    | zero => intro x2 u3 ou4 H locs ls hf; rw [m9_tryNow_L2] at hf; cases hf
    | succ n ih =>
      intro x2 u3 ou4 H locs ls hf hP hS hl K
      rw [m9_tryNow_L2] at hf
      refine lv_iload_n hx hb dX9_tryNow_2 rfl (lv_at hl 1 rfl) ?_
      refine lv_sipush (v := 265) hx hb dX9_tryNow_3 (by decide) ?_
      refine lv_icmp_ge (tgt := 27) hx hb dX9_tryNow_6 (by decide) (fun h5 => ?_) (fun h5 => ?_)
      · rw [if_pos h5] at hf
        have hf := Option.some.inj hf
        obtain rfl := hf
        exact K _ _ _ hP hS (lv_sub hl [] rfl)
      · rw [if_neg h5] at hf
        refine lv_aload_n hx hb dX9_tryNow_9 rfl (lv_at hl 0 rfl) ?_
        refine w_get hx hb hts iX9_tryNow_X9 hown hP hK (by decide) emb_mm rfl 2 (by decide) hk_f13 rfl dX9_tryNow_10 ?_
        refine lv_iload_n hx hb dX9_tryNow_13 rfl (lv_at hl 1 rfl) ?_
        refine lv_aload_n hx hb dX9_tryNow_14 rfl (lv_at hl 0 rfl) ?_
        refine w_get hx hb hts iX9_tryNow_X9 hown hP hK (by decide) emb_mm rfl 1 (by decide) hk_f7 rfl dX9_tryNow_15 ?_
        refine lv_iload_n hx hb dX9_tryNow_18 rfl (lv_at hl 1 rfl) ?_
        obtain ⟨hin6, hf⟩ := ck_e hf
        refine ar_ald (g := s0) hx hb AR_s rfl hP hK hin6 dX9_tryNow_19 ?_
        obtain ⟨hin7, hf⟩ := ck_e hf
        refine ar_ast (g := u3) hx hb hX AR_u rfl (fun z => pmm w s0 z sv0 tx0 ow0 rs0 rn0 nu0 q0) (fun z => pmm_u) hP hK hS hin7 dX9_tryNow_20 (fun u8 eu8 H locs hP hS => ?_)
        replace hf := ltn_s eu8 hf
        obtain ⟨x9, ex9⟩ : ∃ y : Int32, y = x2 + 1 := ⟨_, rfl⟩
        replace hf := ltn_s ex9 hf
        refine lv_iinc (v := x9) (lv' := [(1, .int x9), (0, .ref (xa X 314))]) hx hb dX9_tryNow_21 hl (k := 1) rfl (by rw [ex9]; rfl) (by decide) rfl (fun ls hl => ?_)
        refine lv_goto (tgt := 2) hx hb dX9_tryNow_24 (by decide) ?_
        exact ih x9 u8 ou4 _ _ _ hf hP hS (lv_sub hl [1, 0] rfl) K
  obtain ⟨u10, hc11, hf⟩ := ob1_e hf
  refine L2 N 0 u0 u10 _ _ _ hc11 hP hS (lv_sub hl [1, 0] rfl) (fun H locs ls hP hS hl => ?_)
  have hf := Option.some.inj hf
  obtain rfl := hf
  rw [hQ]
  exact w_vret hx hb hr hlocks hP hK hS dX9_tryNow_27 rfl
abbrev rmX9_loadedIn : Room := { frames := 6, cells := 0, slots := 0, locals := 139 }
theorem iX9_loadedIn_X9 : ∀ w ∈ wsX90, w ∈ wsX9_loadedIn := by decide +kernel
set_option maxHeartbeats 4000000 in
set_option maxRecDepth 100000 in
theorem k9_loadedIn (l : Launch) {X : bkX} {b0 : Nat} (hX : XO X b0) (w : bkW) {N : Nat} {s0 : Nat → Int32} {u0 : Nat → Int32} {sv0 : Nat → Int32} {tx0 : Nat → Int32} {ow0 : Nat → Int32} {rs0 : Nat → Int64} {rn0 : Nat → Int32} {nu0 : Nat → Int32} {q0 : Nat → Int32} {a1 : Int32} {res9 : Int32} {u9 : Nat → Int32} {q9 : Nat → Int32} (hf : m9_loadedIn N s0 u0 q0 a1 = some (res9, u9, q9)) : cI l yX9_loadedIn wsX9_loadedIn rmX9_loadedIn X b0 [.ref (xa X 314), .int a1] (pmm w s0 u0 sv0 tx0 ow0 rs0 rn0 nu0 q0) res9 (pmm w s0 u9 sv0 tx0 ow0 rs0 rn0 nu0 q9) := by
  refine Met.ofW (cc := cX9_loadedIn) (maxL := 4) (ret := (some .int)) (by decide) rfl ?_
  intro p e s m args below meth c s₁ B hml hv
  obtain ⟨ha, hP, hK⟩ := hv
  have hx := B.exec
  have hb := B.bytes
  have hr := B.returns
  have hts := atoms_spec (ws := wsX9_loadedIn) B.pre
  have hown : s.vm.findClass RX9 = some m.cls := findClass_of_methodNamed B.named
  have hlocks := B.notSynchronized
  obtain ⟨R, hR⟩ : ∃ R, R = (headSpec wsX9_loadedIn rmX9_loadedIn).room := ⟨_, rfl⟩
  rw [← hR]
  have hR1 : R.frames = 6 := by rw [hR]; rfl
  have hR2 : R.locals = 139 := by rw [hR]; rfl
  obtain ⟨Q, hQ⟩ : ∃ Q : State → Prop, Q = MQ below (va_Qi (fun r' (_ : Unit) => r' = res9) (fun _ t => WU X (pmm w s0 u9 sv0 tx0 ow0 rs0 rn0 nu0 q9) t) (xF b0)) args s 0 0 (xF b0) := ⟨_, rfl⟩
  rw [← hQ]
  have hS : va_S (xF b0) s.heap s.heap [] := va_S.rf
  have hl := lv_entry ([.ref (xa X 314), .int a1]) (n := 4) (Nat.le_of_ble_eq_true rfl)
  refine W.eq ((congrArg (fun z => entryFrame m z 4) ha).trans (lg_entry_eq m _ 4)) ?_
  generalize (lg_sl ([.ref (xa X 314), .int a1]) ++ List.replicate (4 - (lg_sl ([.ref (xa X 314), .int a1])).length) Slot.unset).toArray = ls at hl ⊢
  have hl : lv_has ls 4 [(0, .ref (xa X 314)), (1, .int a1)] := hl
  have hc_136 := (cwV 1 hts gX9_loadedIn_X9_isDough rfl rfl rfl (by decide +kernel) ⟨by rw [hR1]; exact Nat.le_of_ble_eq_true rfl, by rw [hR2]; exact Nat.le_of_ble_eq_true rfl⟩ : CallW R s args RX9 RX9 136 yX9_isDough cX9_isDough 2 (some .boolean) wsX9_isDough rmX9_isDough 0 0 1)
  have hk_f35 := hts (.fieldLink RX9 35 "BakeTurnsModel" "thrown" "I") (by decide +kernel)
  have hc_207 := (cwV 0 hts gX9_loadedIn_X9_tryNow rfl rfl rfl (by decide +kernel) ⟨by rw [hR1]; exact Nat.le_of_ble_eq_true rfl, by rw [hR2]; exact Nat.le_of_ble_eq_true rfl⟩ : CallW R s args RX9 RX9 207 yX9_tryNow cX9_tryNow 2 none wsX9_tryNow rmX9_tryNow 0 0 0)
  have hk_f13 := hts (.fieldLink RX9 13 "BakeTurnsModel" "w" "[I") (by decide +kernel)
  have hc_42 := (cwS 3 hts gX9_loadedIn_X9_of rfl rfl rfl (by decide +kernel) ⟨by rw [hR1]; exact Nat.le_of_ble_eq_true rfl, by rw [hR2]; exact Nat.le_of_ble_eq_true rfl⟩ : CallB R s args RX9 42 yX9_of cX9_of 3 (some .int) wsX9_of rmX9_of 0 0 3 ∧ (Cond.static yX9_of).before args s = true)
  have hc_105 := (cwS 1 hts gX9_loadedIn_X9_tick rfl rfl rfl (by decide +kernel) ⟨by rw [hR1]; exact Nat.le_of_ble_eq_true rfl, by rw [hR2]; exact Nat.le_of_ble_eq_true rfl⟩ : CallB R s args RX9 105 yX9_tick cX9_tick 5 (some .int) wsX9_tick rmX9_tick 0 0 1 ∧ (Cond.static yX9_tick).before args s = true)
  unfold m9_loadedIn at hf
  refine lv_aload_n hx hb dX9_loadedIn_0 rfl (lv_at hl 0 rfl) ?_
  refine lv_aload_n hx hb dX9_loadedIn_1 rfl (lv_at hl 0 rfl) ?_
  refine lv_iload_n hx hb dX9_loadedIn_2 rfl (lv_at hl 1 rfl) ?_
  obtain ⟨x1, hc2, hf⟩ := ob1_e hf
  refine w_ci ⟨hx, hb, hml, hown, hts⟩ hP hK hS (k9_isDough l hX w hc2) hc_136 (w_recv hP hK (by decide) emb_mm rfl) rfl hl.1 rfl (Nat.le_of_ble_eq_true rfl) dX9_loadedIn_3 ⟨Nat.zero_le _, Nat.zero_le _⟩ (fun H locs hP hS => ?_)
  obtain ⟨x4, ejK5, hf⟩ := lt1_e hf
  have K5 : ∀ (H : Heap) (locs : List Loc) (ls : Array Slot), HW X (pmm w s0 u0 sv0 tx0 ow0 rs0 rn0 nu0 q0) H → va_S (xF b0) s.heap H locs → lv_has ls 4 [(0, .ref (xa X 314)), (1, .int a1)] → W p l e R s m args below meth c H locs 0 0 Q (F0 m 14 ls [.int x4, .ref (xa X 314)]) := by
    intro H locs ls hP hS hl
    refine mm_put hx hb hts iX9_loadedIn_X9 hown hX hP hK hS 0 (by decide) hk_f35 rfl rfl (Nat.le_of_ble_eq_true rfl) (mm_es0 _) dX9_loadedIn_14 (fun q6 eq6 H locs hP hS => ?_)
    replace hf := ltn_s eq6 hf
    refine lv_aload_n hx hb dX9_loadedIn_17 rfl (lv_at hl 0 rfl) ?_
    refine w_get hx hb hts iX9_loadedIn_X9 hown hP hK (by decide) emb_mm rfl 0 (by decide) hk_f35 rfl dX9_loadedIn_18 ?_
    refine lv_if_le (tgt := 26) hx hb dX9_loadedIn_21 (by decide) (fun h7 => ?_) (fun h7 => ?_)
    · rw [if_pos h7] at hf
      refine lv_aload_n hx hb dX9_loadedIn_26 rfl (lv_at hl 0 rfl) ?_
      obtain ⟨u8, hc9, hf⟩ := ob1_e hf
      refine w_cv ⟨hx, hb, hml, hown, hts⟩ hP hK hS (k9_tryNow l hX w hc9) hc_207 (w_recv hP hK (by decide) emb_mm rfl) rfl hl.1 rfl (Nat.le_of_ble_eq_true rfl) dX9_loadedIn_27 ⟨Nat.zero_le _, Nat.zero_le _⟩ (fun H locs hP hS => ?_)
      refine lv_iconst (v := 1) hx hb dX9_loadedIn_30 (by decide) ?_
      refine lv_istore_n (lv' := [(2, .int 1), (0, .ref (xa X 314)), (1, .int a1)]) hx hb dX9_loadedIn_31 rfl hl (by decide) rfl (fun ls hl => ?_)
      have L32 : ∀ (n : Nat) (x11 : Int32) (x12 : Int32) (u13 : Nat → Int32) (H : Heap) (locs : List Loc) (ls : Array Slot), m9_loadedIn_L32 N n x11 x12 u13 q6 = some (res9, u9, q9) → HW X (pmm w s0 u13 sv0 tx0 ow0 rs0 rn0 nu0 q6) H → va_S (xF b0) s.heap H locs → lv_has ls 4 [(0, .ref (xa X 314)), (1, .int x11), (2, .int x12)] → W p l e R s m args below meth c H locs 0 0 Q (F0 m 32 ls []) := by
        intro n; induction n with
        | zero => intro x11 x12 u13 H locs ls hf; rw [m9_loadedIn_L32] at hf; cases hf
        | succ n ih =>
          intro x11 x12 u13 H locs ls hf hP hS hl
          rw [m9_loadedIn_L32] at hf
          refine lv_iload_n hx hb dX9_loadedIn_32 rfl (lv_at hl 2 rfl) ?_
          refine lv_bipush (v := 60) hx hb dX9_loadedIn_33 (by decide) ?_
          refine lv_icmp_gt (tgt := 80) hx hb dX9_loadedIn_35 (by decide) (fun h14 => ?_) (fun h14 => ?_)
          · rw [if_pos h14] at hf
            refine lv_iconst (v := (-1)) hx hb dX9_loadedIn_80 (by decide) ?_
            have hf := Option.some.inj hf
            simp only [Prod.mk.injEq] at hf
            obtain ⟨rfl, rfl, rfl⟩ := hf
            rw [hQ]
            exact w_iret hx hb hr hlocks hP hK hS dX9_loadedIn_81 rfl rfl
          · rw [if_neg h14] at hf
            refine lv_aload_n hx hb dX9_loadedIn_38 rfl (lv_at hl 0 rfl) ?_
            refine w_get hx hb hts iX9_loadedIn_X9 hown hP hK (by decide) emb_mm rfl 2 (by decide) hk_f13 rfl dX9_loadedIn_39 ?_
            refine lv_iload_n hx hb dX9_loadedIn_42 rfl (lv_at hl 1 rfl) ?_
            refine lv_iconst (v := 4) hx hb dX9_loadedIn_43 (by decide) ?_
            obtain ⟨x15, hc16, hf⟩ := ob1_e hf
            refine w_csi ⟨hx, hb, hml, hown, hts⟩ hP hK hS (by have hM := k9_of l hX AR_u (pmm w s0 u13 sv0 tx0 ow0 rs0 rn0 nu0 q6) hc16; simp only [pmm_u] at hM; exact hM) hc_42 rfl hl.1 rfl (Nat.le_of_ble_eq_true rfl) dX9_loadedIn_44 ⟨Nat.zero_le _, Nat.zero_le _⟩ (fun H locs hP hS => ?_)
            refine lv_if_ne (tgt := 80) hx hb dX9_loadedIn_47 (by decide) (fun h17 => ?_) (fun h17 => ?_)
            · rw [if_neg h17] at hf
              refine lv_iconst (v := (-1)) hx hb dX9_loadedIn_80 (by decide) ?_
              have hf := Option.some.inj hf
              simp only [Prod.mk.injEq] at hf
              obtain ⟨rfl, rfl, rfl⟩ := hf
              rw [hQ]
              exact w_iret hx hb hr hlocks hP hK hS dX9_loadedIn_81 rfl rfl
            · rw [if_pos h17] at hf
              refine lv_aload_n hx hb dX9_loadedIn_50 rfl (lv_at hl 0 rfl) ?_
              refine w_get hx hb hts iX9_loadedIn_X9 hown hP hK (by decide) emb_mm rfl 2 (by decide) hk_f13 rfl dX9_loadedIn_51 ?_
              obtain ⟨x18, u19, hc20, hf⟩ := ob2_e hf
              refine w_csi ⟨hx, hb, hml, hown, hts⟩ hP hK hS (by have hM := k9_tick l hX AR_u (pmm w s0 u13 sv0 tx0 ow0 rs0 rn0 nu0 q6) hc20; simp only [pmm_u] at hM; exact hM) hc_105 rfl hl.1 rfl (Nat.le_of_ble_eq_true rfl) dX9_loadedIn_54 ⟨Nat.zero_le _, Nat.zero_le _⟩ (fun H locs hP hS => ?_)
              refine lv_istore_n (lv' := [(3, .int x18), (0, .ref (xa X 314)), (1, .int x11), (2, .int x12)]) hx hb dX9_loadedIn_57 rfl hl (by decide) rfl (fun ls hl => ?_)
              refine lv_aload_n hx hb dX9_loadedIn_58 rfl (lv_at hl 1 rfl) ?_
              refine w_get hx hb hts iX9_loadedIn_X9 hown hP hK (by decide) emb_mm rfl 2 (by decide) hk_f13 rfl dX9_loadedIn_59 ?_
              refine lv_iload_n hx hb dX9_loadedIn_62 rfl (lv_at hl 2 rfl) ?_
              refine lv_bipush (v := 6) hx hb dX9_loadedIn_63 (by decide) ?_
              obtain ⟨x21, hc22, hf⟩ := ob1_e hf
              refine w_csi ⟨hx, hb, hml, hown, hts⟩ hP hK hS (by have hM := k9_of l hX AR_u (pmm w s0 u19 sv0 tx0 ow0 rs0 rn0 nu0 q6) hc22; simp only [pmm_u] at hM; exact hM) hc_42 rfl hl.1 rfl (Nat.le_of_ble_eq_true rfl) dX9_loadedIn_65 ⟨Nat.zero_le _, Nat.zero_le _⟩ (fun H locs hP hS => ?_)
              refine lv_iconst (v := (-1)) hx hb dX9_loadedIn_68 (by decide) ?_
              refine lv_icmp_eq (tgt := 74) hx hb dX9_loadedIn_69 (by decide) (fun h23 => ?_) (fun h23 => ?_)
              · rw [if_pos h23] at hf
                obtain ⟨x24, ex24⟩ : ∃ y : Int32, y = x12 + 1 := ⟨_, rfl⟩
                replace hf := ltn_s ex24 hf
                refine lv_iinc (v := x24) (lv' := [(2, .int x24), (3, .int x18), (0, .ref (xa X 314)), (1, .int x11)]) hx hb dX9_loadedIn_74 hl (k := 3) rfl (by rw [ex24]; rfl) (by decide) rfl (fun ls hl => ?_)
                refine lv_goto (tgt := 32) hx hb dX9_loadedIn_77 (by decide) ?_
                exact ih x11 x24 u19  _ _ _ hf hP hS (lv_sub hl [2, 3, 0] rfl)
              · rw [if_neg h23] at hf
                refine lv_iload_n hx hb dX9_loadedIn_72 rfl (lv_at hl 3 rfl) ?_
                have hf := Option.some.inj hf
                simp only [Prod.mk.injEq] at hf
                obtain ⟨rfl, rfl, rfl⟩ := hf
                rw [hQ]
                exact w_iret hx hb hr hlocks hP hK hS dX9_loadedIn_73 rfl rfl
      exact L32 N a1 1 u8 _ _ _ hf hP hS (lv_sub hl [1, 2, 0] rfl)
    · rw [if_neg h7] at hf
      refine lv_iconst (v := 0) hx hb dX9_loadedIn_24 (by decide) ?_
      have hf := Option.some.inj hf
      simp only [Prod.mk.injEq] at hf
      obtain ⟨rfl, rfl, rfl⟩ := hf
      rw [hQ]
      exact w_iret hx hb hr hlocks hP hK hS dX9_loadedIn_25 rfl rfl
  clear hf
  refine lv_if_eq (tgt := 13) hx hb dX9_loadedIn_6 (by decide) (fun h3 => ?_) (fun h3 => ?_)
  · rw [if_pos h3] at ejK5
    refine lv_iconst (v := 1) hx hb dX9_loadedIn_13 (by decide) ?_
    obtain rfl := ejK5
    exact K5 _ _ _ hP hS (lv_sub hl [0, 1] rfl)
  · rw [if_neg h3] at ejK5
    refine lv_iconst (v := 0) hx hb dX9_loadedIn_9 (by decide) ?_
    refine lv_goto (tgt := 14) hx hb dX9_loadedIn_10 (by decide) ?_
    obtain rfl := ejK5
    exact K5 _ _ _ hP hS (lv_sub hl [0, 1] rfl)
abbrev rmX9_neededLogs : Room := { frames := 4, cells := 0, slots := 0, locals := 91 }
theorem iX9_neededLogs_X9 : ∀ w ∈ wsX90, w ∈ wsX9_neededLogs := by decide +kernel
set_option maxHeartbeats 4000000 in
set_option maxRecDepth 100000 in
theorem k9_neededLogs (l : Launch) {X : bkX} {b0 : Nat} (hX : XO X b0) (w : bkW) {N : Nat} {s0 : Nat → Int32} {u0 : Nat → Int32} {sv0 : Nat → Int32} {tx0 : Nat → Int32} {ow0 : Nat → Int32} {rs0 : Nat → Int64} {rn0 : Nat → Int32} {nu0 : Nat → Int32} {q0 : Nat → Int32} {a1 : Int32} {res9 : Int32} {u9 : Nat → Int32} {q9 : Nat → Int32} (hf : m9_neededLogs N s0 u0 q0 a1 = some (res9, u9, q9)) : cI l yX9_neededLogs wsX9_neededLogs rmX9_neededLogs X b0 [.ref (xa X 314), .int a1] (pmm w s0 u0 sv0 tx0 ow0 rs0 rn0 nu0 q0) res9 (pmm w s0 u9 sv0 tx0 ow0 rs0 rn0 nu0 q9) := by
  refine Met.ofW (cc := cX9_neededLogs) (maxL := 3) (ret := (some .int)) (by decide) rfl ?_
  intro p e s m args below meth c s₁ B hml hv
  obtain ⟨ha, hP, hK⟩ := hv
  have hx := B.exec
  have hb := B.bytes
  have hr := B.returns
  have hts := atoms_spec (ws := wsX9_neededLogs) B.pre
  have hown : s.vm.findClass RX9 = some m.cls := findClass_of_methodNamed B.named
  have hlocks := B.notSynchronized
  obtain ⟨R, hR⟩ : ∃ R, R = (headSpec wsX9_neededLogs rmX9_neededLogs).room := ⟨_, rfl⟩
  rw [← hR]
  have hR1 : R.frames = 4 := by rw [hR]; rfl
  have hR2 : R.locals = 91 := by rw [hR]; rfl
  obtain ⟨Q, hQ⟩ : ∃ Q : State → Prop, Q = MQ below (va_Qi (fun r' (_ : Unit) => r' = res9) (fun _ t => WU X (pmm w s0 u9 sv0 tx0 ow0 rs0 rn0 nu0 q9) t) (xF b0)) args s 0 0 (xF b0) := ⟨_, rfl⟩
  rw [← hQ]
  have hS : va_S (xF b0) s.heap s.heap [] := va_S.rf
  have hl := lv_entry ([.ref (xa X 314), .int a1]) (n := 3) (Nat.le_of_ble_eq_true rfl)
  refine W.eq ((congrArg (fun z => entryFrame m z 3) ha).trans (lg_entry_eq m _ 3)) ?_
  generalize (lg_sl ([.ref (xa X 314), .int a1]) ++ List.replicate (3 - (lg_sl ([.ref (xa X 314), .int a1])).length) Slot.unset).toArray = ls at hl ⊢
  have hl : lv_has ls 3 [(0, .ref (xa X 314)), (1, .int a1)] := hl
  have hc_136 := (cwV 1 hts gX9_neededLogs_X9_isDough rfl rfl rfl (by decide +kernel) ⟨by rw [hR1]; exact Nat.le_of_ble_eq_true rfl, by rw [hR2]; exact Nat.le_of_ble_eq_true rfl⟩ : CallW R s args RX9 RX9 136 yX9_isDough cX9_isDough 2 (some .boolean) wsX9_isDough rmX9_isDough 0 0 1)
  have hk_f35 := hts (.fieldLink RX9 35 "BakeTurnsModel" "thrown" "I") (by decide +kernel)
  have hk_f7 := hts (.fieldLink RX9 7 "BakeTurnsModel" "s" "[I") (by decide +kernel)
  have hc_42 := (cwS 3 hts gX9_neededLogs_X9_of rfl rfl rfl (by decide +kernel) ⟨by rw [hR1]; exact Nat.le_of_ble_eq_true rfl, by rw [hR2]; exact Nat.le_of_ble_eq_true rfl⟩ : CallB R s args RX9 42 yX9_of cX9_of 3 (some .int) wsX9_of rmX9_of 0 0 3 ∧ (Cond.static yX9_of).before args s = true)
  have hc_207 := (cwV 0 hts gX9_neededLogs_X9_tryNow rfl rfl rfl (by decide +kernel) ⟨by rw [hR1]; exact Nat.le_of_ble_eq_true rfl, by rw [hR2]; exact Nat.le_of_ble_eq_true rfl⟩ : CallW R s args RX9 RX9 207 yX9_tryNow cX9_tryNow 2 none wsX9_tryNow rmX9_tryNow 0 0 0)
  have hk_f13 := hts (.fieldLink RX9 13 "BakeTurnsModel" "w" "[I") (by decide +kernel)
  have hc_81 := (cwS 2 hts gX9_neededLogs_X9_reasonOf rfl rfl rfl (by decide +kernel) ⟨by rw [hR1]; exact Nat.le_of_ble_eq_true rfl, by rw [hR2]; exact Nat.le_of_ble_eq_true rfl⟩ : CallB R s args RX9 81 yX9_reasonOf cX9_reasonOf 3 (some .int) wsX9_reasonOf rmX9_reasonOf 0 0 2 ∧ (Cond.static yX9_reasonOf).before args s = true)
  unfold m9_neededLogs at hf
  refine lv_aload_n hx hb dX9_neededLogs_0 rfl (lv_at hl 0 rfl) ?_
  refine lv_aload_n hx hb dX9_neededLogs_1 rfl (lv_at hl 0 rfl) ?_
  refine lv_iload_n hx hb dX9_neededLogs_2 rfl (lv_at hl 1 rfl) ?_
  obtain ⟨x1, hc2, hf⟩ := ob1_e hf
  refine w_ci ⟨hx, hb, hml, hown, hts⟩ hP hK hS (k9_isDough l hX w hc2) hc_136 (w_recv hP hK (by decide) emb_mm rfl) rfl hl.1 rfl (Nat.le_of_ble_eq_true rfl) dX9_neededLogs_3 ⟨Nat.zero_le _, Nat.zero_le _⟩ (fun H locs hP hS => ?_)
  obtain ⟨x4, ejK5, hf⟩ := lt1_e hf
  have K5 : ∀ (H : Heap) (locs : List Loc) (ls : Array Slot), HW X (pmm w s0 u0 sv0 tx0 ow0 rs0 rn0 nu0 q0) H → va_S (xF b0) s.heap H locs → lv_has ls 3 [(0, .ref (xa X 314)), (1, .int a1)] → W p l e R s m args below meth c H locs 0 0 Q (F0 m 14 ls [.int x4, .ref (xa X 314)]) := by
    intro H locs ls hP hS hl
    refine mm_put hx hb hts iX9_neededLogs_X9 hown hX hP hK hS 0 (by decide) hk_f35 rfl rfl (Nat.le_of_ble_eq_true rfl) (mm_es0 _) dX9_neededLogs_14 (fun q6 eq6 H locs hP hS => ?_)
    replace hf := ltn_s eq6 hf
    refine lv_aload_n hx hb dX9_neededLogs_17 rfl (lv_at hl 0 rfl) ?_
    refine w_get hx hb hts iX9_neededLogs_X9 hown hP hK (by decide) emb_mm rfl 0 (by decide) hk_f35 rfl dX9_neededLogs_18 ?_
    refine lv_if_gt (tgt := 36) hx hb dX9_neededLogs_21 (by decide) (fun h7 => ?_) (fun h7 => ?_)
    · rw [if_pos h7] at hf
      refine lv_aload_n hx hb dX9_neededLogs_36 rfl (lv_at hl 0 rfl) ?_
      refine w_get hx hb hts iX9_neededLogs_X9 hown hP hK (by decide) emb_mm rfl 0 (by decide) hk_f35 rfl dX9_neededLogs_37 ?_
      refine lv_if_le (tgt := 47) hx hb dX9_neededLogs_40 (by decide) (fun h8 => ?_) (fun h8 => ?_)
      · rw [if_pos h8] at hf
        refine lv_iconst (v := (-1)) hx hb dX9_neededLogs_47 (by decide) ?_
        have hf := Option.some.inj hf
        simp only [Prod.mk.injEq] at hf
        obtain ⟨rfl, rfl, rfl⟩ := hf
        rw [hQ]
        exact w_iret hx hb hr hlocks hP hK hS dX9_neededLogs_48 rfl rfl
      · rw [if_neg h8] at hf
        refine lv_iconst (v := 0) hx hb dX9_neededLogs_43 (by decide) ?_
        refine lv_goto (tgt := 48) hx hb dX9_neededLogs_44 (by decide) ?_
        have hf := Option.some.inj hf
        simp only [Prod.mk.injEq] at hf
        obtain ⟨rfl, rfl, rfl⟩ := hf
        rw [hQ]
        exact w_iret hx hb hr hlocks hP hK hS dX9_neededLogs_48 rfl rfl
    · rw [if_neg h7] at hf
      refine lv_aload_n hx hb dX9_neededLogs_24 rfl (lv_at hl 0 rfl) ?_
      refine w_get hx hb hts iX9_neededLogs_X9 hown hP hK (by decide) emb_mm rfl 1 (by decide) hk_f7 rfl dX9_neededLogs_25 ?_
      refine lv_iload_n hx hb dX9_neededLogs_28 rfl (lv_at hl 1 rfl) ?_
      refine lv_iconst (v := 4) hx hb dX9_neededLogs_29 (by decide) ?_
      obtain ⟨x9, hc10, hf⟩ := ob1_e hf
      refine w_csi ⟨hx, hb, hml, hown, hts⟩ hP hK hS (by have hM := k9_of l hX AR_s (pmm w s0 u0 sv0 tx0 ow0 rs0 rn0 nu0 q6) hc10; simp only [pmm_s] at hM; exact hM) hc_42 rfl hl.1 rfl (Nat.le_of_ble_eq_true rfl) dX9_neededLogs_30 ⟨Nat.zero_le _, Nat.zero_le _⟩ (fun H locs hP hS => ?_)
      refine lv_if_eq (tgt := 49) hx hb dX9_neededLogs_33 (by decide) (fun h11 => ?_) (fun h11 => ?_)
      · rw [if_pos h11] at hf
        refine lv_aload_n hx hb dX9_neededLogs_49 rfl (lv_at hl 0 rfl) ?_
        obtain ⟨u12, hc13, hf⟩ := ob1_e hf
        refine w_cv ⟨hx, hb, hml, hown, hts⟩ hP hK hS (k9_tryNow l hX w hc13) hc_207 (w_recv hP hK (by decide) emb_mm rfl) rfl hl.1 rfl (Nat.le_of_ble_eq_true rfl) dX9_neededLogs_50 ⟨Nat.zero_le _, Nat.zero_le _⟩ (fun H locs hP hS => ?_)
        refine lv_iconst (v := 0) hx hb dX9_neededLogs_53 (by decide) ?_
        refine lv_istore_n (lv' := [(2, .int 0), (0, .ref (xa X 314)), (1, .int a1)]) hx hb dX9_neededLogs_54 rfl hl (by decide) rfl (fun ls hl => ?_)
        have L55 : ∀ (n : Nat) (x15 : Int32) (x16 : Int32) (u17 : Nat → Int32) (H : Heap) (locs : List Loc) (ls : Array Slot), m9_neededLogs_L55 N n x15 x16 s0 u17 q6 = some (res9, u9, q9) → HW X (pmm w s0 u17 sv0 tx0 ow0 rs0 rn0 nu0 q6) H → va_S (xF b0) s.heap H locs → lv_has ls 3 [(0, .ref (xa X 314)), (1, .int x15), (2, .int x16)] → W p l e R s m args below meth c H locs 0 0 Q (F0 m 55 ls []) := by
          intro n; induction n with
          | zero => intro x15 x16 u17 H locs ls hf; rw [m9_neededLogs_L55] at hf; cases hf
          | succ n ih =>
            intro x15 x16 u17 H locs ls hf hP hS hl
            rw [m9_neededLogs_L55] at hf
            refine lv_iload_n hx hb dX9_neededLogs_55 rfl (lv_at hl 2 rfl) ?_
            refine lv_bipush (v := 16) hx hb dX9_neededLogs_56 (by decide) ?_
            refine lv_icmp_gt (tgt := 114) hx hb dX9_neededLogs_58 (by decide) (fun h18 => ?_) (fun h18 => ?_)
            · rw [if_pos h18] at hf
              refine lv_iconst (v := (-1)) hx hb dX9_neededLogs_114 (by decide) ?_
              have hf := Option.some.inj hf
              simp only [Prod.mk.injEq] at hf
              obtain ⟨rfl, rfl, rfl⟩ := hf
              rw [hQ]
              exact w_iret hx hb hr hlocks hP hK hS dX9_neededLogs_115 rfl rfl
            · rw [if_neg h18] at hf
              refine lv_aload_n hx hb dX9_neededLogs_61 rfl (lv_at hl 0 rfl) ?_
              refine w_get hx hb hts iX9_neededLogs_X9 hown hP hK (by decide) emb_mm rfl 1 (by decide) hk_f7 rfl dX9_neededLogs_62 ?_
              refine lv_iconst (v := 0) hx hb dX9_neededLogs_65 (by decide) ?_
              obtain ⟨hin19, hf⟩ := ck_e hf
              refine ar_ald (g := s0) hx hb AR_s rfl hP hK hin19 dX9_neededLogs_66 ?_
              refine lv_bipush (v := 25) hx hb dX9_neededLogs_67 (by decide) ?_
              refine lv_iload_n hx hb dX9_neededLogs_69 rfl (lv_at hl 2 rfl) ?_
              refine lv_imul hx hb dX9_neededLogs_70 ?_
              refine lv_iadd hx hb dX9_neededLogs_71 ?_
              refine lv_sipush (v := 400) hx hb dX9_neededLogs_72 (by decide) ?_
              refine lv_icmp_gt (tgt := 114) hx hb dX9_neededLogs_75 (by decide) (fun h20 => ?_) (fun h20 => ?_)
              · rw [if_pos h20] at hf
                refine lv_iconst (v := (-1)) hx hb dX9_neededLogs_114 (by decide) ?_
                have hf := Option.some.inj hf
                simp only [Prod.mk.injEq] at hf
                obtain ⟨rfl, rfl, rfl⟩ := hf
                rw [hQ]
                exact w_iret hx hb hr hlocks hP hK hS dX9_neededLogs_115 rfl rfl
              · rw [if_neg h20] at hf
                refine lv_aload_n hx hb dX9_neededLogs_78 rfl (lv_at hl 0 rfl) ?_
                refine w_get hx hb hts iX9_neededLogs_X9 hown hP hK (by decide) emb_mm rfl 2 (by decide) hk_f13 rfl dX9_neededLogs_79 ?_
                refine lv_iconst (v := 0) hx hb dX9_neededLogs_82 (by decide) ?_
                refine lv_aload_n hx hb dX9_neededLogs_83 rfl (lv_at hl 0 rfl) ?_
                refine w_get hx hb hts iX9_neededLogs_X9 hown hP hK (by decide) emb_mm rfl 1 (by decide) hk_f7 rfl dX9_neededLogs_84 ?_
                refine lv_iconst (v := 0) hx hb dX9_neededLogs_87 (by decide) ?_
                obtain ⟨hin21, hf⟩ := ck_e hf
                refine ar_ald (g := s0) hx hb AR_s rfl hP hK hin21 dX9_neededLogs_88 ?_
                refine lv_bipush (v := 25) hx hb dX9_neededLogs_89 (by decide) ?_
                refine lv_iload_n hx hb dX9_neededLogs_91 rfl (lv_at hl 2 rfl) ?_
                refine lv_imul hx hb dX9_neededLogs_92 ?_
                refine lv_iadd hx hb dX9_neededLogs_93 ?_
                obtain ⟨hin22, hf⟩ := ck_e hf
                refine ar_ast (g := u17) hx hb hX AR_u rfl (fun z => pmm w s0 z sv0 tx0 ow0 rs0 rn0 nu0 q6) (fun z => pmm_u) hP hK hS hin22 dX9_neededLogs_94 (fun u23 eu23 H locs hP hS => ?_)
                replace hf := ltn_s eu23 hf
                refine lv_aload_n hx hb dX9_neededLogs_95 rfl (lv_at hl 0 rfl) ?_
                refine w_get hx hb hts iX9_neededLogs_X9 hown hP hK (by decide) emb_mm rfl 2 (by decide) hk_f13 rfl dX9_neededLogs_96 ?_
                refine lv_iload_n hx hb dX9_neededLogs_99 rfl (lv_at hl 1 rfl) ?_
                obtain ⟨x24, hc25, hf⟩ := ob1_e hf
                refine w_csi ⟨hx, hb, hml, hown, hts⟩ hP hK hS (by have hM := k9_reasonOf l hX AR_u (pmm w s0 u23 sv0 tx0 ow0 rs0 rn0 nu0 q6) hc25; simp only [pmm_u] at hM; exact hM) hc_81 rfl hl.1 rfl (Nat.le_of_ble_eq_true rfl) dX9_neededLogs_100 ⟨Nat.zero_le _, Nat.zero_le _⟩ (fun H locs hP hS => ?_)
                refine lv_if_ne (tgt := 108) hx hb dX9_neededLogs_103 (by decide) (fun h26 => ?_) (fun h26 => ?_)
                · rw [if_neg h26] at hf
                  obtain ⟨x27, ex27⟩ : ∃ y : Int32, y = x16 + 1 := ⟨_, rfl⟩
                  replace hf := ltn_s ex27 hf
                  refine lv_iinc (v := x27) (lv' := [(2, .int x27), (0, .ref (xa X 314)), (1, .int x15)]) hx hb dX9_neededLogs_108 hl (k := 2) rfl (by rw [ex27]; rfl) (by decide) rfl (fun ls hl => ?_)
                  refine lv_goto (tgt := 55) hx hb dX9_neededLogs_111 (by decide) ?_
                  exact ih x15 x27 u23  _ _ _ hf hP hS (lv_sub hl [1, 2, 0] rfl)
                · rw [if_pos h26] at hf
                  refine lv_iload_n hx hb dX9_neededLogs_106 rfl (lv_at hl 2 rfl) ?_
                  have hf := Option.some.inj hf
                  simp only [Prod.mk.injEq] at hf
                  obtain ⟨rfl, rfl, rfl⟩ := hf
                  rw [hQ]
                  exact w_iret hx hb hr hlocks hP hK hS dX9_neededLogs_107 rfl rfl
        exact L55 N a1 0 u12 _ _ _ hf hP hS (lv_sub hl [1, 2, 0] rfl)
      · rw [if_neg h11] at hf
        refine lv_aload_n hx hb dX9_neededLogs_36 rfl (lv_at hl 0 rfl) ?_
        refine w_get hx hb hts iX9_neededLogs_X9 hown hP hK (by decide) emb_mm rfl 0 (by decide) hk_f35 rfl dX9_neededLogs_37 ?_
        refine lv_if_le (tgt := 47) hx hb dX9_neededLogs_40 (by decide) (fun h28 => ?_) (fun h28 => ?_)
        · rw [if_pos h28] at hf
          refine lv_iconst (v := (-1)) hx hb dX9_neededLogs_47 (by decide) ?_
          have hf := Option.some.inj hf
          simp only [Prod.mk.injEq] at hf
          obtain ⟨rfl, rfl, rfl⟩ := hf
          rw [hQ]
          exact w_iret hx hb hr hlocks hP hK hS dX9_neededLogs_48 rfl rfl
        · rw [if_neg h28] at hf
          refine lv_iconst (v := 0) hx hb dX9_neededLogs_43 (by decide) ?_
          refine lv_goto (tgt := 48) hx hb dX9_neededLogs_44 (by decide) ?_
          have hf := Option.some.inj hf
          simp only [Prod.mk.injEq] at hf
          obtain ⟨rfl, rfl, rfl⟩ := hf
          rw [hQ]
          exact w_iret hx hb hr hlocks hP hK hS dX9_neededLogs_48 rfl rfl
  clear hf
  refine lv_if_eq (tgt := 13) hx hb dX9_neededLogs_6 (by decide) (fun h3 => ?_) (fun h3 => ?_)
  · rw [if_pos h3] at ejK5
    refine lv_iconst (v := 1) hx hb dX9_neededLogs_13 (by decide) ?_
    obtain rfl := ejK5
    exact K5 _ _ _ hP hS (lv_sub hl [0, 1] rfl)
  · rw [if_neg h3] at ejK5
    refine lv_iconst (v := 0) hx hb dX9_neededLogs_9 (by decide) ?_
    refine lv_goto (tgt := 14) hx hb dX9_neededLogs_10 (by decide) ?_
    obtain rfl := ejK5
    exact K5 _ _ _ hP hS (lv_sub hl [0, 1] rfl)
abbrev rmX9_tryTicks : Room := { frames := 6, cells := 0, slots := 0, locals := 139 }
theorem iX9_tryTicks_X9 : ∀ w ∈ wsX90, w ∈ wsX9_tryTicks := by decide +kernel
set_option maxHeartbeats 4000000 in
set_option maxRecDepth 100000 in
theorem k9_tryTicks (l : Launch) {X : bkX} {b0 : Nat} (hX : XO X b0) (w : bkW) {N : Nat} {s0 : Nat → Int32} {u0 : Nat → Int32} {sv0 : Nat → Int32} {tx0 : Nat → Int32} {ow0 : Nat → Int32} {rs0 : Nat → Int64} {rn0 : Nat → Int32} {nu0 : Nat → Int32} {q0 : Nat → Int32} {a1 : Int32} {u9 : Nat → Int32} (hf : m9_tryTicks N s0 u0 a1 = some u9) : cV l yX9_tryTicks wsX9_tryTicks rmX9_tryTicks X b0 [.ref (xa X 314), .int a1] (pmm w s0 u0 sv0 tx0 ow0 rs0 rn0 nu0 q0) (pmm w s0 u9 sv0 tx0 ow0 rs0 rn0 nu0 q0) := by
  refine Met.ofW (cc := cX9_tryTicks) (maxL := 4) (ret := none) (by decide) rfl ?_
  intro p e s m args below meth c s₁ B hml hv
  obtain ⟨ha, hP, hK⟩ := hv
  have hx := B.exec
  have hb := B.bytes
  have hr := B.returns
  have hts := atoms_spec (ws := wsX9_tryTicks) B.pre
  have hown : s.vm.findClass RX9 = some m.cls := findClass_of_methodNamed B.named
  have hlocks := B.notSynchronized
  obtain ⟨R, hR⟩ : ∃ R, R = (headSpec wsX9_tryTicks rmX9_tryTicks).room := ⟨_, rfl⟩
  rw [← hR]
  have hR1 : R.frames = 6 := by rw [hR]; rfl
  have hR2 : R.locals = 139 := by rw [hR]; rfl
  obtain ⟨Q, hQ⟩ : ∃ Q : State → Prop, Q = MQ below (va_Qv (fun (_ : Unit) => True) (fun _ t => WU X (pmm w s0 u9 sv0 tx0 ow0 rs0 rn0 nu0 q0) t) (xF b0)) args s 0 0 (xF b0) := ⟨_, rfl⟩
  rw [← hQ]
  have hS : va_S (xF b0) s.heap s.heap [] := va_S.rf
  have hl := lv_entry ([.ref (xa X 314), .int a1]) (n := 4) (Nat.le_of_ble_eq_true rfl)
  refine W.eq ((congrArg (fun z => entryFrame m z 4) ha).trans (lg_entry_eq m _ 4)) ?_
  generalize (lg_sl ([.ref (xa X 314), .int a1]) ++ List.replicate (4 - (lg_sl ([.ref (xa X 314), .int a1])).length) Slot.unset).toArray = ls at hl ⊢
  have hl : lv_has ls 4 [(0, .ref (xa X 314)), (1, .int a1)] := hl
  have hc_207 := (cwV 0 hts gX9_tryTicks_X9_tryNow rfl rfl rfl (by decide +kernel) ⟨by rw [hR1]; exact Nat.le_of_ble_eq_true rfl, by rw [hR2]; exact Nat.le_of_ble_eq_true rfl⟩ : CallW R s args RX9 RX9 207 yX9_tryNow cX9_tryNow 2 none wsX9_tryNow rmX9_tryNow 0 0 0)
  have hk_f13 := hts (.fieldLink RX9 13 "BakeTurnsModel" "w" "[I") (by decide +kernel)
  have hc_105 := (cwS 1 hts gX9_tryTicks_X9_tick rfl rfl rfl (by decide +kernel) ⟨by rw [hR1]; exact Nat.le_of_ble_eq_true rfl, by rw [hR2]; exact Nat.le_of_ble_eq_true rfl⟩ : CallB R s args RX9 105 yX9_tick cX9_tick 5 (some .int) wsX9_tick rmX9_tick 0 0 1 ∧ (Cond.static yX9_tick).before args s = true)
  unfold m9_tryTicks at hf
  refine lv_aload_n hx hb dX9_tryTicks_0 rfl (lv_at hl 0 rfl) ?_
  obtain ⟨u1, hc2, hf⟩ := ob1_e hf
  refine w_cv ⟨hx, hb, hml, hown, hts⟩ hP hK hS (k9_tryNow l hX w hc2) hc_207 (w_recv hP hK (by decide) emb_mm rfl) rfl hl.1 rfl (Nat.le_of_ble_eq_true rfl) dX9_tryTicks_1 ⟨Nat.zero_le _, Nat.zero_le _⟩ (fun H locs hP hS => ?_)
  refine lv_iconst (v := 0) hx hb dX9_tryTicks_4 (by decide) ?_
  refine lv_istore_n (lv' := [(2, .int 0), (0, .ref (xa X 314)), (1, .int a1)]) hx hb dX9_tryTicks_5 rfl hl (by decide) rfl (fun ls hl => ?_)
  refine lv_iconst (v := 0) hx hb dX9_tryTicks_6 (by decide) ?_
  refine lv_istore_n (lv' := [(3, .int 0), (2, .int 0), (0, .ref (xa X 314)), (1, .int a1)]) hx hb dX9_tryTicks_7 rfl hl (by decide) rfl (fun ls hl => ?_)
  have L8 : ∀ (n : Nat) (x4 : Int32) (x5 : Int32) (x6 : Int32) (u7 : Nat → Int32) (ou8 : Nat → Int32) (H : Heap) (locs : List Loc) (ls : Array Slot), m9_tryTicks_L8 N n x4 x5 x6 u7 = some ou8 → HW X (pmm w s0 u7 sv0 tx0 ow0 rs0 rn0 nu0 q0) H → va_S (xF b0) s.heap H locs → lv_has ls 4 [(0, .ref (xa X 314)), (1, .int x4), (2, .int x5), (3, .int x6)] → (∀ (H1 : Heap) (locs1 : List Loc) (ls1 : Array Slot), HW X (pmm w s0 ou8 sv0 tx0 ow0 rs0 rn0 nu0 q0) H1 → va_S (xF b0) s.heap H1 locs1 → lv_has ls1 4 [] → W p l e R s m args below meth c H1 locs1 0 0 Q (F0 m 29 ls1 [])) → W p l e R s m args below meth c H locs 0 0 Q (F0 m 8 ls []) := by
    intro n; induction n with
    | zero => intro x4 x5 x6 u7 ou8 H locs ls hf; rw [m9_tryTicks_L8] at hf; cases hf
    | succ n ih =>
      intro x4 x5 x6 u7 ou8 H locs ls hf hP hS hl K
      rw [m9_tryTicks_L8] at hf
      refine lv_iload_n hx hb dX9_tryTicks_8 rfl (lv_at hl 3 rfl) ?_
      refine lv_iload_n hx hb dX9_tryTicks_9 rfl (lv_at hl 1 rfl) ?_
      refine lv_icmp_ge (tgt := 29) hx hb dX9_tryTicks_10 (by decide) (fun h9 => ?_) (fun h9 => ?_)
      · rw [if_pos h9] at hf
        have hf := Option.some.inj hf
        obtain rfl := hf
        exact K _ _ _ hP hS (lv_sub hl [] rfl)
      · rw [if_neg h9] at hf
        refine lv_iload_n hx hb dX9_tryTicks_13 rfl (lv_at hl 2 rfl) ?_
        refine lv_aload_n hx hb dX9_tryTicks_14 rfl (lv_at hl 0 rfl) ?_
        refine w_get hx hb hts iX9_tryTicks_X9 hown hP hK (by decide) emb_mm rfl 2 (by decide) hk_f13 rfl dX9_tryTicks_15 ?_
        obtain ⟨x10, u11, hc12, hf⟩ := ob2_e hf
        refine w_csi ⟨hx, hb, hml, hown, hts⟩ hP hK hS (by have hM := k9_tick l hX AR_u (pmm w s0 u7 sv0 tx0 ow0 rs0 rn0 nu0 q0) hc12; simp only [pmm_u] at hM; exact hM) hc_105 rfl hl.1 rfl (Nat.le_of_ble_eq_true rfl) dX9_tryTicks_18 ⟨Nat.zero_le _, Nat.zero_le _⟩ (fun H locs hP hS => ?_)
        refine lv_iadd hx hb dX9_tryTicks_21 ?_
        refine lv_topi (fun x13 ex13 => ?_)
        replace hf := ltn_s ex13 hf
        refine lv_istore_n (lv' := [(2, .int x13), (0, .ref (xa X 314)), (1, .int x4), (3, .int x6)]) hx hb dX9_tryTicks_22 rfl hl (by decide) rfl (fun ls hl => ?_)
        obtain ⟨x14, ex14⟩ : ∃ y : Int32, y = x6 + 1 := ⟨_, rfl⟩
        replace hf := ltn_s ex14 hf
        refine lv_iinc (v := x14) (lv' := [(3, .int x14), (2, .int x13), (0, .ref (xa X 314)), (1, .int x4)]) hx hb dX9_tryTicks_23 hl (k := 3) rfl (by rw [ex14]; rfl) (by decide) rfl (fun ls hl => ?_)
        refine lv_goto (tgt := 8) hx hb dX9_tryTicks_26 (by decide) ?_
        exact ih x4 x13 x14 u11 ou8 _ _ _ hf hP hS (lv_sub hl [2, 3, 1, 0] rfl) K
  obtain ⟨u15, hc16, hf⟩ := ob1_e hf
  refine L8 N a1 0 0 u1 u15 _ _ _ hc16 hP hS (lv_sub hl [2, 3, 1, 0] rfl) (fun H locs ls hP hS hl => ?_)
  have hf := Option.some.inj hf
  obtain rfl := hf
  rw [hQ]
  exact w_vret hx hb hr hlocks hP hK hS dX9_tryTicks_29 rfl
abbrev rmX9_heatBehind : Room := { frames := 7, cells := 0, slots := 0, locals := 162 }
theorem iX9_heatBehind_X9 : ∀ w ∈ wsX90, w ∈ wsX9_heatBehind := by decide +kernel
set_option maxHeartbeats 4000000 in
set_option maxRecDepth 100000 in
theorem k9_heatBehind (l : Launch) {X : bkX} {b0 : Nat} (hX : XO X b0) (w : bkW) {N : Nat} {s0 : Nat → Int32} {u0 : Nat → Int32} {sv0 : Nat → Int32} {tx0 : Nat → Int32} {ow0 : Nat → Int32} {rs0 : Nat → Int64} {rn0 : Nat → Int32} {nu0 : Nat → Int32} {q0 : Nat → Int32} {a1 : Int32} {res9 : Int32} {u9 : Nat → Int32} (hf : m9_heatBehind N s0 u0 a1 = some (res9, u9)) : cI l yX9_heatBehind wsX9_heatBehind rmX9_heatBehind X b0 [.ref (xa X 314), .int a1] (pmm w s0 u0 sv0 tx0 ow0 rs0 rn0 nu0 q0) res9 (pmm w s0 u9 sv0 tx0 ow0 rs0 rn0 nu0 q0) := by
  refine Met.ofW (cc := cX9_heatBehind) (maxL := 2) (ret := (some .int)) (by decide) rfl ?_
  intro p e s m args below meth c s₁ B hml hv
  obtain ⟨ha, hP, hK⟩ := hv
  have hx := B.exec
  have hb := B.bytes
  have hr := B.returns
  have hts := atoms_spec (ws := wsX9_heatBehind) B.pre
  have hown : s.vm.findClass RX9 = some m.cls := findClass_of_methodNamed B.named
  have hlocks := B.notSynchronized
  obtain ⟨R, hR⟩ : ∃ R, R = (headSpec wsX9_heatBehind rmX9_heatBehind).room := ⟨_, rfl⟩
  rw [← hR]
  have hR1 : R.frames = 7 := by rw [hR]; rfl
  have hR2 : R.locals = 162 := by rw [hR]; rfl
  obtain ⟨Q, hQ⟩ : ∃ Q : State → Prop, Q = MQ below (va_Qi (fun r' (_ : Unit) => r' = res9) (fun _ t => WU X (pmm w s0 u9 sv0 tx0 ow0 rs0 rn0 nu0 q0) t) (xF b0)) args s 0 0 (xF b0) := ⟨_, rfl⟩
  rw [← hQ]
  have hS : va_S (xF b0) s.heap s.heap [] := va_S.rf
  have hl := lv_entry ([.ref (xa X 314), .int a1]) (n := 2) (Nat.le_of_ble_eq_true rfl)
  refine W.eq ((congrArg (fun z => entryFrame m z 2) ha).trans (lg_entry_eq m _ 2)) ?_
  generalize (lg_sl ([.ref (xa X 314), .int a1]) ++ List.replicate (2 - (lg_sl ([.ref (xa X 314), .int a1])).length) Slot.unset).toArray = ls at hl ⊢
  have hl : lv_has ls 2 [(0, .ref (xa X 314)), (1, .int a1)] := hl
  have hc_210 := (cwV 1 hts gX9_heatBehind_X9_tryTicks rfl rfl rfl (by decide +kernel) ⟨by rw [hR1]; exact Nat.le_of_ble_eq_true rfl, by rw [hR2]; exact Nat.le_of_ble_eq_true rfl⟩ : CallW R s args RX9 RX9 210 yX9_tryTicks cX9_tryTicks 4 none wsX9_tryTicks rmX9_tryTicks 0 0 1)
  have hk_f13 := hts (.fieldLink RX9 13 "BakeTurnsModel" "w" "[I") (by decide +kernel)
  unfold m9_heatBehind at hf
  refine lv_aload_n hx hb dX9_heatBehind_0 rfl (lv_at hl 0 rfl) ?_
  refine lv_iload_n hx hb dX9_heatBehind_1 rfl (lv_at hl 1 rfl) ?_
  obtain ⟨u1, hc2, hf⟩ := ob1_e hf
  refine w_cv ⟨hx, hb, hml, hown, hts⟩ hP hK hS (k9_tryTicks l hX w hc2) hc_210 (w_recv hP hK (by decide) emb_mm rfl) rfl hl.1 rfl (Nat.le_of_ble_eq_true rfl) dX9_heatBehind_2 ⟨Nat.zero_le _, Nat.zero_le _⟩ (fun H locs hP hS => ?_)
  refine lv_aload_n hx hb dX9_heatBehind_5 rfl (lv_at hl 0 rfl) ?_
  refine w_get hx hb hts iX9_heatBehind_X9 hown hP hK (by decide) emb_mm rfl 2 (by decide) hk_f13 rfl dX9_heatBehind_6 ?_
  refine lv_iconst (v := 0) hx hb dX9_heatBehind_9 (by decide) ?_
  obtain ⟨hin3, hf⟩ := ck_e hf
  refine ar_ald (g := u1) hx hb AR_u rfl hP hK hin3 dX9_heatBehind_10 ?_
  have hf := Option.some.inj hf
  simp only [Prod.mk.injEq] at hf
  obtain ⟨rfl, rfl⟩ := hf
  rw [hQ]
  exact w_iret hx hb hr hlocks hP hK hS dX9_heatBehind_11 rfl rfl
abbrev rmX9_heatIn : Room := { frames := 8, cells := 0, slots := 0, locals := 183 }
theorem iX9_heatIn_X9 : ∀ w ∈ wsX90, w ∈ wsX9_heatIn := by decide +kernel
set_option maxHeartbeats 4000000 in
set_option maxRecDepth 100000 in
theorem k9_heatIn (l : Launch) {X : bkX} {b0 : Nat} (hX : XO X b0) (w : bkW) {N : Nat} {s0 : Nat → Int32} {u0 : Nat → Int32} {sv0 : Nat → Int32} {tx0 : Nat → Int32} {ow0 : Nat → Int32} {rs0 : Nat → Int64} {rn0 : Nat → Int32} {nu0 : Nat → Int32} {q0 : Nat → Int32} {a1 : Int32} {res9 : Int32} {u9 : Nat → Int32} {q9 : Nat → Int32} (hf : m9_heatIn N s0 u0 q0 a1 = some (res9, u9, q9)) : cI l yX9_heatIn wsX9_heatIn rmX9_heatIn X b0 [.ref (xa X 314), .int a1] (pmm w s0 u0 sv0 tx0 ow0 rs0 rn0 nu0 q0) res9 (pmm w s0 u9 sv0 tx0 ow0 rs0 rn0 nu0 q9) := by
  refine Met.ofW (cc := cX9_heatIn) (maxL := 2) (ret := (some .int)) (by decide) rfl ?_
  intro p e s m args below meth c s₁ B hml hv
  obtain ⟨ha, hP, hK⟩ := hv
  have hx := B.exec
  have hb := B.bytes
  have hr := B.returns
  have hts := atoms_spec (ws := wsX9_heatIn) B.pre
  have hown : s.vm.findClass RX9 = some m.cls := findClass_of_methodNamed B.named
  have hlocks := B.notSynchronized
  obtain ⟨R, hR⟩ : ∃ R, R = (headSpec wsX9_heatIn rmX9_heatIn).room := ⟨_, rfl⟩
  rw [← hR]
  have hR1 : R.frames = 8 := by rw [hR]; rfl
  have hR2 : R.locals = 183 := by rw [hR]; rfl
  obtain ⟨Q, hQ⟩ : ∃ Q : State → Prop, Q = MQ below (va_Qi (fun r' (_ : Unit) => r' = res9) (fun _ t => WU X (pmm w s0 u9 sv0 tx0 ow0 rs0 rn0 nu0 q9) t) (xF b0)) args s 0 0 (xF b0) := ⟨_, rfl⟩
  rw [← hQ]
  have hS : va_S (xF b0) s.heap s.heap [] := va_S.rf
  have hl := lv_entry ([.ref (xa X 314), .int a1]) (n := 2) (Nat.le_of_ble_eq_true rfl)
  refine W.eq ((congrArg (fun z => entryFrame m z 2) ha).trans (lg_entry_eq m _ 2)) ?_
  generalize (lg_sl ([.ref (xa X 314), .int a1]) ++ List.replicate (2 - (lg_sl ([.ref (xa X 314), .int a1])).length) Slot.unset).toArray = ls at hl ⊢
  have hl : lv_has ls 2 [(0, .ref (xa X 314)), (1, .int a1)] := hl
  have hc_49 := (cwS 3 hts gX9_heatIn_X9_in rfl rfl rfl (by decide +kernel) ⟨by rw [hR1]; exact Nat.le_of_ble_eq_true rfl, by rw [hR2]; exact Nat.le_of_ble_eq_true rfl⟩ : CallB R s args RX9 49 yX9_in cX9_in 3 (some .boolean) wsX9_in rmX9_in 0 0 3 ∧ (Cond.static yX9_in).before args s = true)
  have hk_f35 := hts (.fieldLink RX9 35 "BakeTurnsModel" "thrown" "I") (by decide +kernel)
  have hc_214 := (cwV 1 hts gX9_heatIn_X9_heatBehind rfl rfl rfl (by decide +kernel) ⟨by rw [hR1]; exact Nat.le_of_ble_eq_true rfl, by rw [hR2]; exact Nat.le_of_ble_eq_true rfl⟩ : CallW R s args RX9 RX9 214 yX9_heatBehind cX9_heatBehind 2 (some .int) wsX9_heatBehind rmX9_heatBehind 0 0 1)
  unfold m9_heatIn at hf
  refine lv_aload_n hx hb dX9_heatIn_0 rfl (lv_at hl 0 rfl) ?_
  refine lv_iload_n hx hb dX9_heatIn_1 rfl (lv_at hl 1 rfl) ?_
  refine lv_iconst (v := 0) hx hb dX9_heatIn_2 (by decide) ?_
  refine lv_bipush (v := 100) hx hb dX9_heatIn_3 (by decide) ?_
  obtain ⟨x1, hc2, hf⟩ := lt1_e hf
  refine w_csi ⟨hx, hb, hml, hown, hts⟩ hP hK hS (k9_in l hX (pmm w s0 u0 sv0 tx0 ow0 rs0 rn0 nu0 q0) hc2) hc_49 rfl hl.1 rfl (Nat.le_of_ble_eq_true rfl) dX9_heatIn_5 ⟨Nat.zero_le _, Nat.zero_le _⟩ (fun H locs hP hS => ?_)
  obtain ⟨x4, ejK5, hf⟩ := lt1_e hf
  have K5 : ∀ (H : Heap) (locs : List Loc) (ls : Array Slot), HW X (pmm w s0 u0 sv0 tx0 ow0 rs0 rn0 nu0 q0) H → va_S (xF b0) s.heap H locs → lv_has ls 2 [(0, .ref (xa X 314)), (1, .int a1)] → W p l e R s m args below meth c H locs 0 0 Q (F0 m 16 ls [.int x4, .ref (xa X 314)]) := by
    intro H locs ls hP hS hl
    refine mm_put hx hb hts iX9_heatIn_X9 hown hX hP hK hS 0 (by decide) hk_f35 rfl rfl (Nat.le_of_ble_eq_true rfl) (mm_es0 _) dX9_heatIn_16 (fun q6 eq6 H locs hP hS => ?_)
    replace hf := ltn_s eq6 hf
    refine lv_aload_n hx hb dX9_heatIn_19 rfl (lv_at hl 0 rfl) ?_
    refine w_get hx hb hts iX9_heatIn_X9 hown hP hK (by decide) emb_mm rfl 0 (by decide) hk_f35 rfl dX9_heatIn_20 ?_
    refine lv_if_le (tgt := 30) hx hb dX9_heatIn_23 (by decide) (fun h7 => ?_) (fun h7 => ?_)
    · rw [if_pos h7] at hf
      refine lv_aload_n hx hb dX9_heatIn_30 rfl (lv_at hl 0 rfl) ?_
      refine lv_iload_n hx hb dX9_heatIn_31 rfl (lv_at hl 1 rfl) ?_
      obtain ⟨x8, u9, hc10, hf⟩ := ob2_e hf
      refine w_ci ⟨hx, hb, hml, hown, hts⟩ hP hK hS (k9_heatBehind l hX w hc10) hc_214 (w_recv hP hK (by decide) emb_mm rfl) rfl hl.1 rfl (Nat.le_of_ble_eq_true rfl) dX9_heatIn_32 ⟨Nat.zero_le _, Nat.zero_le _⟩ (fun H locs hP hS => ?_)
      have hf := Option.some.inj hf
      simp only [Prod.mk.injEq] at hf
      obtain ⟨rfl, rfl, rfl⟩ := hf
      rw [hQ]
      exact w_iret hx hb hr hlocks hP hK hS dX9_heatIn_35 rfl rfl
    · rw [if_neg h7] at hf
      refine lv_iconst (v := 0) hx hb dX9_heatIn_26 (by decide) ?_
      refine lv_goto (tgt := 35) hx hb dX9_heatIn_27 (by decide) ?_
      have hf := Option.some.inj hf
      simp only [Prod.mk.injEq] at hf
      obtain ⟨rfl, rfl, rfl⟩ := hf
      rw [hQ]
      exact w_iret hx hb hr hlocks hP hK hS dX9_heatIn_35 rfl rfl
  clear hf
  refine lv_if_eq (tgt := 15) hx hb dX9_heatIn_8 (by decide) (fun h3 => ?_) (fun h3 => ?_)
  · rw [if_pos h3] at ejK5
    refine lv_iconst (v := 1) hx hb dX9_heatIn_15 (by decide) ?_
    obtain rfl := ejK5
    exact K5 _ _ _ hP hS (lv_sub hl [0, 1] rfl)
  · rw [if_neg h3] at ejK5
    refine lv_iconst (v := 0) hx hb dX9_heatIn_11 (by decide) ?_
    refine lv_goto (tgt := 16) hx hb dX9_heatIn_12 (by decide) ?_
    obtain rfl := ejK5
    exact K5 _ _ _ hP hS (lv_sub hl [0, 1] rfl)
abbrev rmX9_spoiledIn : Room := { frames := 7, cells := 0, slots := 0, locals := 162 }
theorem iX9_spoiledIn_X9 : ∀ w ∈ wsX90, w ∈ wsX9_spoiledIn := by decide +kernel
set_option maxHeartbeats 4000000 in
set_option maxRecDepth 100000 in
theorem k9_spoiledIn (l : Launch) {X : bkX} {b0 : Nat} (hX : XO X b0) (w : bkW) {N : Nat} {s0 : Nat → Int32} {u0 : Nat → Int32} {sv0 : Nat → Int32} {tx0 : Nat → Int32} {ow0 : Nat → Int32} {rs0 : Nat → Int64} {rn0 : Nat → Int32} {nu0 : Nat → Int32} {q0 : Nat → Int32} {a1 : Int32} {res9 : Int32} {u9 : Nat → Int32} {q9 : Nat → Int32} (hf : m9_spoiledIn N s0 u0 q0 a1 = some (res9, u9, q9)) : cI l yX9_spoiledIn wsX9_spoiledIn rmX9_spoiledIn X b0 [.ref (xa X 314), .int a1] (pmm w s0 u0 sv0 tx0 ow0 rs0 rn0 nu0 q0) res9 (pmm w s0 u9 sv0 tx0 ow0 rs0 rn0 nu0 q9) := by
  refine Met.ofW (cc := cX9_spoiledIn) (maxL := 4) (ret := (some .int)) (by decide) rfl ?_
  intro p e s m args below meth c s₁ B hml hv
  obtain ⟨ha, hP, hK⟩ := hv
  have hx := B.exec
  have hb := B.bytes
  have hr := B.returns
  have hts := atoms_spec (ws := wsX9_spoiledIn) B.pre
  have hown : s.vm.findClass RX9 = some m.cls := findClass_of_methodNamed B.named
  have hlocks := B.notSynchronized
  obtain ⟨R, hR⟩ : ∃ R, R = (headSpec wsX9_spoiledIn rmX9_spoiledIn).room := ⟨_, rfl⟩
  rw [← hR]
  have hR1 : R.frames = 7 := by rw [hR]; rfl
  have hR2 : R.locals = 162 := by rw [hR]; rfl
  obtain ⟨Q, hQ⟩ : ∃ Q : State → Prop, Q = MQ below (va_Qi (fun r' (_ : Unit) => r' = res9) (fun _ t => WU X (pmm w s0 u9 sv0 tx0 ow0 rs0 rn0 nu0 q9) t) (xF b0)) args s 0 0 (xF b0) := ⟨_, rfl⟩
  rw [← hQ]
  have hS : va_S (xF b0) s.heap s.heap [] := va_S.rf
  have hl := lv_entry ([.ref (xa X 314), .int a1]) (n := 4) (Nat.le_of_ble_eq_true rfl)
  refine W.eq ((congrArg (fun z => entryFrame m z 4) ha).trans (lg_entry_eq m _ 4)) ?_
  generalize (lg_sl ([.ref (xa X 314), .int a1]) ++ List.replicate (4 - (lg_sl ([.ref (xa X 314), .int a1])).length) Slot.unset).toArray = ls at hl ⊢
  have hl : lv_has ls 4 [(0, .ref (xa X 314)), (1, .int a1)] := hl
  have hc_49 := (cwS 3 hts gX9_spoiledIn_X9_in rfl rfl rfl (by decide +kernel) ⟨by rw [hR1]; exact Nat.le_of_ble_eq_true rfl, by rw [hR2]; exact Nat.le_of_ble_eq_true rfl⟩ : CallB R s args RX9 49 yX9_in cX9_in 3 (some .boolean) wsX9_in rmX9_in 0 0 3 ∧ (Cond.static yX9_in).before args s = true)
  have hk_f35 := hts (.fieldLink RX9 35 "BakeTurnsModel" "thrown" "I") (by decide +kernel)
  have hc_210 := (cwV 1 hts gX9_spoiledIn_X9_tryTicks rfl rfl rfl (by decide +kernel) ⟨by rw [hR1]; exact Nat.le_of_ble_eq_true rfl, by rw [hR2]; exact Nat.le_of_ble_eq_true rfl⟩ : CallW R s args RX9 RX9 210 yX9_tryTicks cX9_tryTicks 4 none wsX9_tryTicks rmX9_tryTicks 0 0 1)
  have hk_f7 := hts (.fieldLink RX9 7 "BakeTurnsModel" "s" "[I") (by decide +kernel)
  have hc_42 := (cwS 3 hts gX9_spoiledIn_X9_of rfl rfl rfl (by decide +kernel) ⟨by rw [hR1]; exact Nat.le_of_ble_eq_true rfl, by rw [hR2]; exact Nat.le_of_ble_eq_true rfl⟩ : CallB R s args RX9 42 yX9_of cX9_of 3 (some .int) wsX9_of rmX9_of 0 0 3 ∧ (Cond.static yX9_of).before args s = true)
  have hk_f13 := hts (.fieldLink RX9 13 "BakeTurnsModel" "w" "[I") (by decide +kernel)
  unfold m9_spoiledIn at hf
  refine lv_aload_n hx hb dX9_spoiledIn_0 rfl (lv_at hl 0 rfl) ?_
  refine lv_iload_n hx hb dX9_spoiledIn_1 rfl (lv_at hl 1 rfl) ?_
  refine lv_iconst (v := 0) hx hb dX9_spoiledIn_2 (by decide) ?_
  refine lv_bipush (v := 100) hx hb dX9_spoiledIn_3 (by decide) ?_
  obtain ⟨x1, hc2, hf⟩ := lt1_e hf
  refine w_csi ⟨hx, hb, hml, hown, hts⟩ hP hK hS (k9_in l hX (pmm w s0 u0 sv0 tx0 ow0 rs0 rn0 nu0 q0) hc2) hc_49 rfl hl.1 rfl (Nat.le_of_ble_eq_true rfl) dX9_spoiledIn_5 ⟨Nat.zero_le _, Nat.zero_le _⟩ (fun H locs hP hS => ?_)
  obtain ⟨x4, ejK5, hf⟩ := lt1_e hf
  have K5 : ∀ (H : Heap) (locs : List Loc) (ls : Array Slot), HW X (pmm w s0 u0 sv0 tx0 ow0 rs0 rn0 nu0 q0) H → va_S (xF b0) s.heap H locs → lv_has ls 4 [(0, .ref (xa X 314)), (1, .int a1)] → W p l e R s m args below meth c H locs 0 0 Q (F0 m 16 ls [.int x4, .ref (xa X 314)]) := by
    intro H locs ls hP hS hl
    refine mm_put hx hb hts iX9_spoiledIn_X9 hown hX hP hK hS 0 (by decide) hk_f35 rfl rfl (Nat.le_of_ble_eq_true rfl) (mm_es0 _) dX9_spoiledIn_16 (fun q6 eq6 H locs hP hS => ?_)
    replace hf := ltn_s eq6 hf
    refine lv_aload_n hx hb dX9_spoiledIn_19 rfl (lv_at hl 0 rfl) ?_
    refine w_get hx hb hts iX9_spoiledIn_X9 hown hP hK (by decide) emb_mm rfl 0 (by decide) hk_f35 rfl dX9_spoiledIn_20 ?_
    refine lv_if_le (tgt := 28) hx hb dX9_spoiledIn_23 (by decide) (fun h7 => ?_) (fun h7 => ?_)
    · rw [if_pos h7] at hf
      refine lv_aload_n hx hb dX9_spoiledIn_28 rfl (lv_at hl 0 rfl) ?_
      refine lv_iload_n hx hb dX9_spoiledIn_29 rfl (lv_at hl 1 rfl) ?_
      obtain ⟨u8, hc9, hf⟩ := ob1_e hf
      refine w_cv ⟨hx, hb, hml, hown, hts⟩ hP hK hS (k9_tryTicks l hX w hc9) hc_210 (w_recv hP hK (by decide) emb_mm rfl) rfl hl.1 rfl (Nat.le_of_ble_eq_true rfl) dX9_spoiledIn_30 ⟨Nat.zero_le _, Nat.zero_le _⟩ (fun H locs hP hS => ?_)
      refine lv_iconst (v := 0) hx hb dX9_spoiledIn_33 (by decide) ?_
      refine lv_istore_n (lv' := [(2, .int 0), (0, .ref (xa X 314)), (1, .int a1)]) hx hb dX9_spoiledIn_34 rfl hl (by decide) rfl (fun ls hl => ?_)
      refine lv_iconst (v := 0) hx hb dX9_spoiledIn_35 (by decide) ?_
      refine lv_istore_n (lv' := [(3, .int 0), (2, .int 0), (0, .ref (xa X 314)), (1, .int a1)]) hx hb dX9_spoiledIn_36 rfl hl (by decide) rfl (fun ls hl => ?_)
      have L37 : ∀ (n : Nat) (x11 : Int32) (x12 : Int32)  (o13 : Int32) (H : Heap) (locs : List Loc) (ls : Array Slot), m9_spoiledIn_L37 N n x11 x12 s0 u8 = some o13 → HW X (pmm w s0 u8 sv0 tx0 ow0 rs0 rn0 nu0 q6) H → va_S (xF b0) s.heap H locs → lv_has ls 4 [(0, .ref (xa X 314)), (2, .int x11), (3, .int x12)] → (∀ (H1 : Heap) (locs1 : List Loc) (ls1 : Array Slot), HW X (pmm w s0 u8 sv0 tx0 ow0 rs0 rn0 nu0 q6) H1 → va_S (xF b0) s.heap H1 locs1 → lv_has ls1 4 [(2, .int o13)] → W p l e R s m args below meth c H1 locs1 0 0 Q (F0 m 88 ls1 [])) → W p l e R s m args below meth c H locs 0 0 Q (F0 m 37 ls []) := by
        intro n; induction n with
        | zero => intro x11 x12 o13 H locs ls hf; rw [m9_spoiledIn_L37] at hf; cases hf
        | succ n ih =>
          intro x11 x12 o13 H locs ls hf hP hS hl K
          rw [m9_spoiledIn_L37] at hf
          refine lv_iload_n hx hb dX9_spoiledIn_37 rfl (lv_at hl 2 rfl) ?_
          refine lv_aload_n hx hb dX9_spoiledIn_38 rfl (lv_at hl 0 rfl) ?_
          refine w_get hx hb hts iX9_spoiledIn_X9 hown hP hK (by decide) emb_mm rfl 1 (by decide) hk_f7 rfl dX9_spoiledIn_39 ?_
          refine lv_iconst (v := 4) hx hb dX9_spoiledIn_42 (by decide) ?_
          obtain ⟨hin14, hf⟩ := ck_e hf
          refine ar_ald (g := s0) hx hb AR_s rfl hP hK hin14 dX9_spoiledIn_43 ?_
          refine lv_icmp_ge (tgt := 88) hx hb dX9_spoiledIn_44 (by decide) (fun h15 => ?_) (fun h15 => ?_)
          · rw [if_pos h15] at hf
            have hf := Option.some.inj hf
            obtain rfl := hf
            exact K _ _ _ hP hS (lv_sub hl [1] rfl)
          · rw [if_neg h15] at hf
            refine lv_iload_n hx hb dX9_spoiledIn_47 rfl (lv_at hl 1 rfl) ?_
            refine lv_aload_n hx hb dX9_spoiledIn_48 rfl (lv_at hl 0 rfl) ?_
            refine w_get hx hb hts iX9_spoiledIn_X9 hown hP hK (by decide) emb_mm rfl 1 (by decide) hk_f7 rfl dX9_spoiledIn_49 ?_
            refine lv_iload_n hx hb dX9_spoiledIn_52 rfl (lv_at hl 2 rfl) ?_
            refine lv_iconst (v := 4) hx hb dX9_spoiledIn_53 (by decide) ?_
            obtain ⟨x16, hc17, hf⟩ := ob1_e hf
            refine w_csi ⟨hx, hb, hml, hown, hts⟩ hP hK hS (by have hM := k9_of l hX AR_s (pmm w s0 u8 sv0 tx0 ow0 rs0 rn0 nu0 q6) hc17; simp only [pmm_s] at hM; exact hM) hc_42 rfl hl.1 rfl (Nat.le_of_ble_eq_true rfl) dX9_spoiledIn_54 ⟨Nat.zero_le _, Nat.zero_le _⟩ (fun H locs hP hS => ?_)
            obtain ⟨x22, ejK23, hf⟩ := ob1_e hf
            have K23 : ∀ (H : Heap) (locs : List Loc) (ls : Array Slot), HW X (pmm w s0 u8 sv0 tx0 ow0 rs0 rn0 nu0 q6) H → va_S (xF b0) s.heap H locs → lv_has ls 4 [(0, .ref (xa X 314)), (3, .int x12)] → W p l e R s m args below meth c H locs 0 0 Q (F0 m 80 ls [.int x22, .int x11]) := by
              intro H locs ls hP hS hl
              refine lv_ior hx hb dX9_spoiledIn_80 ?_
              refine lv_topi (fun x27 ex27 => ?_)
              replace hf := ltn_s ex27 hf
              refine lv_istore_n (lv' := [(2, .int x27), (0, .ref (xa X 314)), (3, .int x12)]) hx hb dX9_spoiledIn_81 rfl hl (by decide) rfl (fun ls hl => ?_)
              obtain ⟨x28, ex28⟩ : ∃ y : Int32, y = x12 + 1 := ⟨_, rfl⟩
              replace hf := ltn_s ex28 hf
              refine lv_iinc (v := x28) (lv' := [(3, .int x28), (2, .int x27), (0, .ref (xa X 314))]) hx hb dX9_spoiledIn_82 hl (k := 2) rfl (by rw [ex28]; rfl) (by decide) rfl (fun ls hl => ?_)
              refine lv_goto (tgt := 37) hx hb dX9_spoiledIn_85 (by decide) ?_
              exact ih x27 x28 o13 _ _ _ hf hP hS (lv_sub hl [2, 1, 0] rfl) K
            clear hf
            refine lv_if_ne (tgt := 79) hx hb dX9_spoiledIn_57 (by decide) (fun h18 => ?_) (fun h18 => ?_)
            · rw [if_neg h18] at ejK23
              refine lv_iconst (v := 0) hx hb dX9_spoiledIn_79 (by decide) ?_
              have ejK23 := Option.some.inj ejK23
              obtain rfl := ejK23
              exact K23 _ _ _ hP hS (lv_sub hl [0, 2] rfl)
            · rw [if_pos h18] at ejK23
              refine lv_aload_n hx hb dX9_spoiledIn_60 rfl (lv_at hl 0 rfl) ?_
              refine w_get hx hb hts iX9_spoiledIn_X9 hown hP hK (by decide) emb_mm rfl 2 (by decide) hk_f13 rfl dX9_spoiledIn_61 ?_
              refine lv_iload_n hx hb dX9_spoiledIn_64 rfl (lv_at hl 2 rfl) ?_
              refine lv_iconst (v := 4) hx hb dX9_spoiledIn_65 (by decide) ?_
              obtain ⟨x24, hc25, ejK23⟩ := ob1_e ejK23
              refine w_csi ⟨hx, hb, hml, hown, hts⟩ hP hK hS (by have hM := k9_of l hX AR_u (pmm w s0 u8 sv0 tx0 ow0 rs0 rn0 nu0 q6) hc25; simp only [pmm_u] at hM; exact hM) hc_42 rfl hl.1 rfl (Nat.le_of_ble_eq_true rfl) dX9_spoiledIn_66 ⟨Nat.zero_le _, Nat.zero_le _⟩ (fun H locs hP hS => ?_)
              refine lv_iconst (v := 3) hx hb dX9_spoiledIn_69 (by decide) ?_
              refine lv_icmp_ne (tgt := 79) hx hb dX9_spoiledIn_70 (by decide) (fun h26 => ?_) (fun h26 => ?_)
              · rw [if_neg h26] at ejK23
                refine lv_iconst (v := 0) hx hb dX9_spoiledIn_79 (by decide) ?_
                have ejK23 := Option.some.inj ejK23
                obtain rfl := ejK23
                exact K23 _ _ _ hP hS (lv_sub hl [0, 2] rfl)
              · rw [if_pos h26] at ejK23
                refine lv_iconst (v := 1) hx hb dX9_spoiledIn_73 (by decide) ?_
                refine lv_iload_n hx hb dX9_spoiledIn_74 rfl (lv_at hl 2 rfl) ?_
                refine lv_ishl hx hb dX9_spoiledIn_75 ?_
                refine lv_goto (tgt := 80) hx hb dX9_spoiledIn_76 (by decide) ?_
                have ejK23 := Option.some.inj ejK23
                obtain rfl := ejK23
                exact K23 _ _ _ hP hS (lv_sub hl [0, 2] rfl)
      obtain ⟨x29, hc30, hf⟩ := ob1_e hf
      refine L37 N 0 0  x29 _ _ _ hc30 hP hS (lv_sub hl [2, 1, 0] rfl) (fun H locs ls hP hS hl => ?_)
      refine lv_iload_n hx hb dX9_spoiledIn_88 rfl (lv_at hl 0 rfl) ?_
      have hf := Option.some.inj hf
      simp only [Prod.mk.injEq] at hf
      obtain ⟨rfl, rfl, rfl⟩ := hf
      rw [hQ]
      exact w_iret hx hb hr hlocks hP hK hS dX9_spoiledIn_89 rfl rfl
    · rw [if_neg h7] at hf
      refine lv_iconst (v := 0) hx hb dX9_spoiledIn_26 (by decide) ?_
      have hf := Option.some.inj hf
      simp only [Prod.mk.injEq] at hf
      obtain ⟨rfl, rfl, rfl⟩ := hf
      rw [hQ]
      exact w_iret hx hb hr hlocks hP hK hS dX9_spoiledIn_27 rfl rfl
  clear hf
  refine lv_if_eq (tgt := 15) hx hb dX9_spoiledIn_8 (by decide) (fun h3 => ?_) (fun h3 => ?_)
  · rw [if_pos h3] at ejK5
    refine lv_iconst (v := 1) hx hb dX9_spoiledIn_15 (by decide) ?_
    obtain rfl := ejK5
    exact K5 _ _ _ hP hS (lv_sub hl [0, 1] rfl)
  · rw [if_neg h3] at ejK5
    refine lv_iconst (v := 0) hx hb dX9_spoiledIn_11 (by decide) ?_
    refine lv_goto (tgt := 16) hx hb dX9_spoiledIn_12 (by decide) ?_
    obtain rfl := ejK5
    exact K5 _ _ _ hP hS (lv_sub hl [0, 1] rfl)
