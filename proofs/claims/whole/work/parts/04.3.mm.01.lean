abbrev rmX9_addDoughNow : Room := { frames := 1, cells := 0, slots := 0, locals := 23 }
theorem iX9_addDoughNow_X9 : ∀ w ∈ wsX90, w ∈ wsX9_addDoughNow := by decide +kernel
set_option maxHeartbeats 4000000 in
set_option maxRecDepth 100000 in
theorem k9_addDoughNow (l : Launch) {X : bkX} {b0 : Nat} (hX : XO X b0) (w : bkW) {s0 : Nat → Int32} {u0 : Nat → Int32} {sv0 : Nat → Int32} {tx0 : Nat → Int32} {ow0 : Nat → Int32} {rs0 : Nat → Int64} {rn0 : Nat → Int32} {nu0 : Nat → Int32} {q0 : Nat → Int32} {a1 : Int32} {a2 : Int32} {a3 : Int32} {res9 : Int32} {s9 : Nat → Int32} (hf : m9_addDoughNow s0 a1 a2 a3 = some (res9, s9)) : cI l yX9_addDoughNow wsX9_addDoughNow rmX9_addDoughNow X b0 [.ref (xa X 314), .int a1, .int a2, .int a3] (pmm w s0 u0 sv0 tx0 ow0 rs0 rn0 nu0 q0) res9 (pmm w s9 u0 sv0 tx0 ow0 rs0 rn0 nu0 q0) := by
  refine Met.ofW (cc := cX9_addDoughNow) (maxL := 5) (ret := (some .int)) (by decide) rfl ?_
  intro p e s m args below meth c s₁ B hml hv
  obtain ⟨ha, hP, hK⟩ := hv
  have hx := B.exec
  have hb := B.bytes
  have hr := B.returns
  have hts := atoms_spec (ws := wsX9_addDoughNow) B.pre
  have hown : s.vm.findClass RX9 = some m.cls := findClass_of_methodNamed B.named
  have hlocks := B.notSynchronized
  obtain ⟨R, hR⟩ : ∃ R, R = (headSpec wsX9_addDoughNow rmX9_addDoughNow).room := ⟨_, rfl⟩
  rw [← hR]
  have hR1 : R.frames = 1 := by rw [hR]; rfl
  have hR2 : R.locals = 23 := by rw [hR]; rfl
  obtain ⟨Q, hQ⟩ : ∃ Q : State → Prop, Q = MQ below (va_Qi (fun r' (_ : Unit) => r' = res9) (fun _ t => WU X (pmm w s9 u0 sv0 tx0 ow0 rs0 rn0 nu0 q0) t) (xF b0)) args s 0 0 (xF b0) := ⟨_, rfl⟩
  rw [← hQ]
  have hS : va_S (xF b0) s.heap s.heap [] := va_S.rf
  have hl := lv_entry ([.ref (xa X 314), .int a1, .int a2, .int a3]) (n := 5) (Nat.le_of_ble_eq_true rfl)
  refine W.eq ((congrArg (fun z => entryFrame m z 5) ha).trans (lg_entry_eq m _ 5)) ?_
  generalize (lg_sl ([.ref (xa X 314), .int a1, .int a2, .int a3]) ++ List.replicate (5 - (lg_sl ([.ref (xa X 314), .int a1, .int a2, .int a3])).length) Slot.unset).toArray = ls at hl ⊢
  have hl : lv_has ls 5 [(0, .ref (xa X 314)), (1, .int a1), (2, .int a2), (3, .int a3)] := hl
  have hk_f7 := hts (.fieldLink RX9 7 "BakeTurnsModel" "s" "[I") (by decide +kernel)
  have hc_57 := (cwS 4 hts gX9_addDoughNow_X9_put rfl rfl rfl (by decide +kernel) ⟨by rw [hR1]; exact Nat.le_of_ble_eq_true rfl, by rw [hR2]; exact Nat.le_of_ble_eq_true rfl⟩ : CallB R s args RX9 57 yX9_put cX9_put 4 none wsX9_put rmX9_put 0 0 4 ∧ (Cond.static yX9_put).before args s = true)
  unfold m9_addDoughNow at hf
  refine lv_aload_n hx hb dX9_addDoughNow_0 rfl (lv_at hl 0 rfl) ?_
  refine w_get hx hb hts iX9_addDoughNow_X9 hown hP hK (by decide) emb_mm rfl 1 (by decide) hk_f7 rfl dX9_addDoughNow_1 ?_
  refine lv_iconst (v := 4) hx hb dX9_addDoughNow_4 (by decide) ?_
  obtain ⟨hin1, hf⟩ := ck_e hf
  refine ar_ald (g := s0) hx hb AR_s rfl hP hK hin1 dX9_addDoughNow_5 ?_
  refine lv_topi (fun x2 ex2 => ?_)
  replace hf := ltn_s ex2 hf
  refine lv_istore (lv' := [(4, .int x2), (0, .ref (xa X 314)), (1, .int a1), (2, .int a2), (3, .int a3)]) hx hb dX9_addDoughNow_6 hl (by decide) rfl (fun ls hl => ?_)
  refine lv_aload_n hx hb dX9_addDoughNow_8 rfl (lv_at hl 1 rfl) ?_
  refine w_get hx hb hts iX9_addDoughNow_X9 hown hP hK (by decide) emb_mm rfl 1 (by decide) hk_f7 rfl dX9_addDoughNow_9 ?_
  refine lv_iconst (v := 4) hx hb dX9_addDoughNow_12 (by decide) ?_
  refine lv_dup2_11 hx hb dX9_addDoughNow_13 rfl rfl ?_
  obtain ⟨hin3, hf⟩ := ck_e hf
  refine ar_ald (g := s0) hx hb AR_s rfl hP hK hin3 dX9_addDoughNow_14 ?_
  refine lv_iconst (v := 1) hx hb dX9_addDoughNow_15 (by decide) ?_
  refine lv_iadd hx hb dX9_addDoughNow_16 ?_
  obtain ⟨hin4, hf⟩ := ck_e hf
  refine ar_ast (g := s0) hx hb hX AR_s rfl (fun z => pmm w z u0 sv0 tx0 ow0 rs0 rn0 nu0 q0) (fun z => pmm_s) hP hK hS hin4 dX9_addDoughNow_17 (fun s5 es5 H locs hP hS => ?_)
  replace hf := ltn_s es5 hf
  refine lv_aload_n hx hb dX9_addDoughNow_18 rfl (lv_at hl 1 rfl) ?_
  refine w_get hx hb hts iX9_addDoughNow_X9 hown hP hK (by decide) emb_mm rfl 1 (by decide) hk_f7 rfl dX9_addDoughNow_19 ?_
  refine lv_iload hx hb dX9_addDoughNow_22 (lv_at hl 0 rfl) ?_
  refine lv_iconst (v := 0) hx hb dX9_addDoughNow_24 (by decide) ?_
  refine lv_iload_n hx hb dX9_addDoughNow_25 rfl (lv_at hl 2 rfl) ?_
  obtain ⟨s6, hc7, hf⟩ := ob1_e hf
  refine w_csv ⟨hx, hb, hml, hown, hts⟩ hP hK hS (by have hM := k9_put l hX AR_s (pmm w s5 u0 sv0 tx0 ow0 rs0 rn0 nu0 q0) hc7; simp only [pmm_s] at hM; exact hM) hc_57 rfl hl.1 rfl (Nat.le_of_ble_eq_true rfl) dX9_addDoughNow_26 ⟨Nat.zero_le _, Nat.zero_le _⟩ (fun H locs hP hS => ?_)
  refine lv_aload_n hx hb dX9_addDoughNow_29 rfl (lv_at hl 1 rfl) ?_
  refine w_get hx hb hts iX9_addDoughNow_X9 hown hP hK (by decide) emb_mm rfl 1 (by decide) hk_f7 rfl dX9_addDoughNow_30 ?_
  refine lv_iload hx hb dX9_addDoughNow_33 (lv_at hl 0 rfl) ?_
  refine lv_iconst (v := 1) hx hb dX9_addDoughNow_35 (by decide) ?_
  refine lv_iload_n hx hb dX9_addDoughNow_36 rfl (lv_at hl 3 rfl) ?_
  obtain ⟨s8, hc9, hf⟩ := ob1_e hf
  refine w_csv ⟨hx, hb, hml, hown, hts⟩ hP hK hS (by have hM := k9_put l hX AR_s (pmm w s6 u0 sv0 tx0 ow0 rs0 rn0 nu0 q0) hc9; simp only [pmm_s] at hM; exact hM) hc_57 rfl hl.1 rfl (Nat.le_of_ble_eq_true rfl) dX9_addDoughNow_37 ⟨Nat.zero_le _, Nat.zero_le _⟩ (fun H locs hP hS => ?_)
  refine lv_aload_n hx hb dX9_addDoughNow_40 rfl (lv_at hl 1 rfl) ?_
  refine w_get hx hb hts iX9_addDoughNow_X9 hown hP hK (by decide) emb_mm rfl 1 (by decide) hk_f7 rfl dX9_addDoughNow_41 ?_
  refine lv_iload hx hb dX9_addDoughNow_44 (lv_at hl 0 rfl) ?_
  refine lv_iconst (v := 2) hx hb dX9_addDoughNow_46 (by decide) ?_
  refine lv_iload_n hx hb dX9_addDoughNow_47 rfl (lv_at hl 4 rfl) ?_
  obtain ⟨s10, hc11, hf⟩ := ob1_e hf
  refine w_csv ⟨hx, hb, hml, hown, hts⟩ hP hK hS (by have hM := k9_put l hX AR_s (pmm w s8 u0 sv0 tx0 ow0 rs0 rn0 nu0 q0) hc11; simp only [pmm_s] at hM; exact hM) hc_57 rfl hl.1 rfl (Nat.le_of_ble_eq_true rfl) dX9_addDoughNow_48 ⟨Nat.zero_le _, Nat.zero_le _⟩ (fun H locs hP hS => ?_)
  refine lv_aload_n hx hb dX9_addDoughNow_51 rfl (lv_at hl 1 rfl) ?_
  refine w_get hx hb hts iX9_addDoughNow_X9 hown hP hK (by decide) emb_mm rfl 1 (by decide) hk_f7 rfl dX9_addDoughNow_52 ?_
  refine lv_iload hx hb dX9_addDoughNow_55 (lv_at hl 0 rfl) ?_
  refine lv_iconst (v := 3) hx hb dX9_addDoughNow_57 (by decide) ?_
  refine lv_iconst (v := 0) hx hb dX9_addDoughNow_58 (by decide) ?_
  obtain ⟨s12, hc13, hf⟩ := ob1_e hf
  refine w_csv ⟨hx, hb, hml, hown, hts⟩ hP hK hS (by have hM := k9_put l hX AR_s (pmm w s10 u0 sv0 tx0 ow0 rs0 rn0 nu0 q0) hc13; simp only [pmm_s] at hM; exact hM) hc_57 rfl hl.1 rfl (Nat.le_of_ble_eq_true rfl) dX9_addDoughNow_59 ⟨Nat.zero_le _, Nat.zero_le _⟩ (fun H locs hP hS => ?_)
  refine lv_aload_n hx hb dX9_addDoughNow_62 rfl (lv_at hl 1 rfl) ?_
  refine w_get hx hb hts iX9_addDoughNow_X9 hown hP hK (by decide) emb_mm rfl 1 (by decide) hk_f7 rfl dX9_addDoughNow_63 ?_
  refine lv_iload hx hb dX9_addDoughNow_66 (lv_at hl 0 rfl) ?_
  refine lv_iconst (v := 4) hx hb dX9_addDoughNow_68 (by decide) ?_
  refine lv_iconst (v := 0) hx hb dX9_addDoughNow_69 (by decide) ?_
  obtain ⟨s14, hc15, hf⟩ := ob1_e hf
  refine w_csv ⟨hx, hb, hml, hown, hts⟩ hP hK hS (by have hM := k9_put l hX AR_s (pmm w s12 u0 sv0 tx0 ow0 rs0 rn0 nu0 q0) hc15; simp only [pmm_s] at hM; exact hM) hc_57 rfl hl.1 rfl (Nat.le_of_ble_eq_true rfl) dX9_addDoughNow_70 ⟨Nat.zero_le _, Nat.zero_le _⟩ (fun H locs hP hS => ?_)
  refine lv_aload_n hx hb dX9_addDoughNow_73 rfl (lv_at hl 1 rfl) ?_
  refine w_get hx hb hts iX9_addDoughNow_X9 hown hP hK (by decide) emb_mm rfl 1 (by decide) hk_f7 rfl dX9_addDoughNow_74 ?_
  refine lv_iload hx hb dX9_addDoughNow_77 (lv_at hl 0 rfl) ?_
  refine lv_iconst (v := 5) hx hb dX9_addDoughNow_79 (by decide) ?_
  refine lv_iconst (v := 0) hx hb dX9_addDoughNow_80 (by decide) ?_
  obtain ⟨s16, hc17, hf⟩ := ob1_e hf
  refine w_csv ⟨hx, hb, hml, hown, hts⟩ hP hK hS (by have hM := k9_put l hX AR_s (pmm w s14 u0 sv0 tx0 ow0 rs0 rn0 nu0 q0) hc17; simp only [pmm_s] at hM; exact hM) hc_57 rfl hl.1 rfl (Nat.le_of_ble_eq_true rfl) dX9_addDoughNow_81 ⟨Nat.zero_le _, Nat.zero_le _⟩ (fun H locs hP hS => ?_)
  refine lv_aload_n hx hb dX9_addDoughNow_84 rfl (lv_at hl 1 rfl) ?_
  refine w_get hx hb hts iX9_addDoughNow_X9 hown hP hK (by decide) emb_mm rfl 1 (by decide) hk_f7 rfl dX9_addDoughNow_85 ?_
  refine lv_iload hx hb dX9_addDoughNow_88 (lv_at hl 0 rfl) ?_
  refine lv_bipush (v := 6) hx hb dX9_addDoughNow_90 (by decide) ?_
  refine lv_iconst (v := (-1)) hx hb dX9_addDoughNow_92 (by decide) ?_
  obtain ⟨s18, hc19, hf⟩ := ob1_e hf
  refine w_csv ⟨hx, hb, hml, hown, hts⟩ hP hK hS (by have hM := k9_put l hX AR_s (pmm w s16 u0 sv0 tx0 ow0 rs0 rn0 nu0 q0) hc19; simp only [pmm_s] at hM; exact hM) hc_57 rfl hl.1 rfl (Nat.le_of_ble_eq_true rfl) dX9_addDoughNow_93 ⟨Nat.zero_le _, Nat.zero_le _⟩ (fun H locs hP hS => ?_)
  refine lv_aload_n hx hb dX9_addDoughNow_96 rfl (lv_at hl 1 rfl) ?_
  refine w_get hx hb hts iX9_addDoughNow_X9 hown hP hK (by decide) emb_mm rfl 1 (by decide) hk_f7 rfl dX9_addDoughNow_97 ?_
  refine lv_iload hx hb dX9_addDoughNow_100 (lv_at hl 0 rfl) ?_
  refine lv_bipush (v := 7) hx hb dX9_addDoughNow_102 (by decide) ?_
  refine lv_iconst (v := 0) hx hb dX9_addDoughNow_104 (by decide) ?_
  obtain ⟨s20, hc21, hf⟩ := ob1_e hf
  refine w_csv ⟨hx, hb, hml, hown, hts⟩ hP hK hS (by have hM := k9_put l hX AR_s (pmm w s18 u0 sv0 tx0 ow0 rs0 rn0 nu0 q0) hc21; simp only [pmm_s] at hM; exact hM) hc_57 rfl hl.1 rfl (Nat.le_of_ble_eq_true rfl) dX9_addDoughNow_105 ⟨Nat.zero_le _, Nat.zero_le _⟩ (fun H locs hP hS => ?_)
  refine lv_aload_n hx hb dX9_addDoughNow_108 rfl (lv_at hl 1 rfl) ?_
  refine w_get hx hb hts iX9_addDoughNow_X9 hown hP hK (by decide) emb_mm rfl 1 (by decide) hk_f7 rfl dX9_addDoughNow_109 ?_
  refine lv_sipush (v := 213) hx hb dX9_addDoughNow_112 (by decide) ?_
  refine lv_aload_n hx hb dX9_addDoughNow_115 rfl (lv_at hl 1 rfl) ?_
  refine w_get hx hb hts iX9_addDoughNow_X9 hown hP hK (by decide) emb_mm rfl 1 (by decide) hk_f7 rfl dX9_addDoughNow_116 ?_
  refine lv_iconst (v := 5) hx hb dX9_addDoughNow_119 (by decide) ?_
  obtain ⟨hin22, hf⟩ := ck_e hf
  refine ar_ald (g := s20) hx hb AR_s rfl hP hK hin22 dX9_addDoughNow_120 ?_
  refine lv_iadd hx hb dX9_addDoughNow_121 ?_
  refine lv_iload hx hb dX9_addDoughNow_122 (lv_at hl 0 rfl) ?_
  obtain ⟨hin23, hf⟩ := ck_e hf
  refine ar_ast (g := s20) hx hb hX AR_s rfl (fun z => pmm w z u0 sv0 tx0 ow0 rs0 rn0 nu0 q0) (fun z => pmm_s) hP hK hS hin23 dX9_addDoughNow_124 (fun s24 es24 H locs hP hS => ?_)
  replace hf := ltn_s es24 hf
  refine lv_aload_n hx hb dX9_addDoughNow_125 rfl (lv_at hl 1 rfl) ?_
  refine w_get hx hb hts iX9_addDoughNow_X9 hown hP hK (by decide) emb_mm rfl 1 (by decide) hk_f7 rfl dX9_addDoughNow_126 ?_
  refine lv_iconst (v := 5) hx hb dX9_addDoughNow_129 (by decide) ?_
  refine lv_dup2_11 hx hb dX9_addDoughNow_130 rfl rfl ?_
  obtain ⟨hin25, hf⟩ := ck_e hf
  refine ar_ald (g := s24) hx hb AR_s rfl hP hK hin25 dX9_addDoughNow_131 ?_
  refine lv_iconst (v := 1) hx hb dX9_addDoughNow_132 (by decide) ?_
  refine lv_iadd hx hb dX9_addDoughNow_133 ?_
  obtain ⟨hin26, hf⟩ := ck_e hf
  refine ar_ast (g := s24) hx hb hX AR_s rfl (fun z => pmm w z u0 sv0 tx0 ow0 rs0 rn0 nu0 q0) (fun z => pmm_s) hP hK hS hin26 dX9_addDoughNow_134 (fun s27 es27 H locs hP hS => ?_)
  replace hf := ltn_s es27 hf
  refine lv_iload hx hb dX9_addDoughNow_135 (lv_at hl 0 rfl) ?_
  have hf := Option.some.inj hf
  simp only [Prod.mk.injEq] at hf
  obtain ⟨rfl, rfl⟩ := hf
  rw [hQ]
  exact w_iret hx hb hr hlocks hP hK hS dX9_addDoughNow_137 rfl rfl
abbrev rmX9_addDough : Room := { frames := 3, cells := 0, slots := 0, locals := 66 }
theorem iX9_addDough_X9 : ∀ w ∈ wsX90, w ∈ wsX9_addDough := by decide +kernel
set_option maxHeartbeats 4000000 in
set_option maxRecDepth 100000 in
theorem k9_addDough (l : Launch) {X : bkX} {b0 : Nat} (hX : XO X b0) (w : bkW) {N : Nat} {s0 : Nat → Int32} {u0 : Nat → Int32} {sv0 : Nat → Int32} {tx0 : Nat → Int32} {ow0 : Nat → Int32} {rs0 : Nat → Int64} {rn0 : Nat → Int32} {nu0 : Nat → Int32} {q0 : Nat → Int32} {a1 : Int32} {a2 : Int32} {a3 : Int32} {res9 : Int32} {s9 : Nat → Int32} {sv9 : Nat → Int32} {q9 : Nat → Int32} (hf : m9_addDough N s0 sv0 q0 a1 a2 a3 = some (res9, s9, sv9, q9)) : cI l yX9_addDough wsX9_addDough rmX9_addDough X b0 [.ref (xa X 314), .int a1, .int a2, .int a3] (pmm w s0 u0 sv0 tx0 ow0 rs0 rn0 nu0 q0) res9 (pmm w s9 u0 sv9 tx0 ow0 rs0 rn0 nu0 q9) := by
  refine Met.ofW (cc := cX9_addDough) (maxL := 4) (ret := (some .int)) (by decide) rfl ?_
  intro p e s m args below meth c s₁ B hml hv
  obtain ⟨ha, hP, hK⟩ := hv
  have hx := B.exec
  have hb := B.bytes
  have hr := B.returns
  have hts := atoms_spec (ws := wsX9_addDough) B.pre
  have hown : s.vm.findClass RX9 = some m.cls := findClass_of_methodNamed B.named
  have hlocks := B.notSynchronized
  obtain ⟨R, hR⟩ : ∃ R, R = (headSpec wsX9_addDough rmX9_addDough).room := ⟨_, rfl⟩
  rw [← hR]
  have hR1 : R.frames = 3 := by rw [hR]; rfl
  have hR2 : R.locals = 66 := by rw [hR]; rfl
  obtain ⟨Q, hQ⟩ : ∃ Q : State → Prop, Q = MQ below (va_Qi (fun r' (_ : Unit) => r' = res9) (fun _ t => WU X (pmm w s9 u0 sv9 tx0 ow0 rs0 rn0 nu0 q9) t) (xF b0)) args s 0 0 (xF b0) := ⟨_, rfl⟩
  rw [← hQ]
  have hS : va_S (xF b0) s.heap s.heap [] := va_S.rf
  have hl := lv_entry ([.ref (xa X 314), .int a1, .int a2, .int a3]) (n := 4) (Nat.le_of_ble_eq_true rfl)
  refine W.eq ((congrArg (fun z => entryFrame m z 4) ha).trans (lg_entry_eq m _ 4)) ?_
  generalize (lg_sl ([.ref (xa X 314), .int a1, .int a2, .int a3]) ++ List.replicate (4 - (lg_sl ([.ref (xa X 314), .int a1, .int a2, .int a3])).length) Slot.unset).toArray = ls at hl ⊢
  have hl : lv_has ls 4 [(0, .ref (xa X 314)), (1, .int a1), (2, .int a2), (3, .int a3)] := hl
  have hc_129 := (cwV 3 hts gX9_addDough_X9_doughCode rfl rfl rfl (by decide +kernel) ⟨by rw [hR1]; exact Nat.le_of_ble_eq_true rfl, by rw [hR2]; exact Nat.le_of_ble_eq_true rfl⟩ : CallW R s args RX9 RX9 129 yX9_doughCode cX9_doughCode 4 (some .int) wsX9_doughCode rmX9_doughCode 0 0 3)
  have hk_f35 := hts (.fieldLink RX9 35 "BakeTurnsModel" "thrown" "I") (by decide +kernel)
  have hc_112 := (cwV 0 hts gX9_addDough_X9_save rfl rfl rfl (by decide +kernel) ⟨by rw [hR1]; exact Nat.le_of_ble_eq_true rfl, by rw [hR2]; exact Nat.le_of_ble_eq_true rfl⟩ : CallW R s args RX9 RX9 112 yX9_save cX9_save 2 none wsX9_save rmX9_save 0 0 0)
  have hc_133 := (cwV 3 hts gX9_addDough_X9_addDoughNow rfl rfl rfl (by decide +kernel) ⟨by rw [hR1]; exact Nat.le_of_ble_eq_true rfl, by rw [hR2]; exact Nat.le_of_ble_eq_true rfl⟩ : CallW R s args RX9 RX9 133 yX9_addDoughNow cX9_addDoughNow 5 (some .int) wsX9_addDoughNow rmX9_addDoughNow 0 0 3)
  unfold m9_addDough at hf
  refine lv_aload_n hx hb dX9_addDough_0 rfl (lv_at hl 0 rfl) ?_
  refine lv_aload_n hx hb dX9_addDough_1 rfl (lv_at hl 0 rfl) ?_
  refine lv_iload_n hx hb dX9_addDough_2 rfl (lv_at hl 1 rfl) ?_
  refine lv_iload_n hx hb dX9_addDough_3 rfl (lv_at hl 2 rfl) ?_
  refine lv_iload_n hx hb dX9_addDough_4 rfl (lv_at hl 3 rfl) ?_
  obtain ⟨x1, hc2, hf⟩ := ob1_e hf
  refine w_ci ⟨hx, hb, hml, hown, hts⟩ hP hK hS (k9_doughCode l hX w hc2) hc_129 (w_recv hP hK (by decide) emb_mm rfl) rfl hl.1 rfl (Nat.le_of_ble_eq_true rfl) dX9_addDough_5 ⟨Nat.zero_le _, Nat.zero_le _⟩ (fun H locs hP hS => ?_)
  refine mm_put hx hb hts iX9_addDough_X9 hown hX hP hK hS 0 (by decide) hk_f35 rfl rfl (Nat.le_of_ble_eq_true rfl) (mm_es0 _) dX9_addDough_8 (fun q3 eq3 H locs hP hS => ?_)
  replace hf := ltn_s eq3 hf
  refine lv_aload_n hx hb dX9_addDough_11 rfl (lv_at hl 0 rfl) ?_
  refine w_get hx hb hts iX9_addDough_X9 hown hP hK (by decide) emb_mm rfl 0 (by decide) hk_f35 rfl dX9_addDough_12 ?_
  refine lv_if_le (tgt := 20) hx hb dX9_addDough_15 (by decide) (fun h4 => ?_) (fun h4 => ?_)
  · rw [if_pos h4] at hf
    refine lv_aload_n hx hb dX9_addDough_20 rfl (lv_at hl 0 rfl) ?_
    obtain ⟨sv5, q6, hc7, hf⟩ := ob2_e hf
    refine w_cv ⟨hx, hb, hml, hown, hts⟩ hP hK hS (k9_save l hX w hc7) hc_112 (w_recv hP hK (by decide) emb_mm rfl) rfl hl.1 rfl (Nat.le_of_ble_eq_true rfl) dX9_addDough_21 ⟨Nat.zero_le _, Nat.zero_le _⟩ (fun H locs hP hS => ?_)
    refine lv_aload_n hx hb dX9_addDough_24 rfl (lv_at hl 0 rfl) ?_
    refine lv_iload_n hx hb dX9_addDough_25 rfl (lv_at hl 1 rfl) ?_
    refine lv_iload_n hx hb dX9_addDough_26 rfl (lv_at hl 2 rfl) ?_
    refine lv_iload_n hx hb dX9_addDough_27 rfl (lv_at hl 3 rfl) ?_
    obtain ⟨x8, s9, hc10, hf⟩ := ob2_e hf
    refine w_ci ⟨hx, hb, hml, hown, hts⟩ hP hK hS (k9_addDoughNow l hX w hc10) hc_133 (w_recv hP hK (by decide) emb_mm rfl) rfl hl.1 rfl (Nat.le_of_ble_eq_true rfl) dX9_addDough_28 ⟨Nat.zero_le _, Nat.zero_le _⟩ (fun H locs hP hS => ?_)
    have hf := Option.some.inj hf
    simp only [Prod.mk.injEq] at hf
    obtain ⟨rfl, rfl, rfl, rfl⟩ := hf
    rw [hQ]
    exact w_iret hx hb hr hlocks hP hK hS dX9_addDough_31 rfl rfl
  · rw [if_neg h4] at hf
    refine lv_iconst (v := 0) hx hb dX9_addDough_18 (by decide) ?_
    have hf := Option.some.inj hf
    simp only [Prod.mk.injEq] at hf
    obtain ⟨rfl, rfl, rfl, rfl⟩ := hf
    rw [hQ]
    exact w_iret hx hb hr hlocks hP hK hS dX9_addDough_19 rfl rfl
abbrev rmX9_clearDoughs : Room := { frames := 1, cells := 0, slots := 0, locals := 23 }
theorem iX9_clearDoughs_X9 : ∀ w ∈ wsX90, w ∈ wsX9_clearDoughs := by decide +kernel
set_option maxHeartbeats 4000000 in
set_option maxRecDepth 100000 in
theorem k9_clearDoughs (l : Launch) {X : bkX} {b0 : Nat} (hX : XO X b0) (w : bkW) {N : Nat} {s0 : Nat → Int32} {u0 : Nat → Int32} {sv0 : Nat → Int32} {tx0 : Nat → Int32} {ow0 : Nat → Int32} {rs0 : Nat → Int64} {rn0 : Nat → Int32} {nu0 : Nat → Int32} {q0 : Nat → Int32} {res9 : Int32} {s9 : Nat → Int32} {sv9 : Nat → Int32} {rn9 : Nat → Int32} {q9 : Nat → Int32} (hf : m9_clearDoughs N s0 sv0 rn0 q0 = some (res9, s9, sv9, rn9, q9)) : cI l yX9_clearDoughs wsX9_clearDoughs rmX9_clearDoughs X b0 [.ref (xa X 314)] (pmm w s0 u0 sv0 tx0 ow0 rs0 rn0 nu0 q0) res9 (pmm w s9 u0 sv9 tx0 ow0 rs0 rn9 nu0 q9) := by
  refine Met.ofW (cc := cX9_clearDoughs) (maxL := 5) (ret := (some .int)) (by decide) rfl ?_
  intro p e s m args below meth c s₁ B hml hv
  obtain ⟨ha, hP, hK⟩ := hv
  have hx := B.exec
  have hb := B.bytes
  have hr := B.returns
  have hts := atoms_spec (ws := wsX9_clearDoughs) B.pre
  have hown : s.vm.findClass RX9 = some m.cls := findClass_of_methodNamed B.named
  have hlocks := B.notSynchronized
  obtain ⟨R, hR⟩ : ∃ R, R = (headSpec wsX9_clearDoughs rmX9_clearDoughs).room := ⟨_, rfl⟩
  rw [← hR]
  have hR1 : R.frames = 1 := by rw [hR]; rfl
  have hR2 : R.locals = 23 := by rw [hR]; rfl
  obtain ⟨Q, hQ⟩ : ∃ Q : State → Prop, Q = MQ below (va_Qi (fun r' (_ : Unit) => r' = res9) (fun _ t => WU X (pmm w s9 u0 sv9 tx0 ow0 rs0 rn9 nu0 q9) t) (xF b0)) args s 0 0 (xF b0) := ⟨_, rfl⟩
  rw [← hQ]
  have hS : va_S (xF b0) s.heap s.heap [] := va_S.rf
  have hl := lv_entry ([.ref (xa X 314)]) (n := 5) (Nat.le_of_ble_eq_true rfl)
  refine W.eq ((congrArg (fun z => entryFrame m z 5) ha).trans (lg_entry_eq m _ 5)) ?_
  generalize (lg_sl ([.ref (xa X 314)]) ++ List.replicate (5 - (lg_sl ([.ref (xa X 314)])).length) Slot.unset).toArray = ls at hl ⊢
  have hl : lv_has ls 5 [(0, .ref (xa X 314))] := hl
  have hk_f35 := hts (.fieldLink RX9 35 "BakeTurnsModel" "thrown" "I") (by decide +kernel)
  have hc_112 := (cwV 0 hts gX9_clearDoughs_X9_save rfl rfl rfl (by decide +kernel) ⟨by rw [hR1]; exact Nat.le_of_ble_eq_true rfl, by rw [hR2]; exact Nat.le_of_ble_eq_true rfl⟩ : CallW R s args RX9 RX9 112 yX9_save cX9_save 2 none wsX9_save rmX9_save 0 0 0)
  have hk_f7 := hts (.fieldLink RX9 7 "BakeTurnsModel" "s" "[I") (by decide +kernel)
  have hc_42 := (cwS 3 hts gX9_clearDoughs_X9_of rfl rfl rfl (by decide +kernel) ⟨by rw [hR1]; exact Nat.le_of_ble_eq_true rfl, by rw [hR2]; exact Nat.le_of_ble_eq_true rfl⟩ : CallB R s args RX9 42 yX9_of cX9_of 3 (some .int) wsX9_of rmX9_of 0 0 3 ∧ (Cond.static yX9_of).before args s = true)
  have hk_f29 := hts (.fieldLink RX9 29 "BakeTurnsModel" "renamed" "[I") (by decide +kernel)
  have hc_57 := (cwS 4 hts gX9_clearDoughs_X9_put rfl rfl rfl (by decide +kernel) ⟨by rw [hR1]; exact Nat.le_of_ble_eq_true rfl, by rw [hR2]; exact Nat.le_of_ble_eq_true rfl⟩ : CallB R s args RX9 57 yX9_put cX9_put 4 none wsX9_put rmX9_put 0 0 4 ∧ (Cond.static yX9_put).before args s = true)
  have hc_68 := (cwS 3 hts gX9_clearDoughs_X9_at rfl rfl rfl (by decide +kernel) ⟨by rw [hR1]; exact Nat.le_of_ble_eq_true rfl, by rw [hR2]; exact Nat.le_of_ble_eq_true rfl⟩ : CallB R s args RX9 68 yX9_at cX9_at 3 (some .int) wsX9_at rmX9_at 0 0 3 ∧ (Cond.static yX9_at).before args s = true)
  unfold m9_clearDoughs at hf
  refine lv_aload_n hx hb dX9_clearDoughs_0 rfl (lv_at hl 0 rfl) ?_
  refine lv_iconst (v := 0) hx hb dX9_clearDoughs_1 (by decide) ?_
  refine mm_put hx hb hts iX9_clearDoughs_X9 hown hX hP hK hS 0 (by decide) hk_f35 rfl rfl (Nat.le_of_ble_eq_true rfl) (mm_es0 _) dX9_clearDoughs_2 (fun q1 eq1 H locs hP hS => ?_)
  replace hf := ltn_s eq1 hf
  refine lv_aload_n hx hb dX9_clearDoughs_5 rfl (lv_at hl 0 rfl) ?_
  obtain ⟨sv2, q3, hc4, hf⟩ := ob2_e hf
  refine w_cv ⟨hx, hb, hml, hown, hts⟩ hP hK hS (k9_save l hX w hc4) hc_112 (w_recv hP hK (by decide) emb_mm rfl) rfl hl.1 rfl (Nat.le_of_ble_eq_true rfl) dX9_clearDoughs_6 ⟨Nat.zero_le _, Nat.zero_le _⟩ (fun H locs hP hS => ?_)
  refine lv_iconst (v := 0) hx hb dX9_clearDoughs_9 (by decide) ?_
  refine lv_istore_n (lv' := [(1, .int 0), (0, .ref (xa X 314))]) hx hb dX9_clearDoughs_10 rfl hl (by decide) rfl (fun ls hl => ?_)
  refine lv_iconst (v := 0) hx hb dX9_clearDoughs_11 (by decide) ?_
  refine lv_istore_n (lv' := [(2, .int 0), (1, .int 0), (0, .ref (xa X 314))]) hx hb dX9_clearDoughs_12 rfl hl (by decide) rfl (fun ls hl => ?_)
  have L13 : ∀ (n : Nat) (x6 : Int32) (x7 : Int32) (s8 : Nat → Int32) (rn9 : Nat → Int32) (o10 : Int32) (os11 : Nat → Int32) (orn12 : Nat → Int32) (H : Heap) (locs : List Loc) (ls : Array Slot), m9_clearDoughs_L13 N n x6 x7 s8 rn9 = some (o10, os11, orn12) → HW X (pmm w s8 u0 sv2 tx0 ow0 rs0 rn9 nu0 q3) H → va_S (xF b0) s.heap H locs → lv_has ls 5 [(0, .ref (xa X 314)), (1, .int x6), (2, .int x7)] → (∀ (H1 : Heap) (locs1 : List Loc) (ls1 : Array Slot), HW X (pmm w os11 u0 sv2 tx0 ow0 rs0 orn12 nu0 q3) H1 → va_S (xF b0) s.heap H1 locs1 → lv_has ls1 5 [(0, .ref (xa X 314)), (1, .int o10)] → W p l e R s m args below meth c H1 locs1 0 0 Q (F0 m 115 ls1 [])) → W p l e R s m args below meth c H locs 0 0 Q (F0 m 13 ls []) := by
    intro n; induction n with
    | zero => intro x6 x7 s8 rn9 o10 os11 orn12 H locs ls hf; rw [m9_clearDoughs_L13] at hf; cases hf
    | succ n ih =>
      intro x6 x7 s8 rn9 o10 os11 orn12 H locs ls hf hP hS hl K
      rw [m9_clearDoughs_L13] at hf
      refine lv_iload_n hx hb dX9_clearDoughs_13 rfl (lv_at hl 2 rfl) ?_
      refine lv_aload_n hx hb dX9_clearDoughs_14 rfl (lv_at hl 0 rfl) ?_
      refine w_get hx hb hts iX9_clearDoughs_X9 hown hP hK (by decide) emb_mm rfl 1 (by decide) hk_f7 rfl dX9_clearDoughs_15 ?_
      refine lv_iconst (v := 4) hx hb dX9_clearDoughs_18 (by decide) ?_
      obtain ⟨hin13, hf⟩ := ck_e hf
      refine ar_ald (g := s8) hx hb AR_s rfl hP hK hin13 dX9_clearDoughs_19 ?_
      refine lv_icmp_ge (tgt := 115) hx hb dX9_clearDoughs_20 (by decide) (fun h14 => ?_) (fun h14 => ?_)
      · rw [if_pos h14] at hf
        have hf := Option.some.inj hf
        simp only [Prod.mk.injEq] at hf
        obtain ⟨rfl, rfl, rfl⟩ := hf
        exact K _ _ _ hP hS (lv_sub hl [0, 1] rfl)
      · rw [if_neg h14] at hf
        refine lv_aload_n hx hb dX9_clearDoughs_23 rfl (lv_at hl 0 rfl) ?_
        refine w_get hx hb hts iX9_clearDoughs_X9 hown hP hK (by decide) emb_mm rfl 1 (by decide) hk_f7 rfl dX9_clearDoughs_24 ?_
        refine lv_iload_n hx hb dX9_clearDoughs_27 rfl (lv_at hl 2 rfl) ?_
        refine lv_iconst (v := 4) hx hb dX9_clearDoughs_28 (by decide) ?_
        obtain ⟨x15, hc16, hf⟩ := ob1_e hf
        refine w_csi ⟨hx, hb, hml, hown, hts⟩ hP hK hS (by have hM := k9_of l hX AR_s (pmm w s8 u0 sv2 tx0 ow0 rs0 rn9 nu0 q3) hc16; simp only [pmm_s] at hM; exact hM) hc_42 rfl hl.1 rfl (Nat.le_of_ble_eq_true rfl) dX9_clearDoughs_29 ⟨Nat.zero_le _, Nat.zero_le _⟩ (fun H locs hP hS => ?_)
        refine lv_iconst (v := 2) hx hb dX9_clearDoughs_32 (by decide) ?_
        obtain ⟨x18, ejK19, hf⟩ := lt1_e hf
        have K19 : ∀ (H : Heap) (locs : List Loc) (ls : Array Slot), HW X (pmm w s8 u0 sv2 tx0 ow0 rs0 rn9 nu0 q3) H → va_S (xF b0) s.heap H locs → lv_has ls 5 [(0, .ref (xa X 314)), (1, .int x6), (2, .int x7)] → W p l e R s m args below meth c H locs 0 0 Q (F0 m 41 ls [.int x18]) := by
          intro H locs ls hP hS hl
          refine lv_istore_n (lv' := [(3, .int x18), (0, .ref (xa X 314)), (1, .int x6), (2, .int x7)]) hx hb dX9_clearDoughs_41 rfl hl (by decide) rfl (fun ls hl => ?_)
          refine lv_aload_n hx hb dX9_clearDoughs_42 rfl (lv_at hl 1 rfl) ?_
          refine w_get hx hb hts iX9_clearDoughs_X9 hown hP hK (by decide) emb_mm rfl 9 (by decide) hk_f29 rfl dX9_clearDoughs_43 ?_
          refine lv_iload_n hx hb dX9_clearDoughs_46 rfl (lv_at hl 3 rfl) ?_
          refine lv_iload_n hx hb dX9_clearDoughs_47 rfl (lv_at hl 0 rfl) ?_
          obtain ⟨x21, ejK22, hf⟩ := lt1_e hf
          have K22 : ∀ (H : Heap) (locs : List Loc) (ls : Array Slot), HW X (pmm w s8 u0 sv2 tx0 ow0 rs0 rn9 nu0 q3) H → va_S (xF b0) s.heap H locs → lv_has ls 5 [(0, .ref (xa X 314)), (1, .int x6), (2, .int x7), (3, .int x18)] → W p l e R s m args below meth c H locs 0 0 Q (F0 m 56 ls [.int x21, .int x7, .ref (xa X 321)]) := by
            intro H locs ls hP hS hl
            obtain ⟨hin23, hf⟩ := ck_e hf
            refine ar_ast (g := rn9) hx hb hX AR_rn rfl (fun z => pmm w s8 u0 sv2 tx0 ow0 rs0 z nu0 q3) (fun z => pmm_rn) hP hK hS hin23 dX9_clearDoughs_56 (fun rn24 ern24 H locs hP hS => ?_)
            replace hf := ltn_s ern24 hf
            refine lv_iconst (v := 0) hx hb dX9_clearDoughs_57 (by decide) ?_
            refine lv_istore (lv' := [(4, .int 0), (0, .ref (xa X 314)), (1, .int x6), (2, .int x7), (3, .int x18)]) hx hb dX9_clearDoughs_58 hl (by decide) rfl (fun ls hl => ?_)
            have L60 : ∀ (n : Nat) (x26 : Int32) (x27 : Int32) (x28 : Int32) (x29 : Int32) (s30 : Nat → Int32) (os31 : Nat → Int32) (H : Heap) (locs : List Loc) (ls : Array Slot), m9_clearDoughs_L60 N n x26 x27 x28 x29 s30 = some os31 → HW X (pmm w s30 u0 sv2 tx0 ow0 rs0 rn24 nu0 q3) H → va_S (xF b0) s.heap H locs → lv_has ls 5 [(0, .ref (xa X 314)), (1, .int x26), (2, .int x27), (3, .int x28), (4, .int x29)] → (∀ (H1 : Heap) (locs1 : List Loc) (ls1 : Array Slot), HW X (pmm w os31 u0 sv2 tx0 ow0 rs0 rn24 nu0 q3) H1 → va_S (xF b0) s.heap H1 locs1 → lv_has ls1 5 [(0, .ref (xa X 314)), (1, .int x26), (2, .int x27), (3, .int x28)] → W p l e R s m args below meth c H1 locs1 0 0 Q (F0 m 97 ls1 [])) → W p l e R s m args below meth c H locs 0 0 Q (F0 m 60 ls []) := by
              intro n; induction n with
              | zero => intro x26 x27 x28 x29 s30 os31 H locs ls hf; rw [m9_clearDoughs_L60] at hf; cases hf
              | succ n ih =>
                intro x26 x27 x28 x29 s30 os31 H locs ls hf hP hS hl K
                rw [m9_clearDoughs_L60] at hf
                refine lv_iload hx hb dX9_clearDoughs_60 (lv_at hl 4 rfl) ?_
                refine lv_bipush (v := 8) hx hb dX9_clearDoughs_62 (by decide) ?_
                refine lv_icmp_ge (tgt := 97) hx hb dX9_clearDoughs_64 (by decide) (fun h32 => ?_) (fun h32 => ?_)
                · rw [if_pos h32] at hf
                  have hf := Option.some.inj hf
                  obtain rfl := hf
                  exact K _ _ _ hP hS (lv_sub hl [0, 1, 2, 3] rfl)
                · rw [if_neg h32] at hf
                  refine lv_iload_n hx hb dX9_clearDoughs_67 rfl (lv_at hl 3 rfl) ?_
                  refine lv_if_eq (tgt := 97) hx hb dX9_clearDoughs_68 (by decide) (fun h33 => ?_) (fun h33 => ?_)
                  · rw [if_pos h33] at hf
                    have hf := Option.some.inj hf
                    obtain rfl := hf
                    exact K _ _ _ hP hS (lv_sub hl [0, 1, 2, 3] rfl)
                  · rw [if_neg h33] at hf
                    refine lv_aload_n hx hb dX9_clearDoughs_71 rfl (lv_at hl 0 rfl) ?_
                    refine w_get hx hb hts iX9_clearDoughs_X9 hown hP hK (by decide) emb_mm rfl 1 (by decide) hk_f7 rfl dX9_clearDoughs_72 ?_
                    refine lv_iload_n hx hb dX9_clearDoughs_75 rfl (lv_at hl 1 rfl) ?_
                    refine lv_iload hx hb dX9_clearDoughs_76 (lv_at hl 4 rfl) ?_
                    refine lv_aload_n hx hb dX9_clearDoughs_78 rfl (lv_at hl 0 rfl) ?_
                    refine w_get hx hb hts iX9_clearDoughs_X9 hown hP hK (by decide) emb_mm rfl 1 (by decide) hk_f7 rfl dX9_clearDoughs_79 ?_
                    refine lv_iload_n hx hb dX9_clearDoughs_82 rfl (lv_at hl 2 rfl) ?_
                    refine lv_iload hx hb dX9_clearDoughs_83 (lv_at hl 4 rfl) ?_
                    obtain ⟨x34, hc35, hf⟩ := ob1_e hf
                    refine w_csi ⟨hx, hb, hml, hown, hts⟩ hP hK hS (by have hM := k9_of l hX AR_s (pmm w s30 u0 sv2 tx0 ow0 rs0 rn24 nu0 q3) hc35; simp only [pmm_s] at hM; exact hM) hc_42 rfl hl.1 rfl (Nat.le_of_ble_eq_true rfl) dX9_clearDoughs_85 ⟨Nat.zero_le _, Nat.zero_le _⟩ (fun H locs hP hS => ?_)
                    obtain ⟨s36, hc37, hf⟩ := ob1_e hf
                    refine w_csv ⟨hx, hb, hml, hown, hts⟩ hP hK hS (by have hM := k9_put l hX AR_s (pmm w s30 u0 sv2 tx0 ow0 rs0 rn24 nu0 q3) hc37; simp only [pmm_s] at hM; exact hM) hc_57 rfl hl.1 rfl (Nat.le_of_ble_eq_true rfl) dX9_clearDoughs_88 ⟨Nat.zero_le _, Nat.zero_le _⟩ (fun H locs hP hS => ?_)
                    obtain ⟨x38, ex38⟩ : ∃ y : Int32, y = x29 + 1 := ⟨_, rfl⟩
                    replace hf := ltn_s ex38 hf
                    refine lv_iinc (v := x38) (lv' := [(4, .int x38), (0, .ref (xa X 314)), (1, .int x26), (2, .int x27), (3, .int x28)]) hx hb dX9_clearDoughs_91 hl (k := 4) rfl (by rw [ex38]; rfl) (by decide) rfl (fun ls hl => ?_)
                    refine lv_goto (tgt := 60) hx hb dX9_clearDoughs_94 (by decide) ?_
                    exact ih x26 x27 x28 x38 s36 os31 _ _ _ hf hP hS (lv_sub hl [1, 2, 3, 4, 0] rfl) K
            obtain ⟨s39, hc40, hf⟩ := ob1_e hf
            refine L60 N x6 x7 x18 0 s8 s39 _ _ _ hc40 hP hS (lv_sub hl [1, 2, 3, 4, 0] rfl) (fun H locs ls hP hS hl => ?_)
            refine lv_iload_n hx hb dX9_clearDoughs_97 rfl (lv_at hl 1 rfl) ?_
            refine lv_iload_n hx hb dX9_clearDoughs_98 rfl (lv_at hl 3 rfl) ?_
            obtain ⟨x42, ejK43, hf⟩ := lt1_e hf
            have K43 : ∀ (H : Heap) (locs : List Loc) (ls : Array Slot), HW X (pmm w s39 u0 sv2 tx0 ow0 rs0 rn24 nu0 q3) H → va_S (xF b0) s.heap H locs → lv_has ls 5 [(0, .ref (xa X 314)), (2, .int x7)] → W p l e R s m args below meth c H locs 0 0 Q (F0 m 107 ls [.int x42, .int x6]) := by
              intro H locs ls hP hS hl
              refine lv_iadd hx hb dX9_clearDoughs_107 ?_
              refine lv_topi (fun x44 ex44 => ?_)
              replace hf := ltn_s ex44 hf
              refine lv_istore_n (lv' := [(1, .int x44), (0, .ref (xa X 314)), (2, .int x7)]) hx hb dX9_clearDoughs_108 rfl hl (by decide) rfl (fun ls hl => ?_)
              obtain ⟨x45, ex45⟩ : ∃ y : Int32, y = x7 + 1 := ⟨_, rfl⟩
              replace hf := ltn_s ex45 hf
              refine lv_iinc (v := x45) (lv' := [(2, .int x45), (1, .int x44), (0, .ref (xa X 314))]) hx hb dX9_clearDoughs_109 hl (k := 2) rfl (by rw [ex45]; rfl) (by decide) rfl (fun ls hl => ?_)
              refine lv_goto (tgt := 13) hx hb dX9_clearDoughs_112 (by decide) ?_
              exact ih x44 x45 s39 rn24 o10 os11 orn12 _ _ _ hf hP hS (lv_sub hl [2, 1, 0] rfl) K
            clear hf
            refine lv_if_eq (tgt := 106) hx hb dX9_clearDoughs_99 (by decide) (fun h41 => ?_) (fun h41 => ?_)
            · rw [if_pos h41] at ejK43
              refine lv_iconst (v := 0) hx hb dX9_clearDoughs_106 (by decide) ?_
              obtain rfl := ejK43
              exact K43 _ _ _ hP hS (lv_sub hl [0, 2] rfl)
            · rw [if_neg h41] at ejK43
              refine lv_iconst (v := 1) hx hb dX9_clearDoughs_102 (by decide) ?_
              refine lv_goto (tgt := 107) hx hb dX9_clearDoughs_103 (by decide) ?_
              obtain rfl := ejK43
              exact K43 _ _ _ hP hS (lv_sub hl [0, 2] rfl)
          clear hf
          refine lv_if_eq (tgt := 55) hx hb dX9_clearDoughs_48 (by decide) (fun h20 => ?_) (fun h20 => ?_)
          · rw [if_pos h20] at ejK22
            refine lv_iconst (v := (-1)) hx hb dX9_clearDoughs_55 (by decide) ?_
            obtain rfl := ejK22
            exact K22 _ _ _ hP hS (lv_sub hl [1, 2, 3, 0] rfl)
          · rw [if_neg h20] at ejK22
            refine lv_iload_n hx hb dX9_clearDoughs_51 rfl (lv_at hl 2 rfl) ?_
            refine lv_goto (tgt := 56) hx hb dX9_clearDoughs_52 (by decide) ?_
            obtain rfl := ejK22
            exact K22 _ _ _ hP hS (lv_sub hl [1, 2, 3, 0] rfl)
        clear hf
        refine lv_icmp_ge (tgt := 40) hx hb dX9_clearDoughs_33 (by decide) (fun h17 => ?_) (fun h17 => ?_)
        · rw [if_pos h17] at ejK19
          refine lv_iconst (v := 0) hx hb dX9_clearDoughs_40 (by decide) ?_
          obtain rfl := ejK19
          exact K19 _ _ _ hP hS (lv_sub hl [0, 1, 2] rfl)
        · rw [if_neg h17] at ejK19
          refine lv_iconst (v := 1) hx hb dX9_clearDoughs_36 (by decide) ?_
          refine lv_goto (tgt := 41) hx hb dX9_clearDoughs_37 (by decide) ?_
          obtain rfl := ejK19
          exact K19 _ _ _ hP hS (lv_sub hl [0, 1, 2] rfl)
  obtain ⟨x46, s47, rn48, hc49, hf⟩ := ob3_e hf
  refine L13 N 0 0 s0 rn0 x46 s47 rn48 _ _ _ hc49 hP hS (lv_sub hl [2, 1, 0] rfl) (fun H locs ls hP hS hl => ?_)
  refine lv_iconst (v := 0) hx hb dX9_clearDoughs_115 (by decide) ?_
  refine lv_istore_n (lv' := [(2, .int 0), (0, .ref (xa X 314)), (1, .int x46)]) hx hb dX9_clearDoughs_116 rfl hl (by decide) rfl (fun ls hl => ?_)
  have L117 : ∀ (n : Nat) (x51 : Int32) (x52 : Int32) (s53 : Nat → Int32) (os54 : Nat → Int32) (H : Heap) (locs : List Loc) (ls : Array Slot), m9_clearDoughs_L117 N n x51 x52 s53 rn48 = some os54 → HW X (pmm w s53 u0 sv2 tx0 ow0 rs0 rn48 nu0 q3) H → va_S (xF b0) s.heap H locs → lv_has ls 5 [(0, .ref (xa X 314)), (1, .int x51), (2, .int x52)] → (∀ (H1 : Heap) (locs1 : List Loc) (ls1 : Array Slot), HW X (pmm w os54 u0 sv2 tx0 ow0 rs0 rn48 nu0 q3) H1 → va_S (xF b0) s.heap H1 locs1 → lv_has ls1 5 [(0, .ref (xa X 314)), (1, .int x51)] → W p l e R s m args below meth c H1 locs1 0 0 Q (F0 m 158 ls1 [])) → W p l e R s m args below meth c H locs 0 0 Q (F0 m 117 ls []) := by
    intro n; induction n with
    | zero => intro x51 x52 s53 os54 H locs ls hf; rw [m9_clearDoughs_L117] at hf; cases hf
    | succ n ih =>
      intro x51 x52 s53 os54 H locs ls hf hP hS hl K
      rw [m9_clearDoughs_L117] at hf
      refine lv_iload_n hx hb dX9_clearDoughs_117 rfl (lv_at hl 2 rfl) ?_
      refine lv_aload_n hx hb dX9_clearDoughs_118 rfl (lv_at hl 0 rfl) ?_
      refine w_get hx hb hts iX9_clearDoughs_X9 hown hP hK (by decide) emb_mm rfl 1 (by decide) hk_f7 rfl dX9_clearDoughs_119 ?_
      refine lv_iconst (v := 5) hx hb dX9_clearDoughs_122 (by decide) ?_
      obtain ⟨hin55, hf⟩ := ck_e hf
      refine ar_ald (g := s53) hx hb AR_s rfl hP hK hin55 dX9_clearDoughs_123 ?_
      refine lv_icmp_ge (tgt := 158) hx hb dX9_clearDoughs_124 (by decide) (fun h56 => ?_) (fun h56 => ?_)
      · rw [if_pos h56] at hf
        have hf := Option.some.inj hf
        obtain rfl := hf
        exact K _ _ _ hP hS (lv_sub hl [0, 1] rfl)
      · rw [if_neg h56] at hf
        refine lv_aload_n hx hb dX9_clearDoughs_127 rfl (lv_at hl 0 rfl) ?_
        refine w_get hx hb hts iX9_clearDoughs_X9 hown hP hK (by decide) emb_mm rfl 1 (by decide) hk_f7 rfl dX9_clearDoughs_128 ?_
        refine lv_sipush (v := 213) hx hb dX9_clearDoughs_131 (by decide) ?_
        refine lv_iload_n hx hb dX9_clearDoughs_134 rfl (lv_at hl 2 rfl) ?_
        refine lv_iadd hx hb dX9_clearDoughs_135 ?_
        refine lv_aload_n hx hb dX9_clearDoughs_136 rfl (lv_at hl 0 rfl) ?_
        refine w_get hx hb hts iX9_clearDoughs_X9 hown hP hK (by decide) emb_mm rfl 9 (by decide) hk_f29 rfl dX9_clearDoughs_137 ?_
        refine lv_aload_n hx hb dX9_clearDoughs_140 rfl (lv_at hl 0 rfl) ?_
        refine w_get hx hb hts iX9_clearDoughs_X9 hown hP hK (by decide) emb_mm rfl 1 (by decide) hk_f7 rfl dX9_clearDoughs_141 ?_
        refine lv_sipush (v := 213) hx hb dX9_clearDoughs_144 (by decide) ?_
        refine lv_iload_n hx hb dX9_clearDoughs_147 rfl (lv_at hl 2 rfl) ?_
        refine lv_iadd hx hb dX9_clearDoughs_148 ?_
        obtain ⟨hin57, hf⟩ := ck_e hf
        refine ar_ald (g := s53) hx hb AR_s rfl hP hK hin57 dX9_clearDoughs_149 ?_
        obtain ⟨hin58, hf⟩ := ck_e hf
        refine ar_ald (g := rn48) hx hb AR_rn rfl hP hK hin58 dX9_clearDoughs_150 ?_
        obtain ⟨hin59, hf⟩ := ck_e hf
        refine ar_ast (g := s53) hx hb hX AR_s rfl (fun z => pmm w z u0 sv2 tx0 ow0 rs0 rn48 nu0 q3) (fun z => pmm_s) hP hK hS hin59 dX9_clearDoughs_151 (fun s60 es60 H locs hP hS => ?_)
        replace hf := ltn_s es60 hf
        obtain ⟨x61, ex61⟩ : ∃ y : Int32, y = x52 + 1 := ⟨_, rfl⟩
        replace hf := ltn_s ex61 hf
        refine lv_iinc (v := x61) (lv' := [(2, .int x61), (0, .ref (xa X 314)), (1, .int x51)]) hx hb dX9_clearDoughs_152 hl (k := 2) rfl (by rw [ex61]; rfl) (by decide) rfl (fun ls hl => ?_)
        refine lv_goto (tgt := 117) hx hb dX9_clearDoughs_155 (by decide) ?_
        exact ih x51 x61 s60 os54 _ _ _ hf hP hS (lv_sub hl [1, 2, 0] rfl) K
  obtain ⟨s62, hc63, hf⟩ := ob1_e hf
  refine L117 N x46 0 s47 s62 _ _ _ hc63 hP hS (lv_sub hl [1, 2, 0] rfl) (fun H locs ls hP hS hl => ?_)
  refine lv_iconst (v := 0) hx hb dX9_clearDoughs_158 (by decide) ?_
  refine lv_istore_n (lv' := [(2, .int 0), (0, .ref (xa X 314)), (1, .int x46)]) hx hb dX9_clearDoughs_159 rfl hl (by decide) rfl (fun ls hl => ?_)
  have L160 : ∀ (n : Nat) (x65 : Int32) (x66 : Int32) (s67 : Nat → Int32) (os68 : Nat → Int32) (H : Heap) (locs : List Loc) (ls : Array Slot), m9_clearDoughs_L160 N n x65 x66 s67 rn48 = some os68 → HW X (pmm w s67 u0 sv2 tx0 ow0 rs0 rn48 nu0 q3) H → va_S (xF b0) s.heap H locs → lv_has ls 5 [(0, .ref (xa X 314)), (1, .int x65), (2, .int x66)] → (∀ (H1 : Heap) (locs1 : List Loc) (ls1 : Array Slot), HW X (pmm w os68 u0 sv2 tx0 ow0 rs0 rn48 nu0 q3) H1 → va_S (xF b0) s.heap H1 locs1 → lv_has ls1 5 [(0, .ref (xa X 314)), (1, .int x65)] → W p l e R s m args below meth c H1 locs1 0 0 Q (F0 m 211 ls1 [])) → W p l e R s m args below meth c H locs 0 0 Q (F0 m 160 ls []) := by
    intro n; induction n with
    | zero => intro x65 x66 s67 os68 H locs ls hf; rw [m9_clearDoughs_L160] at hf; cases hf
    | succ n ih =>
      intro x65 x66 s67 os68 H locs ls hf hP hS hl K
      rw [m9_clearDoughs_L160] at hf
      refine lv_iload_n hx hb dX9_clearDoughs_160 rfl (lv_at hl 2 rfl) ?_
      refine lv_bipush (v := 12) hx hb dX9_clearDoughs_161 (by decide) ?_
      refine lv_icmp_ge (tgt := 211) hx hb dX9_clearDoughs_163 (by decide) (fun h69 => ?_) (fun h69 => ?_)
      · rw [if_pos h69] at hf
        have hf := Option.some.inj hf
        obtain rfl := hf
        exact K _ _ _ hP hS (lv_sub hl [0, 1] rfl)
      · rw [if_neg h69] at hf
        refine lv_aload_n hx hb dX9_clearDoughs_166 rfl (lv_at hl 0 rfl) ?_
        refine w_get hx hb hts iX9_clearDoughs_X9 hown hP hK (by decide) emb_mm rfl 1 (by decide) hk_f7 rfl dX9_clearDoughs_167 ?_
        refine lv_iload_n hx hb dX9_clearDoughs_170 rfl (lv_at hl 2 rfl) ?_
        refine lv_iconst (v := 0) hx hb dX9_clearDoughs_171 (by decide) ?_
        obtain ⟨x70, hc71, hf⟩ := ob1_e hf
        refine w_csi ⟨hx, hb, hml, hown, hts⟩ hP hK hS (by have hM := k9_at l hX AR_s (pmm w s67 u0 sv2 tx0 ow0 rs0 rn48 nu0 q3) hc71; simp only [pmm_s] at hM; exact hM) hc_68 rfl hl.1 rfl (Nat.le_of_ble_eq_true rfl) dX9_clearDoughs_172 ⟨Nat.zero_le _, Nat.zero_le _⟩ (fun H locs hP hS => ?_)
        refine lv_istore_n (lv' := [(3, .int x70), (0, .ref (xa X 314)), (1, .int x65), (2, .int x66)]) hx hb dX9_clearDoughs_175 rfl hl (by decide) rfl (fun ls hl => ?_)
        refine lv_aload_n hx hb dX9_clearDoughs_176 rfl (lv_at hl 1 rfl) ?_
        refine w_get hx hb hts iX9_clearDoughs_X9 hown hP hK (by decide) emb_mm rfl 1 (by decide) hk_f7 rfl dX9_clearDoughs_177 ?_
        refine lv_sipush (v := 229) hx hb dX9_clearDoughs_180 (by decide) ?_
        refine lv_iconst (v := 3) hx hb dX9_clearDoughs_183 (by decide) ?_
        refine lv_iload_n hx hb dX9_clearDoughs_184 rfl (lv_at hl 3 rfl) ?_
        refine lv_imul hx hb dX9_clearDoughs_185 ?_
        refine lv_iadd hx hb dX9_clearDoughs_186 ?_
        refine lv_iconst (v := 0) hx hb dX9_clearDoughs_187 (by decide) ?_
        refine lv_iadd hx hb dX9_clearDoughs_188 ?_
        refine lv_iload_n hx hb dX9_clearDoughs_189 rfl (lv_at hl 0 rfl) ?_
        refine lv_iconst (v := (-1)) hx hb dX9_clearDoughs_190 (by decide) ?_
        obtain ⟨x74, x75, ejK76, hf⟩ := ob2_e hf
        have K76 : ∀ (H : Heap) (locs : List Loc) (ls : Array Slot), HW X (pmm w s67 u0 sv2 tx0 ow0 rs0 rn48 nu0 q3) H → va_S (xF b0) s.heap H locs → lv_has ls 5 [(0, .ref (xa X 314)), (1, .int x65), (2, .int x66)] → W p l e R s m args below meth c H locs 0 0 Q (F0 m 204 ls [.int x75, .int x74, .ref (xa X 315)]) := by
          intro H locs ls hP hS hl
          obtain ⟨hin78, hf⟩ := ck_e hf
          refine ar_ast (g := s67) hx hb hX AR_s rfl (fun z => pmm w z u0 sv2 tx0 ow0 rs0 rn48 nu0 q3) (fun z => pmm_s) hP hK hS hin78 dX9_clearDoughs_204 (fun s79 es79 H locs hP hS => ?_)
          replace hf := ltn_s es79 hf
          obtain ⟨x80, ex80⟩ : ∃ y : Int32, y = x66 + 1 := ⟨_, rfl⟩
          replace hf := ltn_s ex80 hf
          refine lv_iinc (v := x80) (lv' := [(2, .int x80), (0, .ref (xa X 314)), (1, .int x65)]) hx hb dX9_clearDoughs_205 hl (k := 2) rfl (by rw [ex80]; rfl) (by decide) rfl (fun ls hl => ?_)
          refine lv_goto (tgt := 160) hx hb dX9_clearDoughs_208 (by decide) ?_
          exact ih x65 x80 s79 os68 _ _ _ hf hP hS (lv_sub hl [1, 2, 0] rfl) K
        clear hf
        refine lv_icmp_ne (tgt := 198) hx hb dX9_clearDoughs_191 (by decide) (fun h72 => ?_) (fun h72 => ?_)
        · rw [if_neg h72] at ejK76
          refine lv_aload_n hx hb dX9_clearDoughs_198 rfl (lv_at hl 1 rfl) ?_
          refine w_get hx hb hts iX9_clearDoughs_X9 hown hP hK (by decide) emb_mm rfl 9 (by decide) hk_f29 rfl dX9_clearDoughs_199 ?_
          refine lv_iload_n hx hb dX9_clearDoughs_202 rfl (lv_at hl 0 rfl) ?_
          obtain ⟨hin77, ejK76⟩ := ck_e ejK76
          refine ar_ald (g := rn48) hx hb AR_rn rfl hP hK hin77 dX9_clearDoughs_203 ?_
          have ejK76 := Option.some.inj ejK76
          simp only [Prod.mk.injEq] at ejK76
          obtain ⟨rfl, rfl⟩ := ejK76
          exact K76 _ _ _ hP hS (lv_sub hl [1, 2, 3] rfl)
        · rw [if_pos h72] at ejK76
          refine lv_iconst (v := (-1)) hx hb dX9_clearDoughs_194 (by decide) ?_
          refine lv_goto (tgt := 204) hx hb dX9_clearDoughs_195 (by decide) ?_
          have ejK76 := Option.some.inj ejK76
          simp only [Prod.mk.injEq] at ejK76
          obtain ⟨rfl, rfl⟩ := ejK76
          exact K76 _ _ _ hP hS (lv_sub hl [1, 2, 3] rfl)
  obtain ⟨s81, hc82, hf⟩ := ob1_e hf
  refine L160 N x46 0 s62 s81 _ _ _ hc82 hP hS (lv_sub hl [1, 2, 0] rfl) (fun H locs ls hP hS hl => ?_)
  refine lv_aload_n hx hb dX9_clearDoughs_211 rfl (lv_at hl 0 rfl) ?_
  refine w_get hx hb hts iX9_clearDoughs_X9 hown hP hK (by decide) emb_mm rfl 1 (by decide) hk_f7 rfl dX9_clearDoughs_212 ?_
  refine lv_iconst (v := 4) hx hb dX9_clearDoughs_215 (by decide) ?_
  refine lv_iload_n hx hb dX9_clearDoughs_216 rfl (lv_at hl 1 rfl) ?_
  obtain ⟨hin83, hf⟩ := ck_e hf
  refine ar_ast (g := s81) hx hb hX AR_s rfl (fun z => pmm w z u0 sv2 tx0 ow0 rs0 rn48 nu0 q3) (fun z => pmm_s) hP hK hS hin83 dX9_clearDoughs_217 (fun s84 es84 H locs hP hS => ?_)
  replace hf := ltn_s es84 hf
  refine lv_iload_n hx hb dX9_clearDoughs_218 rfl (lv_at hl 1 rfl) ?_
  have hf := Option.some.inj hf
  simp only [Prod.mk.injEq] at hf
  obtain ⟨rfl, rfl, rfl, rfl, rfl⟩ := hf
  rw [hQ]
  exact w_iret hx hb hr hlocks hP hK hS dX9_clearDoughs_219 rfl rfl
abbrev rmX9_swapCode : Room := { frames := 2, cells := 0, slots := 0, locals := 43 }
theorem iX9_swapCode_X9 : ∀ w ∈ wsX90, w ∈ wsX9_swapCode := by decide +kernel
set_option maxHeartbeats 4000000 in
set_option maxRecDepth 100000 in
theorem k9_swapCode (l : Launch) {X : bkX} {b0 : Nat} (hX : XO X b0) (w : bkW) {s0 : Nat → Int32} {u0 : Nat → Int32} {sv0 : Nat → Int32} {tx0 : Nat → Int32} {ow0 : Nat → Int32} {rs0 : Nat → Int64} {rn0 : Nat → Int32} {nu0 : Nat → Int32} {q0 : Nat → Int32} {a1 : Int32} {a2 : Int32} {res9 : Int32} (hf : m9_swapCode s0 a1 a2 = some res9) : cI l yX9_swapCode wsX9_swapCode rmX9_swapCode X b0 [.ref (xa X 314), .int a1, .int a2] (pmm w s0 u0 sv0 tx0 ow0 rs0 rn0 nu0 q0) res9 (pmm w s0 u0 sv0 tx0 ow0 rs0 rn0 nu0 q0) := by
  refine Met.ofW (cc := cX9_swapCode) (maxL := 3) (ret := (some .int)) (by decide) rfl ?_
  intro p e s m args below meth c s₁ B hml hv
  obtain ⟨ha, hP, hK⟩ := hv
  have hx := B.exec
  have hb := B.bytes
  have hr := B.returns
  have hts := atoms_spec (ws := wsX9_swapCode) B.pre
  have hown : s.vm.findClass RX9 = some m.cls := findClass_of_methodNamed B.named
  have hlocks := B.notSynchronized
  obtain ⟨R, hR⟩ : ∃ R, R = (headSpec wsX9_swapCode rmX9_swapCode).room := ⟨_, rfl⟩
  rw [← hR]
  have hR1 : R.frames = 2 := by rw [hR]; rfl
  have hR2 : R.locals = 43 := by rw [hR]; rfl
  obtain ⟨Q, hQ⟩ : ∃ Q : State → Prop, Q = MQ below (va_Qi (fun r' (_ : Unit) => r' = res9) (fun _ t => WU X (pmm w s0 u0 sv0 tx0 ow0 rs0 rn0 nu0 q0) t) (xF b0)) args s 0 0 (xF b0) := ⟨_, rfl⟩
  rw [← hQ]
  have hS : va_S (xF b0) s.heap s.heap [] := va_S.rf
  have hl := lv_entry ([.ref (xa X 314), .int a1, .int a2]) (n := 3) (Nat.le_of_ble_eq_true rfl)
  refine W.eq ((congrArg (fun z => entryFrame m z 3) ha).trans (lg_entry_eq m _ 3)) ?_
  generalize (lg_sl ([.ref (xa X 314), .int a1, .int a2]) ++ List.replicate (3 - (lg_sl ([.ref (xa X 314), .int a1, .int a2])).length) Slot.unset).toArray = ls at hl ⊢
  have hl : lv_has ls 3 [(0, .ref (xa X 314)), (1, .int a1), (2, .int a2)] := hl
  have hc_136 := (cwV 1 hts gX9_swapCode_X9_isDough rfl rfl rfl (by decide +kernel) ⟨by rw [hR1]; exact Nat.le_of_ble_eq_true rfl, by rw [hR2]; exact Nat.le_of_ble_eq_true rfl⟩ : CallW R s args RX9 RX9 136 yX9_isDough cX9_isDough 2 (some .boolean) wsX9_isDough rmX9_isDough 0 0 1)
  have hk_f7 := hts (.fieldLink RX9 7 "BakeTurnsModel" "s" "[I") (by decide +kernel)
  have hc_42 := (cwS 3 hts gX9_swapCode_X9_of rfl rfl rfl (by decide +kernel) ⟨by rw [hR1]; exact Nat.le_of_ble_eq_true rfl, by rw [hR2]; exact Nat.le_of_ble_eq_true rfl⟩ : CallB R s args RX9 42 yX9_of cX9_of 3 (some .int) wsX9_of rmX9_of 0 0 3 ∧ (Cond.static yX9_of).before args s = true)
  unfold m9_swapCode at hf
  refine lv_aload_n hx hb dX9_swapCode_0 rfl (lv_at hl 0 rfl) ?_
  refine lv_iload_n hx hb dX9_swapCode_1 rfl (lv_at hl 1 rfl) ?_
  obtain ⟨x1, hc2, hf⟩ := ob1_e hf
  refine w_ci ⟨hx, hb, hml, hown, hts⟩ hP hK hS (k9_isDough l hX w hc2) hc_136 (w_recv hP hK (by decide) emb_mm rfl) rfl hl.1 rfl (Nat.le_of_ble_eq_true rfl) dX9_swapCode_2 ⟨Nat.zero_le _, Nat.zero_le _⟩ (fun H locs hP hS => ?_)
  refine lv_if_eq (tgt := 16) hx hb dX9_swapCode_5 (by decide) (fun h3 => ?_) (fun h3 => ?_)
  · rw [if_pos h3] at hf
    refine lv_iconst (v := 1) hx hb dX9_swapCode_16 (by decide) ?_
    have hf := Option.some.inj hf
    obtain rfl := hf
    rw [hQ]
    exact w_iret hx hb hr hlocks hP hK hS dX9_swapCode_17 rfl rfl
  · rw [if_neg h3] at hf
    refine lv_aload_n hx hb dX9_swapCode_8 rfl (lv_at hl 0 rfl) ?_
    refine lv_iload_n hx hb dX9_swapCode_9 rfl (lv_at hl 2 rfl) ?_
    obtain ⟨x4, hc5, hf⟩ := ob1_e hf
    refine w_ci ⟨hx, hb, hml, hown, hts⟩ hP hK hS (k9_isDough l hX w hc5) hc_136 (w_recv hP hK (by decide) emb_mm rfl) rfl hl.1 rfl (Nat.le_of_ble_eq_true rfl) dX9_swapCode_10 ⟨Nat.zero_le _, Nat.zero_le _⟩ (fun H locs hP hS => ?_)
    refine lv_if_ne (tgt := 18) hx hb dX9_swapCode_13 (by decide) (fun h6 => ?_) (fun h6 => ?_)
    · rw [if_neg h6] at hf
      refine lv_iload_n hx hb dX9_swapCode_18 rfl (lv_at hl 1 rfl) ?_
      refine lv_iload_n hx hb dX9_swapCode_19 rfl (lv_at hl 2 rfl) ?_
      refine lv_icmp_ne (tgt := 27) hx hb dX9_swapCode_20 (by decide) (fun h7 => ?_) (fun h7 => ?_)
      · rw [if_neg h7] at hf
        refine lv_aload_n hx hb dX9_swapCode_27 rfl (lv_at hl 0 rfl) ?_
        refine w_get hx hb hts iX9_swapCode_X9 hown hP hK (by decide) emb_mm rfl 1 (by decide) hk_f7 rfl dX9_swapCode_28 ?_
        refine lv_iload_n hx hb dX9_swapCode_31 rfl (lv_at hl 1 rfl) ?_
        refine lv_iconst (v := 4) hx hb dX9_swapCode_32 (by decide) ?_
        obtain ⟨x8, hc9, hf⟩ := ob1_e hf
        refine w_csi ⟨hx, hb, hml, hown, hts⟩ hP hK hS (by have hM := k9_of l hX AR_s (pmm w s0 u0 sv0 tx0 ow0 rs0 rn0 nu0 q0) hc9; simp only [pmm_s] at hM; exact hM) hc_42 rfl hl.1 rfl (Nat.le_of_ble_eq_true rfl) dX9_swapCode_33 ⟨Nat.zero_le _, Nat.zero_le _⟩ (fun H locs hP hS => ?_)
        refine lv_if_ne (tgt := 51) hx hb dX9_swapCode_36 (by decide) (fun h10 => ?_) (fun h10 => ?_)
        · rw [if_neg h10] at hf
          refine lv_iconst (v := 3) hx hb dX9_swapCode_51 (by decide) ?_
          refine lv_goto (tgt := 56) hx hb dX9_swapCode_52 (by decide) ?_
          have hf := Option.some.inj hf
          obtain rfl := hf
          rw [hQ]
          exact w_iret hx hb hr hlocks hP hK hS dX9_swapCode_56 rfl rfl
        · rw [if_pos h10] at hf
          refine lv_aload_n hx hb dX9_swapCode_39 rfl (lv_at hl 0 rfl) ?_
          refine w_get hx hb hts iX9_swapCode_X9 hown hP hK (by decide) emb_mm rfl 1 (by decide) hk_f7 rfl dX9_swapCode_40 ?_
          refine lv_iload_n hx hb dX9_swapCode_43 rfl (lv_at hl 2 rfl) ?_
          refine lv_iconst (v := 4) hx hb dX9_swapCode_44 (by decide) ?_
          obtain ⟨x11, hc12, hf⟩ := ob1_e hf
          refine w_csi ⟨hx, hb, hml, hown, hts⟩ hP hK hS (by have hM := k9_of l hX AR_s (pmm w s0 u0 sv0 tx0 ow0 rs0 rn0 nu0 q0) hc12; simp only [pmm_s] at hM; exact hM) hc_42 rfl hl.1 rfl (Nat.le_of_ble_eq_true rfl) dX9_swapCode_45 ⟨Nat.zero_le _, Nat.zero_le _⟩ (fun H locs hP hS => ?_)
          refine lv_if_eq (tgt := 55) hx hb dX9_swapCode_48 (by decide) (fun h13 => ?_) (fun h13 => ?_)
          · rw [if_pos h13] at hf
            refine lv_iconst (v := 0) hx hb dX9_swapCode_55 (by decide) ?_
            have hf := Option.some.inj hf
            obtain rfl := hf
            rw [hQ]
            exact w_iret hx hb hr hlocks hP hK hS dX9_swapCode_56 rfl rfl
          · rw [if_neg h13] at hf
            refine lv_iconst (v := 3) hx hb dX9_swapCode_51 (by decide) ?_
            refine lv_goto (tgt := 56) hx hb dX9_swapCode_52 (by decide) ?_
            have hf := Option.some.inj hf
            obtain rfl := hf
            rw [hQ]
            exact w_iret hx hb hr hlocks hP hK hS dX9_swapCode_56 rfl rfl
      · rw [if_pos h7] at hf
        refine lv_iconst (v := 2) hx hb dX9_swapCode_23 (by decide) ?_
        refine lv_goto (tgt := 56) hx hb dX9_swapCode_24 (by decide) ?_
        have hf := Option.some.inj hf
        obtain rfl := hf
        rw [hQ]
        exact w_iret hx hb hr hlocks hP hK hS dX9_swapCode_56 rfl rfl
    · rw [if_pos h6] at hf
      refine lv_iconst (v := 1) hx hb dX9_swapCode_16 (by decide) ?_
      have hf := Option.some.inj hf
      obtain rfl := hf
      rw [hQ]
      exact w_iret hx hb hr hlocks hP hK hS dX9_swapCode_17 rfl rfl
abbrev rmX9_swapNow : Room := { frames := 1, cells := 0, slots := 0, locals := 23 }
theorem iX9_swapNow_X9 : ∀ w ∈ wsX90, w ∈ wsX9_swapNow := by decide +kernel
set_option maxHeartbeats 4000000 in
set_option maxRecDepth 100000 in
theorem k9_swapNow (l : Launch) {X : bkX} {b0 : Nat} (hX : XO X b0) (w : bkW) {N : Nat} {s0 : Nat → Int32} {u0 : Nat → Int32} {sv0 : Nat → Int32} {tx0 : Nat → Int32} {ow0 : Nat → Int32} {rs0 : Nat → Int64} {rn0 : Nat → Int32} {nu0 : Nat → Int32} {q0 : Nat → Int32} {a1 : Int32} {a2 : Int32} {res9 : Int32} {s9 : Nat → Int32} (hf : m9_swapNow N s0 a1 a2 = some (res9, s9)) : cI l yX9_swapNow wsX9_swapNow rmX9_swapNow X b0 [.ref (xa X 314), .int a1, .int a2] (pmm w s0 u0 sv0 tx0 ow0 rs0 rn0 nu0 q0) res9 (pmm w s9 u0 sv0 tx0 ow0 rs0 rn0 nu0 q0) := by
  refine Met.ofW (cc := cX9_swapNow) (maxL := 5) (ret := (some .int)) (by decide) rfl ?_
  intro p e s m args below meth c s₁ B hml hv
  obtain ⟨ha, hP, hK⟩ := hv
  have hx := B.exec
  have hb := B.bytes
  have hr := B.returns
  have hts := atoms_spec (ws := wsX9_swapNow) B.pre
  have hown : s.vm.findClass RX9 = some m.cls := findClass_of_methodNamed B.named
  have hlocks := B.notSynchronized
  obtain ⟨R, hR⟩ : ∃ R, R = (headSpec wsX9_swapNow rmX9_swapNow).room := ⟨_, rfl⟩
  rw [← hR]
  have hR1 : R.frames = 1 := by rw [hR]; rfl
  have hR2 : R.locals = 23 := by rw [hR]; rfl
  obtain ⟨Q, hQ⟩ : ∃ Q : State → Prop, Q = MQ below (va_Qi (fun r' (_ : Unit) => r' = res9) (fun _ t => WU X (pmm w s9 u0 sv0 tx0 ow0 rs0 rn0 nu0 q0) t) (xF b0)) args s 0 0 (xF b0) := ⟨_, rfl⟩
  rw [← hQ]
  have hS : va_S (xF b0) s.heap s.heap [] := va_S.rf
  have hl := lv_entry ([.ref (xa X 314), .int a1, .int a2]) (n := 5) (Nat.le_of_ble_eq_true rfl)
  refine W.eq ((congrArg (fun z => entryFrame m z 5) ha).trans (lg_entry_eq m _ 5)) ?_
  generalize (lg_sl ([.ref (xa X 314), .int a1, .int a2]) ++ List.replicate (5 - (lg_sl ([.ref (xa X 314), .int a1, .int a2])).length) Slot.unset).toArray = ls at hl ⊢
  have hl : lv_has ls 5 [(0, .ref (xa X 314)), (1, .int a1), (2, .int a2)] := hl
  have hk_f7 := hts (.fieldLink RX9 7 "BakeTurnsModel" "s" "[I") (by decide +kernel)
  have hc_53 := (cwS 2 hts gX9_swapNow_X9_placeInLine rfl rfl rfl (by decide +kernel) ⟨by rw [hR1]; exact Nat.le_of_ble_eq_true rfl, by rw [hR2]; exact Nat.le_of_ble_eq_true rfl⟩ : CallB R s args RX9 53 yX9_placeInLine cX9_placeInLine 4 (some .int) wsX9_placeInLine rmX9_placeInLine 0 0 2 ∧ (Cond.static yX9_placeInLine).before args s = true)
  unfold m9_swapNow at hf
  refine lv_aload_n hx hb dX9_swapNow_0 rfl (lv_at hl 0 rfl) ?_
  refine w_get hx hb hts iX9_swapNow_X9 hown hP hK (by decide) emb_mm rfl 1 (by decide) hk_f7 rfl dX9_swapNow_1 ?_
  refine lv_iload_n hx hb dX9_swapNow_4 rfl (lv_at hl 1 rfl) ?_
  obtain ⟨x1, hc2, hf⟩ := ob1_e hf
  refine w_csi ⟨hx, hb, hml, hown, hts⟩ hP hK hS (by have hM := k9_placeInLine l hX AR_s (pmm w s0 u0 sv0 tx0 ow0 rs0 rn0 nu0 q0) hc2; simp only [pmm_s] at hM; exact hM) hc_53 rfl hl.1 rfl (Nat.le_of_ble_eq_true rfl) dX9_swapNow_5 ⟨Nat.zero_le _, Nat.zero_le _⟩ (fun H locs hP hS => ?_)
  refine lv_istore_n (lv' := [(3, .int x1), (0, .ref (xa X 314)), (1, .int a1), (2, .int a2)]) hx hb dX9_swapNow_8 rfl hl (by decide) rfl (fun ls hl => ?_)
  refine lv_aload_n hx hb dX9_swapNow_9 rfl (lv_at hl 1 rfl) ?_
  refine w_get hx hb hts iX9_swapNow_X9 hown hP hK (by decide) emb_mm rfl 1 (by decide) hk_f7 rfl dX9_swapNow_10 ?_
  refine lv_iload_n hx hb dX9_swapNow_13 rfl (lv_at hl 3 rfl) ?_
  obtain ⟨x3, hc4, hf⟩ := ob1_e hf
  refine w_csi ⟨hx, hb, hml, hown, hts⟩ hP hK hS (by have hM := k9_placeInLine l hX AR_s (pmm w s0 u0 sv0 tx0 ow0 rs0 rn0 nu0 q0) hc4; simp only [pmm_s] at hM; exact hM) hc_53 rfl hl.1 rfl (Nat.le_of_ble_eq_true rfl) dX9_swapNow_14 ⟨Nat.zero_le _, Nat.zero_le _⟩ (fun H locs hP hS => ?_)
  refine lv_istore (lv' := [(4, .int x3), (3, .int x1), (0, .ref (xa X 314)), (1, .int a1), (2, .int a2)]) hx hb dX9_swapNow_17 hl (by decide) rfl (fun ls hl => ?_)
  refine lv_aload_n hx hb dX9_swapNow_19 rfl (lv_at hl 2 rfl) ?_
  refine w_get hx hb hts iX9_swapNow_X9 hown hP hK (by decide) emb_mm rfl 1 (by decide) hk_f7 rfl dX9_swapNow_20 ?_
  refine lv_sipush (v := 213) hx hb dX9_swapNow_23 (by decide) ?_
  refine lv_iload_n hx hb dX9_swapNow_26 rfl (lv_at hl 1 rfl) ?_
  refine lv_iadd hx hb dX9_swapNow_27 ?_
  refine lv_iload_n hx hb dX9_swapNow_28 rfl (lv_at hl 4 rfl) ?_
  obtain ⟨hin5, hf⟩ := ck_e hf
  refine ar_ast (g := s0) hx hb hX AR_s rfl (fun z => pmm w z u0 sv0 tx0 ow0 rs0 rn0 nu0 q0) (fun z => pmm_s) hP hK hS hin5 dX9_swapNow_29 (fun s6 es6 H locs hP hS => ?_)
  replace hf := ltn_s es6 hf
  refine lv_aload_n hx hb dX9_swapNow_30 rfl (lv_at hl 2 rfl) ?_
  refine w_get hx hb hts iX9_swapNow_X9 hown hP hK (by decide) emb_mm rfl 1 (by decide) hk_f7 rfl dX9_swapNow_31 ?_
  refine lv_sipush (v := 213) hx hb dX9_swapNow_34 (by decide) ?_
  refine lv_iload hx hb dX9_swapNow_37 (lv_at hl 0 rfl) ?_
  refine lv_iadd hx hb dX9_swapNow_39 ?_
  refine lv_iload_n hx hb dX9_swapNow_40 rfl (lv_at hl 3 rfl) ?_
  obtain ⟨hin7, hf⟩ := ck_e hf
  refine ar_ast (g := s6) hx hb hX AR_s rfl (fun z => pmm w z u0 sv0 tx0 ow0 rs0 rn0 nu0 q0) (fun z => pmm_s) hP hK hS hin7 dX9_swapNow_41 (fun s8 es8 H locs hP hS => ?_)
  replace hf := ltn_s es8 hf
  refine lv_iload hx hb dX9_swapNow_42 (lv_at hl 0 rfl) ?_
  have hf := Option.some.inj hf
  simp only [Prod.mk.injEq] at hf
  obtain ⟨rfl, rfl⟩ := hf
  rw [hQ]
  exact w_iret hx hb hr hlocks hP hK hS dX9_swapNow_44 rfl rfl
abbrev rmX9_swap : Room := { frames := 3, cells := 0, slots := 0, locals := 65 }
theorem iX9_swap_X9 : ∀ w ∈ wsX90, w ∈ wsX9_swap := by decide +kernel
set_option maxHeartbeats 4000000 in
set_option maxRecDepth 100000 in
theorem k9_swap (l : Launch) {X : bkX} {b0 : Nat} (hX : XO X b0) (w : bkW) {N : Nat} {s0 : Nat → Int32} {u0 : Nat → Int32} {sv0 : Nat → Int32} {tx0 : Nat → Int32} {ow0 : Nat → Int32} {rs0 : Nat → Int64} {rn0 : Nat → Int32} {nu0 : Nat → Int32} {q0 : Nat → Int32} {a1 : Int32} {a2 : Int32} {res9 : Int32} {s9 : Nat → Int32} {sv9 : Nat → Int32} {q9 : Nat → Int32} (hf : m9_swap N s0 sv0 q0 a1 a2 = some (res9, s9, sv9, q9)) : cI l yX9_swap wsX9_swap rmX9_swap X b0 [.ref (xa X 314), .int a1, .int a2] (pmm w s0 u0 sv0 tx0 ow0 rs0 rn0 nu0 q0) res9 (pmm w s9 u0 sv9 tx0 ow0 rs0 rn0 nu0 q9) := by
  refine Met.ofW (cc := cX9_swap) (maxL := 3) (ret := (some .int)) (by decide) rfl ?_
  intro p e s m args below meth c s₁ B hml hv
  obtain ⟨ha, hP, hK⟩ := hv
  have hx := B.exec
  have hb := B.bytes
  have hr := B.returns
  have hts := atoms_spec (ws := wsX9_swap) B.pre
  have hown : s.vm.findClass RX9 = some m.cls := findClass_of_methodNamed B.named
  have hlocks := B.notSynchronized
  obtain ⟨R, hR⟩ : ∃ R, R = (headSpec wsX9_swap rmX9_swap).room := ⟨_, rfl⟩
  rw [← hR]
  have hR1 : R.frames = 3 := by rw [hR]; rfl
  have hR2 : R.locals = 65 := by rw [hR]; rfl
  obtain ⟨Q, hQ⟩ : ∃ Q : State → Prop, Q = MQ below (va_Qi (fun r' (_ : Unit) => r' = res9) (fun _ t => WU X (pmm w s9 u0 sv9 tx0 ow0 rs0 rn0 nu0 q9) t) (xF b0)) args s 0 0 (xF b0) := ⟨_, rfl⟩
  rw [← hQ]
  have hS : va_S (xF b0) s.heap s.heap [] := va_S.rf
  have hl := lv_entry ([.ref (xa X 314), .int a1, .int a2]) (n := 3) (Nat.le_of_ble_eq_true rfl)
  refine W.eq ((congrArg (fun z => entryFrame m z 3) ha).trans (lg_entry_eq m _ 3)) ?_
  generalize (lg_sl ([.ref (xa X 314), .int a1, .int a2]) ++ List.replicate (3 - (lg_sl ([.ref (xa X 314), .int a1, .int a2])).length) Slot.unset).toArray = ls at hl ⊢
  have hl : lv_has ls 3 [(0, .ref (xa X 314)), (1, .int a1), (2, .int a2)] := hl
  have hc_139 := (cwV 2 hts gX9_swap_X9_swapCode rfl rfl rfl (by decide +kernel) ⟨by rw [hR1]; exact Nat.le_of_ble_eq_true rfl, by rw [hR2]; exact Nat.le_of_ble_eq_true rfl⟩ : CallW R s args RX9 RX9 139 yX9_swapCode cX9_swapCode 3 (some .int) wsX9_swapCode rmX9_swapCode 0 0 2)
  have hk_f35 := hts (.fieldLink RX9 35 "BakeTurnsModel" "thrown" "I") (by decide +kernel)
  have hc_112 := (cwV 0 hts gX9_swap_X9_save rfl rfl rfl (by decide +kernel) ⟨by rw [hR1]; exact Nat.le_of_ble_eq_true rfl, by rw [hR2]; exact Nat.le_of_ble_eq_true rfl⟩ : CallW R s args RX9 RX9 112 yX9_save cX9_save 2 none wsX9_save rmX9_save 0 0 0)
  have hc_143 := (cwV 2 hts gX9_swap_X9_swapNow rfl rfl rfl (by decide +kernel) ⟨by rw [hR1]; exact Nat.le_of_ble_eq_true rfl, by rw [hR2]; exact Nat.le_of_ble_eq_true rfl⟩ : CallW R s args RX9 RX9 143 yX9_swapNow cX9_swapNow 5 (some .int) wsX9_swapNow rmX9_swapNow 0 0 2)
  unfold m9_swap at hf
  refine lv_aload_n hx hb dX9_swap_0 rfl (lv_at hl 0 rfl) ?_
  refine lv_aload_n hx hb dX9_swap_1 rfl (lv_at hl 0 rfl) ?_
  refine lv_iload_n hx hb dX9_swap_2 rfl (lv_at hl 1 rfl) ?_
  refine lv_iload_n hx hb dX9_swap_3 rfl (lv_at hl 2 rfl) ?_
  obtain ⟨x1, hc2, hf⟩ := ob1_e hf
  refine w_ci ⟨hx, hb, hml, hown, hts⟩ hP hK hS (k9_swapCode l hX w hc2) hc_139 (w_recv hP hK (by decide) emb_mm rfl) rfl hl.1 rfl (Nat.le_of_ble_eq_true rfl) dX9_swap_4 ⟨Nat.zero_le _, Nat.zero_le _⟩ (fun H locs hP hS => ?_)
  refine mm_put hx hb hts iX9_swap_X9 hown hX hP hK hS 0 (by decide) hk_f35 rfl rfl (Nat.le_of_ble_eq_true rfl) (mm_es0 _) dX9_swap_7 (fun q3 eq3 H locs hP hS => ?_)
  replace hf := ltn_s eq3 hf
  refine lv_aload_n hx hb dX9_swap_10 rfl (lv_at hl 0 rfl) ?_
  refine w_get hx hb hts iX9_swap_X9 hown hP hK (by decide) emb_mm rfl 0 (by decide) hk_f35 rfl dX9_swap_11 ?_
  refine lv_if_le (tgt := 19) hx hb dX9_swap_14 (by decide) (fun h4 => ?_) (fun h4 => ?_)
  · rw [if_pos h4] at hf
    refine lv_aload_n hx hb dX9_swap_19 rfl (lv_at hl 0 rfl) ?_
    obtain ⟨sv5, q6, hc7, hf⟩ := ob2_e hf
    refine w_cv ⟨hx, hb, hml, hown, hts⟩ hP hK hS (k9_save l hX w hc7) hc_112 (w_recv hP hK (by decide) emb_mm rfl) rfl hl.1 rfl (Nat.le_of_ble_eq_true rfl) dX9_swap_20 ⟨Nat.zero_le _, Nat.zero_le _⟩ (fun H locs hP hS => ?_)
    refine lv_aload_n hx hb dX9_swap_23 rfl (lv_at hl 0 rfl) ?_
    refine lv_iload_n hx hb dX9_swap_24 rfl (lv_at hl 1 rfl) ?_
    refine lv_iload_n hx hb dX9_swap_25 rfl (lv_at hl 2 rfl) ?_
    obtain ⟨x8, s9, hc10, hf⟩ := ob2_e hf
    refine w_ci ⟨hx, hb, hml, hown, hts⟩ hP hK hS (k9_swapNow l hX w hc10) hc_143 (w_recv hP hK (by decide) emb_mm rfl) rfl hl.1 rfl (Nat.le_of_ble_eq_true rfl) dX9_swap_26 ⟨Nat.zero_le _, Nat.zero_le _⟩ (fun H locs hP hS => ?_)
    have hf := Option.some.inj hf
    simp only [Prod.mk.injEq] at hf
    obtain ⟨rfl, rfl, rfl, rfl⟩ := hf
    rw [hQ]
    exact w_iret hx hb hr hlocks hP hK hS dX9_swap_29 rfl rfl
  · rw [if_neg h4] at hf
    refine lv_iconst (v := 0) hx hb dX9_swap_17 (by decide) ?_
    have hf := Option.some.inj hf
    simp only [Prod.mk.injEq] at hf
    obtain ⟨rfl, rfl, rfl, rfl⟩ := hf
    rw [hQ]
    exact w_iret hx hb hr hlocks hP hK hS dX9_swap_18 rfl rfl
abbrev rmX9_grow : Room := { frames := 0, cells := 0, slots := 0, locals := 0 }
theorem iX9_grow_X9 : ∀ w ∈ wsX90, w ∈ wsX9_grow := by decide +kernel
set_option maxHeartbeats 4000000 in
set_option maxRecDepth 100000 in
theorem k9_grow (l : Launch) {X : bkX} {b0 : Nat} (hX : XO X b0) (w : bkW) {s0 : Nat → Int32} {u0 : Nat → Int32} {sv0 : Nat → Int32} {tx0 : Nat → Int32} {ow0 : Nat → Int32} {rs0 : Nat → Int64} {rn0 : Nat → Int32} {nu0 : Nat → Int32} {q0 : Nat → Int32} {a1 : Int32} {a2 : Int32} {a3 : Int32} {res9 : Int32} {s9 : Nat → Int32} (hf : m9_grow s0 a1 a2 a3 = some (res9, s9)) : cI l yX9_grow wsX9_grow rmX9_grow X b0 [.ref (xa X 314), .int a1, .int a2, .int a3] (pmm w s0 u0 sv0 tx0 ow0 rs0 rn0 nu0 q0) res9 (pmm w s9 u0 sv0 tx0 ow0 rs0 rn0 nu0 q0) := by
  refine Met.ofW (cc := cX9_grow) (maxL := 5) (ret := (some .int)) (by decide) rfl ?_
  intro p e s m args below meth c s₁ B hml hv
  obtain ⟨ha, hP, hK⟩ := hv
  have hx := B.exec
  have hb := B.bytes
  have hr := B.returns
  have hts := atoms_spec (ws := wsX9_grow) B.pre
  have hown : s.vm.findClass RX9 = some m.cls := findClass_of_methodNamed B.named
  have hlocks := B.notSynchronized
  obtain ⟨R, hR⟩ : ∃ R, R = (headSpec wsX9_grow rmX9_grow).room := ⟨_, rfl⟩
  rw [← hR]
  have hR1 : R.frames = 0 := by rw [hR]; rfl
  have hR2 : R.locals = 0 := by rw [hR]; rfl
  obtain ⟨Q, hQ⟩ : ∃ Q : State → Prop, Q = MQ below (va_Qi (fun r' (_ : Unit) => r' = res9) (fun _ t => WU X (pmm w s9 u0 sv0 tx0 ow0 rs0 rn0 nu0 q0) t) (xF b0)) args s 0 0 (xF b0) := ⟨_, rfl⟩
  rw [← hQ]
  have hS : va_S (xF b0) s.heap s.heap [] := va_S.rf
  have hl := lv_entry ([.ref (xa X 314), .int a1, .int a2, .int a3]) (n := 5) (Nat.le_of_ble_eq_true rfl)
  refine W.eq ((congrArg (fun z => entryFrame m z 5) ha).trans (lg_entry_eq m _ 5)) ?_
  generalize (lg_sl ([.ref (xa X 314), .int a1, .int a2, .int a3]) ++ List.replicate (5 - (lg_sl ([.ref (xa X 314), .int a1, .int a2, .int a3])).length) Slot.unset).toArray = ls at hl ⊢
  have hl : lv_has ls 5 [(0, .ref (xa X 314)), (1, .int a1), (2, .int a2), (3, .int a3)] := hl
  have hk_f7 := hts (.fieldLink RX9 7 "BakeTurnsModel" "s" "[I") (by decide +kernel)
  unfold m9_grow at hf
  refine lv_bipush (v := 37) hx hb dX9_grow_0 (by decide) ?_
  refine lv_bipush (v := 6) hx hb dX9_grow_2 (by decide) ?_
  refine lv_iload_n hx hb dX9_grow_4 rfl (lv_at hl 1 rfl) ?_
  refine lv_imul hx hb dX9_grow_5 ?_
  refine lv_iadd hx hb dX9_grow_6 ?_
  refine lv_iload_n hx hb dX9_grow_7 rfl (lv_at hl 2 rfl) ?_
  refine lv_iadd hx hb dX9_grow_8 ?_
  refine lv_topi (fun x1 ex1 => ?_)
  replace hf := ltn_s ex1 hf
  refine lv_istore (lv' := [(4, .int x1), (0, .ref (xa X 314)), (1, .int a1), (2, .int a2), (3, .int a3)]) hx hb dX9_grow_9 hl (by decide) rfl (fun ls hl => ?_)
  refine lv_aload_n hx hb dX9_grow_11 rfl (lv_at hl 1 rfl) ?_
  refine w_get hx hb hts iX9_grow_X9 hown hP hK (by decide) emb_mm rfl 1 (by decide) hk_f7 rfl dX9_grow_12 ?_
  refine lv_iload hx hb dX9_grow_15 (lv_at hl 0 rfl) ?_
  refine lv_dup2_11 hx hb dX9_grow_17 rfl rfl ?_
  obtain ⟨hin2, hf⟩ := ck_e hf
  refine ar_ald (g := s0) hx hb AR_s rfl hP hK hin2 dX9_grow_18 ?_
  refine lv_iload_n hx hb dX9_grow_19 rfl (lv_at hl 4 rfl) ?_
  refine lv_iadd hx hb dX9_grow_20 ?_
  obtain ⟨hin3, hf⟩ := ck_e hf
  refine ar_ast (g := s0) hx hb hX AR_s rfl (fun z => pmm w z u0 sv0 tx0 ow0 rs0 rn0 nu0 q0) (fun z => pmm_s) hP hK hS hin3 dX9_grow_21 (fun s4 es4 H locs hP hS => ?_)
  replace hf := ltn_s es4 hf
  refine lv_aload_n hx hb dX9_grow_22 rfl (lv_at hl 1 rfl) ?_
  refine w_get hx hb hts iX9_grow_X9 hown hP hK (by decide) emb_mm rfl 1 (by decide) hk_f7 rfl dX9_grow_23 ?_
  refine lv_iload hx hb dX9_grow_26 (lv_at hl 0 rfl) ?_
  obtain ⟨hin5, hf⟩ := ck_e hf
  refine ar_ald (g := s4) hx hb AR_s rfl hP hK hin5 dX9_grow_28 ?_
  have hf := Option.some.inj hf
  simp only [Prod.mk.injEq] at hf
  obtain ⟨rfl, rfl⟩ := hf
  rw [hQ]
  exact w_iret hx hb hr hlocks hP hK hS dX9_grow_29 rfl rfl
abbrev rmX9_balance : Room := { frames := 0, cells := 0, slots := 0, locals := 0 }
theorem iX9_balance_X9 : ∀ w ∈ wsX90, w ∈ wsX9_balance := by decide +kernel
set_option maxHeartbeats 4000000 in
set_option maxRecDepth 100000 in
theorem k9_balance (l : Launch) {X : bkX} {b0 : Nat} (hX : XO X b0) (w : bkW) {s0 : Nat → Int32} {u0 : Nat → Int32} {sv0 : Nat → Int32} {tx0 : Nat → Int32} {ow0 : Nat → Int32} {rs0 : Nat → Int64} {rn0 : Nat → Int32} {nu0 : Nat → Int32} {q0 : Nat → Int32} {a1 : Int32} {res9 : Int32} (hf : m9_balance s0 a1 = some res9) : cI l yX9_balance wsX9_balance rmX9_balance X b0 [.ref (xa X 314), .int a1] (pmm w s0 u0 sv0 tx0 ow0 rs0 rn0 nu0 q0) res9 (pmm w s0 u0 sv0 tx0 ow0 rs0 rn0 nu0 q0) := by
  refine Met.ofW (cc := cX9_balance) (maxL := 2) (ret := (some .int)) (by decide) rfl ?_
  intro p e s m args below meth c s₁ B hml hv
  obtain ⟨ha, hP, hK⟩ := hv
  have hx := B.exec
  have hb := B.bytes
  have hr := B.returns
  have hts := atoms_spec (ws := wsX9_balance) B.pre
  have hown : s.vm.findClass RX9 = some m.cls := findClass_of_methodNamed B.named
  have hlocks := B.notSynchronized
  obtain ⟨R, hR⟩ : ∃ R, R = (headSpec wsX9_balance rmX9_balance).room := ⟨_, rfl⟩
  rw [← hR]
  have hR1 : R.frames = 0 := by rw [hR]; rfl
  have hR2 : R.locals = 0 := by rw [hR]; rfl
  obtain ⟨Q, hQ⟩ : ∃ Q : State → Prop, Q = MQ below (va_Qi (fun r' (_ : Unit) => r' = res9) (fun _ t => WU X (pmm w s0 u0 sv0 tx0 ow0 rs0 rn0 nu0 q0) t) (xF b0)) args s 0 0 (xF b0) := ⟨_, rfl⟩
  rw [← hQ]
  have hS : va_S (xF b0) s.heap s.heap [] := va_S.rf
  have hl := lv_entry ([.ref (xa X 314), .int a1]) (n := 2) (Nat.le_of_ble_eq_true rfl)
  refine W.eq ((congrArg (fun z => entryFrame m z 2) ha).trans (lg_entry_eq m _ 2)) ?_
  generalize (lg_sl ([.ref (xa X 314), .int a1]) ++ List.replicate (2 - (lg_sl ([.ref (xa X 314), .int a1])).length) Slot.unset).toArray = ls at hl ⊢
  have hl : lv_has ls 2 [(0, .ref (xa X 314)), (1, .int a1)] := hl
  have hk_f7 := hts (.fieldLink RX9 7 "BakeTurnsModel" "s" "[I") (by decide +kernel)
  unfold m9_balance at hf
  refine lv_aload_n hx hb dX9_balance_0 rfl (lv_at hl 0 rfl) ?_
  refine w_get hx hb hts iX9_balance_X9 hown hP hK (by decide) emb_mm rfl 1 (by decide) hk_f7 rfl dX9_balance_1 ?_
  refine lv_bipush (v := 37) hx hb dX9_balance_4 (by decide) ?_
  refine lv_bipush (v := 6) hx hb dX9_balance_6 (by decide) ?_
  refine lv_iload_n hx hb dX9_balance_8 rfl (lv_at hl 1 rfl) ?_
  refine lv_imul hx hb dX9_balance_9 ?_
  refine lv_iadd hx hb dX9_balance_10 ?_
  refine lv_iconst (v := 0) hx hb dX9_balance_11 (by decide) ?_
  refine lv_iadd hx hb dX9_balance_12 ?_
  obtain ⟨hin1, hf⟩ := ck_e hf
  refine ar_ald (g := s0) hx hb AR_s rfl hP hK hin1 dX9_balance_13 ?_
  have hf := Option.some.inj hf
  obtain rfl := hf
  rw [hQ]
  exact w_iret hx hb hr hlocks hP hK hS dX9_balance_14 rfl rfl
abbrev rmX9_bringCode : Room := { frames := 2, cells := 0, slots := 0, locals := 43 }
set_option maxHeartbeats 4000000 in
set_option maxRecDepth 100000 in
theorem k9_bringCode (l : Launch) {X : bkX} {b0 : Nat} (hX : XO X b0) (w : bkW) {s0 : Nat → Int32} {u0 : Nat → Int32} {sv0 : Nat → Int32} {tx0 : Nat → Int32} {ow0 : Nat → Int32} {rs0 : Nat → Int64} {rn0 : Nat → Int32} {nu0 : Nat → Int32} {q0 : Nat → Int32} {a1 : Int32} {a2 : Int32} {res9 : Int32} (hf : m9_bringCode s0 a1 a2 = some res9) : cI l yX9_bringCode wsX9_bringCode rmX9_bringCode X b0 [.ref (xa X 314), .int a1, .int a2] (pmm w s0 u0 sv0 tx0 ow0 rs0 rn0 nu0 q0) res9 (pmm w s0 u0 sv0 tx0 ow0 rs0 rn0 nu0 q0) := by
  refine Met.ofW (cc := cX9_bringCode) (maxL := 3) (ret := (some .int)) (by decide) rfl ?_
  intro p e s m args below meth c s₁ B hml hv
  obtain ⟨ha, hP, hK⟩ := hv
  have hx := B.exec
  have hb := B.bytes
  have hr := B.returns
  have hts := atoms_spec (ws := wsX9_bringCode) B.pre
  have hown : s.vm.findClass RX9 = some m.cls := findClass_of_methodNamed B.named
  have hlocks := B.notSynchronized
  obtain ⟨R, hR⟩ : ∃ R, R = (headSpec wsX9_bringCode rmX9_bringCode).room := ⟨_, rfl⟩
  rw [← hR]
  have hR1 : R.frames = 2 := by rw [hR]; rfl
  have hR2 : R.locals = 43 := by rw [hR]; rfl
  obtain ⟨Q, hQ⟩ : ∃ Q : State → Prop, Q = MQ below (va_Qi (fun r' (_ : Unit) => r' = res9) (fun _ t => WU X (pmm w s0 u0 sv0 tx0 ow0 rs0 rn0 nu0 q0) t) (xF b0)) args s 0 0 (xF b0) := ⟨_, rfl⟩
  rw [← hQ]
  have hS : va_S (xF b0) s.heap s.heap [] := va_S.rf
  have hl := lv_entry ([.ref (xa X 314), .int a1, .int a2]) (n := 3) (Nat.le_of_ble_eq_true rfl)
  refine W.eq ((congrArg (fun z => entryFrame m z 3) ha).trans (lg_entry_eq m _ 3)) ?_
  generalize (lg_sl ([.ref (xa X 314), .int a1, .int a2]) ++ List.replicate (3 - (lg_sl ([.ref (xa X 314), .int a1, .int a2])).length) Slot.unset).toArray = ls at hl ⊢
  have hl : lv_has ls 3 [(0, .ref (xa X 314)), (1, .int a1), (2, .int a2)] := hl
  have hc_122 := (cwV 1 hts gX9_bringCode_X9_isHouse rfl rfl rfl (by decide +kernel) ⟨by rw [hR1]; exact Nat.le_of_ble_eq_true rfl, by rw [hR2]; exact Nat.le_of_ble_eq_true rfl⟩ : CallW R s args RX9 RX9 122 yX9_isHouse cX9_isHouse 2 (some .boolean) wsX9_isHouse rmX9_isHouse 0 0 1)
  have hc_49 := (cwS 3 hts gX9_bringCode_X9_in rfl rfl rfl (by decide +kernel) ⟨by rw [hR1]; exact Nat.le_of_ble_eq_true rfl, by rw [hR2]; exact Nat.le_of_ble_eq_true rfl⟩ : CallB R s args RX9 49 yX9_in cX9_in 3 (some .boolean) wsX9_in rmX9_in 0 0 3 ∧ (Cond.static yX9_in).before args s = true)
  have hc_146 := (cwV 1 hts gX9_bringCode_X9_balance rfl rfl rfl (by decide +kernel) ⟨by rw [hR1]; exact Nat.le_of_ble_eq_true rfl, by rw [hR2]; exact Nat.le_of_ble_eq_true rfl⟩ : CallW R s args RX9 RX9 146 yX9_balance cX9_balance 2 (some .int) wsX9_balance rmX9_balance 0 0 1)
  unfold m9_bringCode at hf
  refine lv_aload_n hx hb dX9_bringCode_0 rfl (lv_at hl 0 rfl) ?_
  refine lv_iload_n hx hb dX9_bringCode_1 rfl (lv_at hl 1 rfl) ?_
  obtain ⟨x1, hc2, hf⟩ := ob1_e hf
  refine w_ci ⟨hx, hb, hml, hown, hts⟩ hP hK hS (k9_isHouse l hX w hc2) hc_122 (w_recv hP hK (by decide) emb_mm rfl) rfl hl.1 rfl (Nat.le_of_ble_eq_true rfl) dX9_bringCode_2 ⟨Nat.zero_le _, Nat.zero_le _⟩ (fun H locs hP hS => ?_)
  refine lv_if_ne (tgt := 10) hx hb dX9_bringCode_5 (by decide) (fun h3 => ?_) (fun h3 => ?_)
  · rw [if_neg h3] at hf
    refine lv_iload_n hx hb dX9_bringCode_10 rfl (lv_at hl 2 rfl) ?_
    refine lv_iconst (v := 1) hx hb dX9_bringCode_11 (by decide) ?_
    refine lv_bipush (v := 99) hx hb dX9_bringCode_12 (by decide) ?_
    obtain ⟨x4, hc5, hf⟩ := lt1_e hf
    refine w_csi ⟨hx, hb, hml, hown, hts⟩ hP hK hS (k9_in l hX (pmm w s0 u0 sv0 tx0 ow0 rs0 rn0 nu0 q0) hc5) hc_49 rfl hl.1 rfl (Nat.le_of_ble_eq_true rfl) dX9_bringCode_14 ⟨Nat.zero_le _, Nat.zero_le _⟩ (fun H locs hP hS => ?_)
    refine lv_if_ne (tgt := 24) hx hb dX9_bringCode_17 (by decide) (fun h6 => ?_) (fun h6 => ?_)
    · rw [if_neg h6] at hf
      refine lv_aload_n hx hb dX9_bringCode_24 rfl (lv_at hl 0 rfl) ?_
      refine lv_iload_n hx hb dX9_bringCode_25 rfl (lv_at hl 1 rfl) ?_
      obtain ⟨x7, hc8, hf⟩ := ob1_e hf
      refine w_ci ⟨hx, hb, hml, hown, hts⟩ hP hK hS (k9_balance l hX w hc8) hc_146 (w_recv hP hK (by decide) emb_mm rfl) rfl hl.1 rfl (Nat.le_of_ble_eq_true rfl) dX9_bringCode_26 ⟨Nat.zero_le _, Nat.zero_le _⟩ (fun H locs hP hS => ?_)
      refine lv_iload_n hx hb dX9_bringCode_29 rfl (lv_at hl 2 rfl) ?_
      refine lv_iadd hx hb dX9_bringCode_30 ?_
      refine lv_sipush (v := 999) hx hb dX9_bringCode_31 (by decide) ?_
      refine lv_icmp_le (tgt := 41) hx hb dX9_bringCode_34 (by decide) (fun h9 => ?_) (fun h9 => ?_)
      · rw [if_pos h9] at hf
        refine lv_iconst (v := 0) hx hb dX9_bringCode_41 (by decide) ?_
        have hf := Option.some.inj hf
        obtain rfl := hf
        rw [hQ]
        exact w_iret hx hb hr hlocks hP hK hS dX9_bringCode_42 rfl rfl
      · rw [if_neg h9] at hf
        refine lv_iconst (v := 3) hx hb dX9_bringCode_37 (by decide) ?_
        refine lv_goto (tgt := 42) hx hb dX9_bringCode_38 (by decide) ?_
        have hf := Option.some.inj hf
        obtain rfl := hf
        rw [hQ]
        exact w_iret hx hb hr hlocks hP hK hS dX9_bringCode_42 rfl rfl
    · rw [if_pos h6] at hf
      refine lv_iconst (v := 2) hx hb dX9_bringCode_20 (by decide) ?_
      refine lv_goto (tgt := 42) hx hb dX9_bringCode_21 (by decide) ?_
      have hf := Option.some.inj hf
      obtain rfl := hf
      rw [hQ]
      exact w_iret hx hb hr hlocks hP hK hS dX9_bringCode_42 rfl rfl
  · rw [if_pos h3] at hf
    refine lv_iconst (v := 1) hx hb dX9_bringCode_8 (by decide) ?_
    have hf := Option.some.inj hf
    obtain rfl := hf
    rw [hQ]
    exact w_iret hx hb hr hlocks hP hK hS dX9_bringCode_9 rfl rfl
abbrev rmX9_bringNow : Room := { frames := 1, cells := 0, slots := 0, locals := 24 }
theorem iX9_bringNow_X9 : ∀ w ∈ wsX90, w ∈ wsX9_bringNow := by decide +kernel
set_option maxHeartbeats 4000000 in
set_option maxRecDepth 100000 in
theorem k9_bringNow (l : Launch) {X : bkX} {b0 : Nat} (hX : XO X b0) (w : bkW) {s0 : Nat → Int32} {u0 : Nat → Int32} {sv0 : Nat → Int32} {tx0 : Nat → Int32} {ow0 : Nat → Int32} {rs0 : Nat → Int64} {rn0 : Nat → Int32} {nu0 : Nat → Int32} {q0 : Nat → Int32} {a1 : Int32} {a2 : Int32} {res9 : Int32} {s9 : Nat → Int32} (hf : m9_bringNow s0 a1 a2 = some (res9, s9)) : cI l yX9_bringNow wsX9_bringNow rmX9_bringNow X b0 [.ref (xa X 314), .int a1, .int a2] (pmm w s0 u0 sv0 tx0 ow0 rs0 rn0 nu0 q0) res9 (pmm w s9 u0 sv0 tx0 ow0 rs0 rn0 nu0 q0) := by
  refine Met.ofW (cc := cX9_bringNow) (maxL := 3) (ret := (some .int)) (by decide) rfl ?_
  intro p e s m args below meth c s₁ B hml hv
  obtain ⟨ha, hP, hK⟩ := hv
  have hx := B.exec
  have hb := B.bytes
  have hr := B.returns
  have hts := atoms_spec (ws := wsX9_bringNow) B.pre
  have hown : s.vm.findClass RX9 = some m.cls := findClass_of_methodNamed B.named
  have hlocks := B.notSynchronized
  obtain ⟨R, hR⟩ : ∃ R, R = (headSpec wsX9_bringNow rmX9_bringNow).room := ⟨_, rfl⟩
  rw [← hR]
  have hR1 : R.frames = 1 := by rw [hR]; rfl
  have hR2 : R.locals = 24 := by rw [hR]; rfl
  obtain ⟨Q, hQ⟩ : ∃ Q : State → Prop, Q = MQ below (va_Qi (fun r' (_ : Unit) => r' = res9) (fun _ t => WU X (pmm w s9 u0 sv0 tx0 ow0 rs0 rn0 nu0 q0) t) (xF b0)) args s 0 0 (xF b0) := ⟨_, rfl⟩
  rw [← hQ]
  have hS : va_S (xF b0) s.heap s.heap [] := va_S.rf
  have hl := lv_entry ([.ref (xa X 314), .int a1, .int a2]) (n := 3) (Nat.le_of_ble_eq_true rfl)
  refine W.eq ((congrArg (fun z => entryFrame m z 3) ha).trans (lg_entry_eq m _ 3)) ?_
  generalize (lg_sl ([.ref (xa X 314), .int a1, .int a2]) ++ List.replicate (3 - (lg_sl ([.ref (xa X 314), .int a1, .int a2])).length) Slot.unset).toArray = ls at hl ⊢
  have hl : lv_has ls 3 [(0, .ref (xa X 314)), (1, .int a1), (2, .int a2)] := hl
  have hc_150 := (cwV 3 hts gX9_bringNow_X9_grow rfl rfl rfl (by decide +kernel) ⟨by rw [hR1]; exact Nat.le_of_ble_eq_true rfl, by rw [hR2]; exact Nat.le_of_ble_eq_true rfl⟩ : CallW R s args RX9 RX9 150 yX9_grow cX9_grow 5 (some .int) wsX9_grow rmX9_grow 0 0 3)
  have hk_f7 := hts (.fieldLink RX9 7 "BakeTurnsModel" "s" "[I") (by decide +kernel)
  unfold m9_bringNow at hf
  refine lv_aload_n hx hb dX9_bringNow_0 rfl (lv_at hl 0 rfl) ?_
  refine lv_iload_n hx hb dX9_bringNow_1 rfl (lv_at hl 1 rfl) ?_
  refine lv_iconst (v := 3) hx hb dX9_bringNow_2 (by decide) ?_
  refine lv_iload_n hx hb dX9_bringNow_3 rfl (lv_at hl 2 rfl) ?_
  obtain ⟨x1, s2, hc3, hf⟩ := ob2_e hf
  refine w_ci ⟨hx, hb, hml, hown, hts⟩ hP hK hS (k9_grow l hX w hc3) hc_150 (w_recv hP hK (by decide) emb_mm rfl) rfl hl.1 rfl (Nat.le_of_ble_eq_true rfl) dX9_bringNow_4 ⟨Nat.zero_le _, Nat.zero_le _⟩ (fun H locs hP hS => ?_)
  refine lv_pop hx hb dX9_bringNow_7 rfl ?_
  refine lv_aload_n hx hb dX9_bringNow_8 rfl (lv_at hl 0 rfl) ?_
  refine w_get hx hb hts iX9_bringNow_X9 hown hP hK (by decide) emb_mm rfl 1 (by decide) hk_f7 rfl dX9_bringNow_9 ?_
  refine lv_bipush (v := 8) hx hb dX9_bringNow_12 (by decide) ?_
  refine lv_dup2_11 hx hb dX9_bringNow_14 rfl rfl ?_
  obtain ⟨hin4, hf⟩ := ck_e hf
  refine ar_ald (g := s2) hx hb AR_s rfl hP hK hin4 dX9_bringNow_15 ?_
  refine lv_iload_n hx hb dX9_bringNow_16 rfl (lv_at hl 2 rfl) ?_
  refine lv_iadd hx hb dX9_bringNow_17 ?_
  obtain ⟨hin5, hf⟩ := ck_e hf
  refine ar_ast (g := s2) hx hb hX AR_s rfl (fun z => pmm w z u0 sv0 tx0 ow0 rs0 rn0 nu0 q0) (fun z => pmm_s) hP hK hS hin5 dX9_bringNow_18 (fun s6 es6 H locs hP hS => ?_)
  replace hf := ltn_s es6 hf
  refine lv_aload_n hx hb dX9_bringNow_19 rfl (lv_at hl 0 rfl) ?_
  refine lv_iload_n hx hb dX9_bringNow_20 rfl (lv_at hl 1 rfl) ?_
  refine lv_iconst (v := 0) hx hb dX9_bringNow_21 (by decide) ?_
  refine lv_iload_n hx hb dX9_bringNow_22 rfl (lv_at hl 2 rfl) ?_
  obtain ⟨x7, s8, hc9, hf⟩ := ob2_e hf
  refine w_ci ⟨hx, hb, hml, hown, hts⟩ hP hK hS (k9_grow l hX w hc9) hc_150 (w_recv hP hK (by decide) emb_mm rfl) rfl hl.1 rfl (Nat.le_of_ble_eq_true rfl) dX9_bringNow_23 ⟨Nat.zero_le _, Nat.zero_le _⟩ (fun H locs hP hS => ?_)
  have hf := Option.some.inj hf
  simp only [Prod.mk.injEq] at hf
  obtain ⟨rfl, rfl⟩ := hf
  rw [hQ]
  exact w_iret hx hb hr hlocks hP hK hS dX9_bringNow_26 rfl rfl
