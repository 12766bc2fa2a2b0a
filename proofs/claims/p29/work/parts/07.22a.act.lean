abbrev rmL_act : Room := { frames := 6, cells := 0, slots := 0, locals := 170 }
set_option maxHeartbeats 4000000 in
set_option maxRecDepth 100000 in
theorem kL_act (l : Launch) {X : bkX} {b0 : Nat} (hX : XO X b0) (w : bkW) {N : Nat} {f0 : bkA} {g0 : bkA} {c0 : bkA} {y0 : Nat → bkA} {o0 : Nat → Int32} {a1 : Int32} {res9 : Int32} {f9 : bkA} {y9 : Nat → bkA} {o9 : Nat → Int32} (hf : mL_act N f0 c0 y0 o0 a1 = some (res9, f9, y9, o9)) : cI l yL_act wsL_act rmL_act X b0 [.ref (xa X 306), .int a1] (pbt w f0 g0 c0 y0 o0) res9 (pbt w f9 g0 c0 y9 o9) := by
  refine Met.ofW (cc := cL_act) (maxL := 7) (ret := (some .boolean)) (by decide) rfl ?_
  intro p e s m args below meth c s₁ B hml hv
  obtain ⟨ha, hP, hK⟩ := hv
  have hx := B.exec
  have hb := B.bytes
  have hr := B.returns
  have hts := atoms_spec (ws := wsL_act) B.pre
  have hown : s.vm.findClass RL = some m.cls := findClass_of_methodNamed B.named
  have hlocks := B.notSynchronized
  obtain ⟨R, hR⟩ : ∃ R, R = (headSpec wsL_act rmL_act).room := ⟨_, rfl⟩
  rw [← hR]
  have hR1 : R.frames = 6 := by rw [hR]; rfl
  have hR2 : R.locals = 170 := by rw [hR]; rfl
  obtain ⟨Q, hQ⟩ : ∃ Q : State → Prop, Q = MQ below (va_Qi (fun r' (_ : Unit) => r' = res9) (fun _ t => WU X (pbt w f9 g0 c0 y9 o9) t) (xF b0)) args s 0 0 (xF b0) := ⟨_, rfl⟩
  rw [← hQ]
  have hS : va_S (xF b0) s.heap s.heap [] := va_S.rf
  have hl := lv_entry ([.ref (xa X 306), .int a1]) (n := 7) (Nat.le_of_ble_eq_true rfl)
  refine W.eq ((congrArg (fun z => entryFrame m z 7) ha).trans (lg_entry_eq m _ 7)) ?_
  generalize (lg_sl ([.ref (xa X 306), .int a1]) ++ List.replicate (7 - (lg_sl ([.ref (xa X 306), .int a1])).length) Slot.unset).toArray = ls at hl ⊢
  have hl : lv_has ls 7 [(0, .ref (xa X 306)), (1, .int a1)] := hl
  have hc_8 := (cwV 1 hts gL_act_X8_whole rfl rfl rfl (by decide +kernel) ⟨by rw [hR1]; exact Nat.le_of_ble_eq_true rfl, by rw [hR2]; exact Nat.le_of_ble_eq_true rfl⟩ : CallW R s args RL RX8 8 yX8_whole cX8_whole 2 (some .int) wsX8_whole rmX8_whole 0 0 1)
  have hc_14 := (cwS 2 hts gL_act_L_low rfl rfl rfl (by decide +kernel) ⟨by rw [hR1]; exact Nat.le_of_ble_eq_true rfl, by rw [hR2]; exact Nat.le_of_ble_eq_true rfl⟩ : CallB R s args RL 14 yL_low cL_low 2 (some .int) wsL_low rmL_low 0 0 2 ∧ (Cond.static yL_low).before args s = true)
  have hc_20 := (cwV 5 hts gL_act_X8_addKind rfl rfl rfl (by decide +kernel) ⟨by rw [hR1]; exact Nat.le_of_ble_eq_true rfl, by rw [hR2]; exact Nat.le_of_ble_eq_true rfl⟩ : CallW R s args RL RX8 20 yX8_addKind cX8_addKind 6 (some .int) wsX8_addKind rmX8_addKind 0 0 5)
  have hc_24 := (cwV 0 hts gL_act_X8_addHouse rfl rfl rfl (by decide +kernel) ⟨by rw [hR1]; exact Nat.le_of_ble_eq_true rfl, by rw [hR2]; exact Nat.le_of_ble_eq_true rfl⟩ : CallW R s args RL RX8 24 yX8_addHouse cX8_addHouse 1 (some .int) wsX8_addHouse rmX8_addHouse 0 0 0)
  have hc_28 := (cwV 3 hts gL_act_X8_addDough rfl rfl rfl (by decide +kernel) ⟨by rw [hR1]; exact Nat.le_of_ble_eq_true rfl, by rw [hR2]; exact Nat.le_of_ble_eq_true rfl⟩ : CallW R s args RL RX8 28 yX8_addDough cX8_addDough 4 (some .int) wsX8_addDough rmX8_addDough 0 0 3)
  have hc_32 := (cwV 0 hts gL_act_X8_clearDoughs rfl rfl rfl (by decide +kernel) ⟨by rw [hR1]; exact Nat.le_of_ble_eq_true rfl, by rw [hR2]; exact Nat.le_of_ble_eq_true rfl⟩ : CallW R s args RL RX8 32 yX8_clearDoughs cX8_clearDoughs 1 (some .int) wsX8_clearDoughs rmX8_clearDoughs 0 0 0)
  have hc_35 := (cwV 1 hts gL_act_X8_line rfl rfl rfl (by decide +kernel) ⟨by rw [hR1]; exact Nat.le_of_ble_eq_true rfl, by rw [hR2]; exact Nat.le_of_ble_eq_true rfl⟩ : CallW R s args RL RX8 35 yX8_line cX8_line 2 (some .int) wsX8_line rmX8_line 0 0 1)
  have hc_38 := (cwV 2 hts gL_act_X8_swap rfl rfl rfl (by decide +kernel) ⟨by rw [hR1]; exact Nat.le_of_ble_eq_true rfl, by rw [hR2]; exact Nat.le_of_ble_eq_true rfl⟩ : CallW R s args RL RX8 38 yX8_swap cX8_swap 3 (some .int) wsX8_swap rmX8_swap 0 0 2)
  have hc_41 := (cwV 2 hts gL_act_X8_house rfl rfl rfl (by decide +kernel) ⟨by rw [hR1]; exact Nat.le_of_ble_eq_true rfl, by rw [hR2]; exact Nat.le_of_ble_eq_true rfl⟩ : CallW R s args RL RX8 41 yX8_house cX8_house 3 (some .int) wsX8_house rmX8_house 0 0 2)
  have hc_44 := (cwV 2 hts gL_act_X8_bring rfl rfl rfl (by decide +kernel) ⟨by rw [hR1]; exact Nat.le_of_ble_eq_true rfl, by rw [hR2]; exact Nat.le_of_ble_eq_true rfl⟩ : CallW R s args RL RX8 44 yX8_bring cX8_bring 3 (some .int) wsX8_bring rmX8_bring 0 0 2)
  have hc_47 := (cwV 2 hts gL_act_X8_stoke rfl rfl rfl (by decide +kernel) ⟨by rw [hR1]; exact Nat.le_of_ble_eq_true rfl, by rw [hR2]; exact Nat.le_of_ble_eq_true rfl⟩ : CallW R s args RL RX8 47 yX8_stoke cX8_stoke 3 (some .int) wsX8_stoke rmX8_stoke 0 0 2)
  have hc_50 := (cwV 0 hts gL_act_X8_settle rfl rfl rfl (by decide +kernel) ⟨by rw [hR1]; exact Nat.le_of_ble_eq_true rfl, by rw [hR2]; exact Nat.le_of_ble_eq_true rfl⟩ : CallW R s args RL RX8 50 yX8_settle cX8_settle 1 (some .int) wsX8_settle rmX8_settle 0 0 0)
  have hc_53 := (cwV 1 hts gL_act_X8_pass rfl rfl rfl (by decide +kernel) ⟨by rw [hR1]; exact Nat.le_of_ble_eq_true rfl, by rw [hR2]; exact Nat.le_of_ble_eq_true rfl⟩ : CallW R s args RL RX8 53 yX8_pass cX8_pass 2 (some .int) wsX8_pass rmX8_pass 0 0 1)
  unfold mL_act at hf
  refine lv_aload_n hx hb dL_act_0 rfl (lv_at hl 0 rfl) ?_
  refine lv_iconst (v := 1) hx hb dL_act_1 (by decide) ?_
  obtain ⟨x1, hc2, hf⟩ := ob1_e hf
  refine w_ci ⟨hx, hb, hml, hown, hts⟩ hP hK hS (k8_whole l hX w hc2) hc_8 (w_recv hP hK (by decide) emb_bt rfl) rfl hl.1 rfl (Nat.le_of_ble_eq_true rfl) dL_act_2 ⟨Nat.zero_le _, Nat.zero_le _⟩ (fun H locs hP hS => ?_)
  refine lv_istore_n (lv' := [(2, .int x1), (0, .ref (xa X 306)), (1, .int a1)]) hx hb dL_act_5 rfl hl (by decide) rfl (fun ls hl => ?_)
  refine lv_aload_n hx hb dL_act_6 rfl (lv_at hl 1 rfl) ?_
  refine lv_iconst (v := 0) hx hb dL_act_7 (by decide) ?_
  obtain ⟨x3, hc4, hf⟩ := ob1_e hf
  refine w_ci ⟨hx, hb, hml, hown, hts⟩ hP hK hS (k8_whole l hX w hc4) hc_8 (w_recv hP hK (by decide) emb_bt rfl) rfl hl.1 rfl (Nat.le_of_ble_eq_true rfl) dL_act_8 ⟨Nat.zero_le _, Nat.zero_le _⟩ (fun H locs hP hS => ?_)
  refine lv_istore_n (lv' := [(3, .int x3), (2, .int x1), (0, .ref (xa X 306)), (1, .int a1)]) hx hb dL_act_11 rfl hl (by decide) rfl (fun ls hl => ?_)
  refine lv_iload_n hx hb dL_act_12 rfl (lv_at hl 3 rfl) ?_
  refine lv_iconst (v := 4) hx hb dL_act_13 (by decide) ?_
  refine lv_ishr hx hb dL_act_14 ?_
  refine lv_iload_n hx hb dL_act_15 rfl (lv_at hl 1 rfl) ?_
  obtain ⟨x5, hc6, hf⟩ := ob1_e hf
  refine w_csi ⟨hx, hb, hml, hown, hts⟩ hP hK hS (kL_low l hX (pbt w f0 g0 c0 y0 o0) hc6) hc_14 rfl hl.1 rfl (Nat.le_of_ble_eq_true rfl) dL_act_16 ⟨Nat.zero_le _, Nat.zero_le _⟩ (fun H locs hP hS => ?_)
  refine lv_istore (lv' := [(4, .int x5), (3, .int x3), (2, .int x1), (0, .ref (xa X 306)), (1, .int a1)]) hx hb dL_act_19 hl (by decide) rfl (fun ls hl => ?_)
  refine lv_iconst (v := 1) hx hb dL_act_21 (by decide) ?_
  refine lv_iload_n hx hb dL_act_22 rfl (lv_at hl 4 rfl) ?_
  refine lv_bipush (v := 8) hx hb dL_act_23 (by decide) ?_
  refine lv_ishr hx hb dL_act_25 ?_
  refine lv_bipush (v := 14) hx hb dL_act_26 (by decide) ?_
  obtain ⟨x7, hc8, hf⟩ := ob1_e hf
  refine w_csi ⟨hx, hb, hml, hown, hts⟩ hP hK hS (kL_low l hX (pbt w f0 g0 c0 y0 o0) hc8) hc_14 rfl hl.1 rfl (Nat.le_of_ble_eq_true rfl) dL_act_28 ⟨Nat.zero_le _, Nat.zero_le _⟩ (fun H locs hP hS => ?_)
  refine lv_iadd hx hb dL_act_31 ?_
  refine lv_topi (fun x9 ex9 => ?_)
  replace hf := ltn_s ex9 hf
  refine lv_istore (lv' := [(5, .int x9), (4, .int x5), (3, .int x3), (2, .int x1), (0, .ref (xa X 306)), (1, .int a1)]) hx hb dL_act_32 hl (by decide) rfl (fun ls hl => ?_)
  refine lv_aload_n hx hb dL_act_34 rfl (lv_at hl 4 rfl) ?_
  refine lv_iconst (v := 5) hx hb dL_act_35 (by decide) ?_
  obtain ⟨x10, hc11, hf⟩ := ob1_e hf
  refine w_ci ⟨hx, hb, hml, hown, hts⟩ hP hK hS (k8_whole l hX w hc11) hc_8 (w_recv hP hK (by decide) emb_bt rfl) rfl hl.1 rfl (Nat.le_of_ble_eq_true rfl) dL_act_36 ⟨Nat.zero_le _, Nat.zero_le _⟩ (fun H locs hP hS => ?_)
  refine lv_istore (lv' := [(6, .int x10), (5, .int x9), (4, .int x5), (3, .int x3), (2, .int x1), (0, .ref (xa X 306)), (1, .int a1)]) hx hb dL_act_39 hl (by decide) rfl (fun ls hl => ?_)
  refine lv_iload_n hx hb dL_act_41 rfl (lv_at hl 6 rfl) ?_
  refine lv_bipush (v := 15) hx hb dL_act_42 (by decide) ?_
  refine lv_iand hx hb dL_act_44 ?_
  by_cases hsw152 : (a1 &&& 15) = 0
  · rw [if_pos hsw152] at hf
    refine lv_tableIn (off := 67) (tgt := 112) hx hb dL_act_45 (by rw [hsw152]; decide) (by rw [hsw152]; decide) (by rw [hsw152]; rfl) (by decide) ?_
    refine lv_iload_n hx hb dL_act_112 rfl (lv_at hl 3 rfl) ?_
    refine lv_iconst (v := 5) hx hb dL_act_113 (by decide) ?_
    refine lv_icmp_ne (tgt := 119) hx hb dL_act_114 (by decide) (fun h12 => ?_) (fun h12 => ?_)
    · rw [if_neg h12] at hf
      refine lv_aload_n hx hb dL_act_119 rfl (lv_at hl 5 rfl) ?_
      refine lv_bipush (v := 50) hx hb dL_act_120 (by decide) ?_
      refine lv_iload_n hx hb dL_act_122 rfl (lv_at hl 6 rfl) ?_
      refine lv_iconst (v := 4) hx hb dL_act_123 (by decide) ?_
      refine lv_ishr hx hb dL_act_124 ?_
      refine lv_sipush (v := 200) hx hb dL_act_125 (by decide) ?_
      obtain ⟨x13, hc14, hf⟩ := ob1_e hf
      refine w_csi ⟨hx, hb, hml, hown, hts⟩ hP hK hS (kL_low l hX (pbt w f0 g0 c0 y0 o0) hc14) hc_14 rfl hl.1 rfl (Nat.le_of_ble_eq_true rfl) dL_act_128 ⟨Nat.zero_le _, Nat.zero_le _⟩ (fun H locs hP hS => ?_)
      refine lv_iadd hx hb dL_act_131 ?_
      refine lv_sipush (v := 250) hx hb dL_act_132 (by decide) ?_
      refine lv_iload_n hx hb dL_act_135 rfl (lv_at hl 6 rfl) ?_
      refine lv_bipush (v := 12) hx hb dL_act_136 (by decide) ?_
      refine lv_ishr hx hb dL_act_138 ?_
      refine lv_sipush (v := 150) hx hb dL_act_139 (by decide) ?_
      obtain ⟨x15, hc16, hf⟩ := ob1_e hf
      refine w_csi ⟨hx, hb, hml, hown, hts⟩ hP hK hS (kL_low l hX (pbt w f0 g0 c0 y0 o0) hc16) hc_14 rfl hl.1 rfl (Nat.le_of_ble_eq_true rfl) dL_act_142 ⟨Nat.zero_le _, Nat.zero_le _⟩ (fun H locs hP hS => ?_)
      refine lv_iadd hx hb dL_act_145 ?_
      refine lv_iconst (v := 1) hx hb dL_act_146 (by decide) ?_
      refine lv_iload_n hx hb dL_act_147 rfl (lv_at hl 6 rfl) ?_
      refine lv_bipush (v := 20) hx hb dL_act_148 (by decide) ?_
      refine lv_ishr hx hb dL_act_150 ?_
      refine lv_bipush (v := 6) hx hb dL_act_151 (by decide) ?_
      obtain ⟨x17, hc18, hf⟩ := ob1_e hf
      refine w_csi ⟨hx, hb, hml, hown, hts⟩ hP hK hS (kL_low l hX (pbt w f0 g0 c0 y0 o0) hc18) hc_14 rfl hl.1 rfl (Nat.le_of_ble_eq_true rfl) dL_act_153 ⟨Nat.zero_le _, Nat.zero_le _⟩ (fun H locs hP hS => ?_)
      refine lv_iadd hx hb dL_act_156 ?_
      refine lv_iload_n hx hb dL_act_157 rfl (lv_at hl 6 rfl) ?_
      refine lv_bipush (v := 16) hx hb dL_act_158 (by decide) ?_
      refine lv_ishr hx hb dL_act_160 ?_
      refine lv_iconst (v := 4) hx hb dL_act_161 (by decide) ?_
      obtain ⟨x19, hc20, hf⟩ := ob1_e hf
      refine w_csi ⟨hx, hb, hml, hown, hts⟩ hP hK hS (kL_low l hX (pbt w f0 g0 c0 y0 o0) hc20) hc_14 rfl hl.1 rfl (Nat.le_of_ble_eq_true rfl) dL_act_162 ⟨Nat.zero_le _, Nat.zero_le _⟩ (fun H locs hP hS => ?_)
      refine lv_iconst (v := 1) hx hb dL_act_165 (by decide) ?_
      refine lv_iload_n hx hb dL_act_166 rfl (lv_at hl 6 rfl) ?_
      refine lv_bipush (v := 23) hx hb dL_act_167 (by decide) ?_
      refine lv_ishr hx hb dL_act_169 ?_
      refine lv_bipush (v := 20) hx hb dL_act_170 (by decide) ?_
      obtain ⟨x21, hc22, hf⟩ := ob1_e hf
      refine w_csi ⟨hx, hb, hml, hown, hts⟩ hP hK hS (kL_low l hX (pbt w f0 g0 c0 y0 o0) hc22) hc_14 rfl hl.1 rfl (Nat.le_of_ble_eq_true rfl) dL_act_172 ⟨Nat.zero_le _, Nat.zero_le _⟩ (fun H locs hP hS => ?_)
      refine lv_iadd hx hb dL_act_175 ?_
      obtain ⟨x23, f24, y25, o26, hc27, hf⟩ := ob4_e hf
      refine w_ci ⟨hx, hb, hml, hown, hts⟩ hP hK hS (k8_addKind l hX w hc27) hc_20 (w_recv hP hK (by decide) emb_bt rfl) rfl hl.1 rfl (Nat.le_of_ble_eq_true rfl) dL_act_176 ⟨Nat.zero_le _, Nat.zero_le _⟩ (fun H locs hP hS => ?_)
      refine lv_pop hx hb dL_act_179 rfl ?_
      refine lv_iconst (v := 1) hx hb dL_act_180 (by decide) ?_
      have hf := Option.some.inj hf
      simp only [Prod.mk.injEq] at hf
      obtain ⟨rfl, rfl, rfl, rfl⟩ := hf
      rw [hQ]
      exact w_zret hx hb hr hlocks hP hK hS dL_act_181 (by decide) rfl rfl
    · rw [if_pos h12] at hf
      refine lv_iconst (v := 0) hx hb dL_act_117 (by decide) ?_
      have hf := Option.some.inj hf
      simp only [Prod.mk.injEq] at hf
      obtain ⟨rfl, rfl, rfl, rfl⟩ := hf
      rw [hQ]
      exact w_zret hx hb hr hlocks hP hK hS dL_act_118 (by decide) rfl rfl
  rw [if_neg hsw152] at hf
  by_cases hsw153 : (a1 &&& 15) = 1
  · rw [if_pos hsw153] at hf
    refine lv_tableIn (off := 137) (tgt := 182) hx hb dL_act_45 (by rw [hsw153]; decide) (by rw [hsw153]; decide) (by rw [hsw153]; rfl) (by decide) ?_
    refine lv_iload_n hx hb dL_act_182 rfl (lv_at hl 4 rfl) ?_
    refine lv_bipush (v := 8) hx hb dL_act_183 (by decide) ?_
    refine lv_icmp_ne (tgt := 190) hx hb dL_act_185 (by decide) (fun h28 => ?_) (fun h28 => ?_)
    · rw [if_neg h28] at hf
      refine lv_aload_n hx hb dL_act_190 rfl (lv_at hl 5 rfl) ?_
      obtain ⟨x29, f30, y31, o32, hc33, hf⟩ := ob4_e hf
      refine w_ci ⟨hx, hb, hml, hown, hts⟩ hP hK hS (k8_addHouse l hX w hc33) hc_24 (w_recv hP hK (by decide) emb_bt rfl) rfl hl.1 rfl (Nat.le_of_ble_eq_true rfl) dL_act_191 ⟨Nat.zero_le _, Nat.zero_le _⟩ (fun H locs hP hS => ?_)
      refine lv_pop hx hb dL_act_194 rfl ?_
      refine lv_iconst (v := 1) hx hb dL_act_195 (by decide) ?_
      have hf := Option.some.inj hf
      simp only [Prod.mk.injEq] at hf
      obtain ⟨rfl, rfl, rfl, rfl⟩ := hf
      rw [hQ]
      exact w_zret hx hb hr hlocks hP hK hS dL_act_196 (by decide) rfl rfl
    · rw [if_pos h28] at hf
      refine lv_iconst (v := 0) hx hb dL_act_188 (by decide) ?_
      have hf := Option.some.inj hf
      simp only [Prod.mk.injEq] at hf
      obtain ⟨rfl, rfl, rfl, rfl⟩ := hf
      rw [hQ]
      exact w_zret hx hb hr hlocks hP hK hS dL_act_189 (by decide) rfl rfl
  rw [if_neg hsw153] at hf
  by_cases hsw154 : (a1 &&& 15) = 2
  · rw [if_pos hsw154] at hf
    refine lv_tableIn (off := 152) (tgt := 197) hx hb dL_act_45 (by rw [hsw154]; decide) (by rw [hsw154]; decide) (by rw [hsw154]; rfl) (by decide) ?_
    refine lv_aload_n hx hb dL_act_197 rfl (lv_at hl 5 rfl) ?_
    refine lv_iconst (v := 2) hx hb dL_act_198 (by decide) ?_
    obtain ⟨x34, hc35, hf⟩ := ob1_e hf
    refine w_ci ⟨hx, hb, hml, hown, hts⟩ hP hK hS (k8_whole l hX w hc35) hc_8 (w_recv hP hK (by decide) emb_bt rfl) rfl hl.1 rfl (Nat.le_of_ble_eq_true rfl) dL_act_199 ⟨Nat.zero_le _, Nat.zero_le _⟩ (fun H locs hP hS => ?_)
    refine lv_bipush (v := 16) hx hb dL_act_202 (by decide) ?_
    refine lv_icmp_ne (tgt := 209) hx hb dL_act_204 (by decide) (fun h36 => ?_) (fun h36 => ?_)
    · rw [if_neg h36] at hf
      refine lv_aload_n hx hb dL_act_209 rfl (lv_at hl 5 rfl) ?_
      refine lv_iload hx hb dL_act_210 (lv_at hl 2 rfl) ?_
      refine lv_iload_n hx hb dL_act_212 rfl (lv_at hl 6 rfl) ?_
      refine lv_bipush (v := 8) hx hb dL_act_213 (by decide) ?_
      refine lv_ishr hx hb dL_act_215 ?_
      refine lv_iload_n hx hb dL_act_216 rfl (lv_at hl 3 rfl) ?_
      obtain ⟨x37, hc38, hf⟩ := ob1_e hf
      refine w_csi ⟨hx, hb, hml, hown, hts⟩ hP hK hS (kL_low l hX (pbt w f0 g0 c0 y0 o0) hc38) hc_14 rfl hl.1 rfl (Nat.le_of_ble_eq_true rfl) dL_act_217 ⟨Nat.zero_le _, Nat.zero_le _⟩ (fun H locs hP hS => ?_)
      refine lv_iconst (v := 1) hx hb dL_act_220 (by decide) ?_
      refine lv_iload_n hx hb dL_act_221 rfl (lv_at hl 6 rfl) ?_
      refine lv_bipush (v := 12) hx hb dL_act_222 (by decide) ?_
      refine lv_ishr hx hb dL_act_224 ?_
      refine lv_iconst (v := 4) hx hb dL_act_225 (by decide) ?_
      obtain ⟨x39, hc40, hf⟩ := ob1_e hf
      refine w_csi ⟨hx, hb, hml, hown, hts⟩ hP hK hS (kL_low l hX (pbt w f0 g0 c0 y0 o0) hc40) hc_14 rfl hl.1 rfl (Nat.le_of_ble_eq_true rfl) dL_act_226 ⟨Nat.zero_le _, Nat.zero_le _⟩ (fun H locs hP hS => ?_)
      refine lv_iadd hx hb dL_act_229 ?_
      obtain ⟨x41, f42, y43, o44, hc45, hf⟩ := ob4_e hf
      refine w_ci ⟨hx, hb, hml, hown, hts⟩ hP hK hS (k8_addDough l hX w hc45) hc_28 (w_recv hP hK (by decide) emb_bt rfl) rfl hl.1 rfl (Nat.le_of_ble_eq_true rfl) dL_act_230 ⟨Nat.zero_le _, Nat.zero_le _⟩ (fun H locs hP hS => ?_)
      refine lv_pop hx hb dL_act_233 rfl ?_
      refine lv_iconst (v := 1) hx hb dL_act_234 (by decide) ?_
      have hf := Option.some.inj hf
      simp only [Prod.mk.injEq] at hf
      obtain ⟨rfl, rfl, rfl, rfl⟩ := hf
      rw [hQ]
      exact w_zret hx hb hr hlocks hP hK hS dL_act_235 (by decide) rfl rfl
    · rw [if_pos h36] at hf
      refine lv_iconst (v := 0) hx hb dL_act_207 (by decide) ?_
      have hf := Option.some.inj hf
      simp only [Prod.mk.injEq] at hf
      obtain ⟨rfl, rfl, rfl, rfl⟩ := hf
      rw [hQ]
      exact w_zret hx hb hr hlocks hP hK hS dL_act_208 (by decide) rfl rfl
  rw [if_neg hsw154] at hf
  by_cases hsw155 : (a1 &&& 15) = 3
  · rw [if_pos hsw155] at hf
    refine lv_tableIn (off := 152) (tgt := 197) hx hb dL_act_45 (by rw [hsw155]; decide) (by rw [hsw155]; decide) (by rw [hsw155]; rfl) (by decide) ?_
    refine lv_aload_n hx hb dL_act_197 rfl (lv_at hl 5 rfl) ?_
    refine lv_iconst (v := 2) hx hb dL_act_198 (by decide) ?_
    obtain ⟨x46, hc47, hf⟩ := ob1_e hf
    refine w_ci ⟨hx, hb, hml, hown, hts⟩ hP hK hS (k8_whole l hX w hc47) hc_8 (w_recv hP hK (by decide) emb_bt rfl) rfl hl.1 rfl (Nat.le_of_ble_eq_true rfl) dL_act_199 ⟨Nat.zero_le _, Nat.zero_le _⟩ (fun H locs hP hS => ?_)
    refine lv_bipush (v := 16) hx hb dL_act_202 (by decide) ?_
    refine lv_icmp_ne (tgt := 209) hx hb dL_act_204 (by decide) (fun h48 => ?_) (fun h48 => ?_)
    · rw [if_neg h48] at hf
      refine lv_aload_n hx hb dL_act_209 rfl (lv_at hl 5 rfl) ?_
      refine lv_iload hx hb dL_act_210 (lv_at hl 2 rfl) ?_
      refine lv_iload_n hx hb dL_act_212 rfl (lv_at hl 6 rfl) ?_
      refine lv_bipush (v := 8) hx hb dL_act_213 (by decide) ?_
      refine lv_ishr hx hb dL_act_215 ?_
      refine lv_iload_n hx hb dL_act_216 rfl (lv_at hl 3 rfl) ?_
      obtain ⟨x49, hc50, hf⟩ := ob1_e hf
      refine w_csi ⟨hx, hb, hml, hown, hts⟩ hP hK hS (kL_low l hX (pbt w f0 g0 c0 y0 o0) hc50) hc_14 rfl hl.1 rfl (Nat.le_of_ble_eq_true rfl) dL_act_217 ⟨Nat.zero_le _, Nat.zero_le _⟩ (fun H locs hP hS => ?_)
      refine lv_iconst (v := 1) hx hb dL_act_220 (by decide) ?_
      refine lv_iload_n hx hb dL_act_221 rfl (lv_at hl 6 rfl) ?_
      refine lv_bipush (v := 12) hx hb dL_act_222 (by decide) ?_
      refine lv_ishr hx hb dL_act_224 ?_
      refine lv_iconst (v := 4) hx hb dL_act_225 (by decide) ?_
      obtain ⟨x51, hc52, hf⟩ := ob1_e hf
      refine w_csi ⟨hx, hb, hml, hown, hts⟩ hP hK hS (kL_low l hX (pbt w f0 g0 c0 y0 o0) hc52) hc_14 rfl hl.1 rfl (Nat.le_of_ble_eq_true rfl) dL_act_226 ⟨Nat.zero_le _, Nat.zero_le _⟩ (fun H locs hP hS => ?_)
      refine lv_iadd hx hb dL_act_229 ?_
      obtain ⟨x53, f54, y55, o56, hc57, hf⟩ := ob4_e hf
      refine w_ci ⟨hx, hb, hml, hown, hts⟩ hP hK hS (k8_addDough l hX w hc57) hc_28 (w_recv hP hK (by decide) emb_bt rfl) rfl hl.1 rfl (Nat.le_of_ble_eq_true rfl) dL_act_230 ⟨Nat.zero_le _, Nat.zero_le _⟩ (fun H locs hP hS => ?_)
      refine lv_pop hx hb dL_act_233 rfl ?_
      refine lv_iconst (v := 1) hx hb dL_act_234 (by decide) ?_
      have hf := Option.some.inj hf
      simp only [Prod.mk.injEq] at hf
      obtain ⟨rfl, rfl, rfl, rfl⟩ := hf
      rw [hQ]
      exact w_zret hx hb hr hlocks hP hK hS dL_act_235 (by decide) rfl rfl
    · rw [if_pos h48] at hf
      refine lv_iconst (v := 0) hx hb dL_act_207 (by decide) ?_
      have hf := Option.some.inj hf
      simp only [Prod.mk.injEq] at hf
      obtain ⟨rfl, rfl, rfl, rfl⟩ := hf
      rw [hQ]
      exact w_zret hx hb hr hlocks hP hK hS dL_act_208 (by decide) rfl rfl
  rw [if_neg hsw155] at hf
  by_cases hsw156 : (a1 &&& 15) = 4
  · rw [if_pos hsw156] at hf
    refine lv_tableIn (off := 152) (tgt := 197) hx hb dL_act_45 (by rw [hsw156]; decide) (by rw [hsw156]; decide) (by rw [hsw156]; rfl) (by decide) ?_
    refine lv_aload_n hx hb dL_act_197 rfl (lv_at hl 5 rfl) ?_
    refine lv_iconst (v := 2) hx hb dL_act_198 (by decide) ?_
    obtain ⟨x58, hc59, hf⟩ := ob1_e hf
    refine w_ci ⟨hx, hb, hml, hown, hts⟩ hP hK hS (k8_whole l hX w hc59) hc_8 (w_recv hP hK (by decide) emb_bt rfl) rfl hl.1 rfl (Nat.le_of_ble_eq_true rfl) dL_act_199 ⟨Nat.zero_le _, Nat.zero_le _⟩ (fun H locs hP hS => ?_)
    refine lv_bipush (v := 16) hx hb dL_act_202 (by decide) ?_
    refine lv_icmp_ne (tgt := 209) hx hb dL_act_204 (by decide) (fun h60 => ?_) (fun h60 => ?_)
    · rw [if_neg h60] at hf
      refine lv_aload_n hx hb dL_act_209 rfl (lv_at hl 5 rfl) ?_
      refine lv_iload hx hb dL_act_210 (lv_at hl 2 rfl) ?_
      refine lv_iload_n hx hb dL_act_212 rfl (lv_at hl 6 rfl) ?_
      refine lv_bipush (v := 8) hx hb dL_act_213 (by decide) ?_
      refine lv_ishr hx hb dL_act_215 ?_
      refine lv_iload_n hx hb dL_act_216 rfl (lv_at hl 3 rfl) ?_
      obtain ⟨x61, hc62, hf⟩ := ob1_e hf
      refine w_csi ⟨hx, hb, hml, hown, hts⟩ hP hK hS (kL_low l hX (pbt w f0 g0 c0 y0 o0) hc62) hc_14 rfl hl.1 rfl (Nat.le_of_ble_eq_true rfl) dL_act_217 ⟨Nat.zero_le _, Nat.zero_le _⟩ (fun H locs hP hS => ?_)
      refine lv_iconst (v := 1) hx hb dL_act_220 (by decide) ?_
      refine lv_iload_n hx hb dL_act_221 rfl (lv_at hl 6 rfl) ?_
      refine lv_bipush (v := 12) hx hb dL_act_222 (by decide) ?_
      refine lv_ishr hx hb dL_act_224 ?_
      refine lv_iconst (v := 4) hx hb dL_act_225 (by decide) ?_
      obtain ⟨x63, hc64, hf⟩ := ob1_e hf
      refine w_csi ⟨hx, hb, hml, hown, hts⟩ hP hK hS (kL_low l hX (pbt w f0 g0 c0 y0 o0) hc64) hc_14 rfl hl.1 rfl (Nat.le_of_ble_eq_true rfl) dL_act_226 ⟨Nat.zero_le _, Nat.zero_le _⟩ (fun H locs hP hS => ?_)
      refine lv_iadd hx hb dL_act_229 ?_
      obtain ⟨x65, f66, y67, o68, hc69, hf⟩ := ob4_e hf
      refine w_ci ⟨hx, hb, hml, hown, hts⟩ hP hK hS (k8_addDough l hX w hc69) hc_28 (w_recv hP hK (by decide) emb_bt rfl) rfl hl.1 rfl (Nat.le_of_ble_eq_true rfl) dL_act_230 ⟨Nat.zero_le _, Nat.zero_le _⟩ (fun H locs hP hS => ?_)
      refine lv_pop hx hb dL_act_233 rfl ?_
      refine lv_iconst (v := 1) hx hb dL_act_234 (by decide) ?_
      have hf := Option.some.inj hf
      simp only [Prod.mk.injEq] at hf
      obtain ⟨rfl, rfl, rfl, rfl⟩ := hf
      rw [hQ]
      exact w_zret hx hb hr hlocks hP hK hS dL_act_235 (by decide) rfl rfl
    · rw [if_pos h60] at hf
      refine lv_iconst (v := 0) hx hb dL_act_207 (by decide) ?_
      have hf := Option.some.inj hf
      simp only [Prod.mk.injEq] at hf
      obtain ⟨rfl, rfl, rfl, rfl⟩ := hf
      rw [hQ]
      exact w_zret hx hb hr hlocks hP hK hS dL_act_208 (by decide) rfl rfl
  rw [if_neg hsw156] at hf
  by_cases hsw157 : (a1 &&& 15) = 5
  · rw [if_pos hsw157] at hf
    refine lv_tableIn (off := 152) (tgt := 197) hx hb dL_act_45 (by rw [hsw157]; decide) (by rw [hsw157]; decide) (by rw [hsw157]; rfl) (by decide) ?_
    refine lv_aload_n hx hb dL_act_197 rfl (lv_at hl 5 rfl) ?_
    refine lv_iconst (v := 2) hx hb dL_act_198 (by decide) ?_
    obtain ⟨x70, hc71, hf⟩ := ob1_e hf
    refine w_ci ⟨hx, hb, hml, hown, hts⟩ hP hK hS (k8_whole l hX w hc71) hc_8 (w_recv hP hK (by decide) emb_bt rfl) rfl hl.1 rfl (Nat.le_of_ble_eq_true rfl) dL_act_199 ⟨Nat.zero_le _, Nat.zero_le _⟩ (fun H locs hP hS => ?_)
    refine lv_bipush (v := 16) hx hb dL_act_202 (by decide) ?_
    refine lv_icmp_ne (tgt := 209) hx hb dL_act_204 (by decide) (fun h72 => ?_) (fun h72 => ?_)
    · rw [if_neg h72] at hf
      refine lv_aload_n hx hb dL_act_209 rfl (lv_at hl 5 rfl) ?_
      refine lv_iload hx hb dL_act_210 (lv_at hl 2 rfl) ?_
      refine lv_iload_n hx hb dL_act_212 rfl (lv_at hl 6 rfl) ?_
      refine lv_bipush (v := 8) hx hb dL_act_213 (by decide) ?_
      refine lv_ishr hx hb dL_act_215 ?_
      refine lv_iload_n hx hb dL_act_216 rfl (lv_at hl 3 rfl) ?_
      obtain ⟨x73, hc74, hf⟩ := ob1_e hf
      refine w_csi ⟨hx, hb, hml, hown, hts⟩ hP hK hS (kL_low l hX (pbt w f0 g0 c0 y0 o0) hc74) hc_14 rfl hl.1 rfl (Nat.le_of_ble_eq_true rfl) dL_act_217 ⟨Nat.zero_le _, Nat.zero_le _⟩ (fun H locs hP hS => ?_)
      refine lv_iconst (v := 1) hx hb dL_act_220 (by decide) ?_
      refine lv_iload_n hx hb dL_act_221 rfl (lv_at hl 6 rfl) ?_
      refine lv_bipush (v := 12) hx hb dL_act_222 (by decide) ?_
      refine lv_ishr hx hb dL_act_224 ?_
      refine lv_iconst (v := 4) hx hb dL_act_225 (by decide) ?_
      obtain ⟨x75, hc76, hf⟩ := ob1_e hf
      refine w_csi ⟨hx, hb, hml, hown, hts⟩ hP hK hS (kL_low l hX (pbt w f0 g0 c0 y0 o0) hc76) hc_14 rfl hl.1 rfl (Nat.le_of_ble_eq_true rfl) dL_act_226 ⟨Nat.zero_le _, Nat.zero_le _⟩ (fun H locs hP hS => ?_)
      refine lv_iadd hx hb dL_act_229 ?_
      obtain ⟨x77, f78, y79, o80, hc81, hf⟩ := ob4_e hf
      refine w_ci ⟨hx, hb, hml, hown, hts⟩ hP hK hS (k8_addDough l hX w hc81) hc_28 (w_recv hP hK (by decide) emb_bt rfl) rfl hl.1 rfl (Nat.le_of_ble_eq_true rfl) dL_act_230 ⟨Nat.zero_le _, Nat.zero_le _⟩ (fun H locs hP hS => ?_)
      refine lv_pop hx hb dL_act_233 rfl ?_
      refine lv_iconst (v := 1) hx hb dL_act_234 (by decide) ?_
      have hf := Option.some.inj hf
      simp only [Prod.mk.injEq] at hf
      obtain ⟨rfl, rfl, rfl, rfl⟩ := hf
      rw [hQ]
      exact w_zret hx hb hr hlocks hP hK hS dL_act_235 (by decide) rfl rfl
    · rw [if_pos h72] at hf
      refine lv_iconst (v := 0) hx hb dL_act_207 (by decide) ?_
      have hf := Option.some.inj hf
      simp only [Prod.mk.injEq] at hf
      obtain ⟨rfl, rfl, rfl, rfl⟩ := hf
      rw [hQ]
      exact w_zret hx hb hr hlocks hP hK hS dL_act_208 (by decide) rfl rfl
  rw [if_neg hsw157] at hf
  by_cases hsw158 : (a1 &&& 15) = 6
  · rw [if_pos hsw158] at hf
    refine lv_tableIn (off := 191) (tgt := 236) hx hb dL_act_45 (by rw [hsw158]; decide) (by rw [hsw158]; decide) (by rw [hsw158]; rfl) (by decide) ?_
    refine lv_aload_n hx hb dL_act_236 rfl (lv_at hl 5 rfl) ?_
    obtain ⟨x82, f83, y84, o85, hc86, hf⟩ := ob4_e hf
    refine w_ci ⟨hx, hb, hml, hown, hts⟩ hP hK hS (k8_clearDoughs l hX w hc86) hc_32 (w_recv hP hK (by decide) emb_bt rfl) rfl hl.1 rfl (Nat.le_of_ble_eq_true rfl) dL_act_237 ⟨Nat.zero_le _, Nat.zero_le _⟩ (fun H locs hP hS => ?_)
    refine lv_pop hx hb dL_act_240 rfl ?_
    refine lv_iconst (v := 1) hx hb dL_act_241 (by decide) ?_
    have hf := Option.some.inj hf
    simp only [Prod.mk.injEq] at hf
    obtain ⟨rfl, rfl, rfl, rfl⟩ := hf
    rw [hQ]
    exact w_zret hx hb hr hlocks hP hK hS dL_act_242 (by decide) rfl rfl
  rw [if_neg hsw158] at hf
  by_cases hsw159 : (a1 &&& 15) = 7
  · rw [if_pos hsw159] at hf
    refine lv_tableIn (off := 198) (tgt := 243) hx hb dL_act_45 (by rw [hsw159]; decide) (by rw [hsw159]; decide) (by rw [hsw159]; rfl) (by decide) ?_
    refine lv_iload hx hb dL_act_243 (lv_at hl 0 rfl) ?_
    refine lv_iconst (v := 2) hx hb dL_act_245 (by decide) ?_
    refine lv_icmp_ge (tgt := 251) hx hb dL_act_246 (by decide) (fun h87 => ?_) (fun h87 => ?_)
    · rw [if_pos h87] at hf
      refine lv_aload_n hx hb dL_act_251 rfl (lv_at hl 5 rfl) ?_
      refine lv_aload_n hx hb dL_act_252 rfl (lv_at hl 5 rfl) ?_
      refine lv_iconst (v := 0) hx hb dL_act_253 (by decide) ?_
      obtain ⟨x88, hc89, hf⟩ := ob1_e hf
      refine w_ci ⟨hx, hb, hml, hown, hts⟩ hP hK hS (k8_line l hX w hc89) hc_35 (w_recv hP hK (by decide) emb_bt rfl) rfl hl.1 rfl (Nat.le_of_ble_eq_true rfl) dL_act_254 ⟨Nat.zero_le _, Nat.zero_le _⟩ (fun H locs hP hS => ?_)
      refine lv_aload_n hx hb dL_act_257 rfl (lv_at hl 5 rfl) ?_
      refine lv_iconst (v := 1) hx hb dL_act_258 (by decide) ?_
      refine lv_iload_n hx hb dL_act_259 rfl (lv_at hl 6 rfl) ?_
      refine lv_iconst (v := 4) hx hb dL_act_260 (by decide) ?_
      refine lv_ishr hx hb dL_act_261 ?_
      refine lv_iload hx hb dL_act_262 (lv_at hl 0 rfl) ?_
      refine lv_iconst (v := 1) hx hb dL_act_264 (by decide) ?_
      refine lv_isub hx hb dL_act_265 ?_
      obtain ⟨x90, hc91, hf⟩ := ob1_e hf
      refine w_csi ⟨hx, hb, hml, hown, hts⟩ hP hK hS (kL_low l hX (pbt w f0 g0 c0 y0 o0) hc91) hc_14 rfl hl.1 rfl (Nat.le_of_ble_eq_true rfl) dL_act_266 ⟨Nat.zero_le _, Nat.zero_le _⟩ (fun H locs hP hS => ?_)
      refine lv_iadd hx hb dL_act_269 ?_
      obtain ⟨x92, hc93, hf⟩ := ob1_e hf
      refine w_ci ⟨hx, hb, hml, hown, hts⟩ hP hK hS (k8_line l hX w hc93) hc_35 (w_recv hP hK (by decide) emb_bt rfl) rfl hl.1 rfl (Nat.le_of_ble_eq_true rfl) dL_act_270 ⟨Nat.zero_le _, Nat.zero_le _⟩ (fun H locs hP hS => ?_)
      obtain ⟨x94, f95, y96, o97, hc98, hf⟩ := ob4_e hf
      refine w_ci ⟨hx, hb, hml, hown, hts⟩ hP hK hS (k8_swap l hX w hc98) hc_38 (w_recv hP hK (by decide) emb_bt rfl) rfl hl.1 rfl (Nat.le_of_ble_eq_true rfl) dL_act_273 ⟨Nat.zero_le _, Nat.zero_le _⟩ (fun H locs hP hS => ?_)
      refine lv_pop hx hb dL_act_276 rfl ?_
      refine lv_iconst (v := 1) hx hb dL_act_277 (by decide) ?_
      have hf := Option.some.inj hf
      simp only [Prod.mk.injEq] at hf
      obtain ⟨rfl, rfl, rfl, rfl⟩ := hf
      rw [hQ]
      exact w_zret hx hb hr hlocks hP hK hS dL_act_278 (by decide) rfl rfl
    · rw [if_neg h87] at hf
      refine lv_iconst (v := 0) hx hb dL_act_249 (by decide) ?_
      have hf := Option.some.inj hf
      simp only [Prod.mk.injEq] at hf
      obtain ⟨rfl, rfl, rfl, rfl⟩ := hf
      rw [hQ]
      exact w_zret hx hb hr hlocks hP hK hS dL_act_250 (by decide) rfl rfl
  rw [if_neg hsw159] at hf
  by_cases hsw160 : (a1 &&& 15) = 8
  · rw [if_pos hsw160] at hf
    refine lv_tableIn (off := 234) (tgt := 279) hx hb dL_act_45 (by rw [hsw160]; decide) (by rw [hsw160]; decide) (by rw [hsw160]; rfl) (by decide) ?_
    refine lv_aload_n hx hb dL_act_279 rfl (lv_at hl 5 rfl) ?_
    refine lv_iload hx hb dL_act_280 (lv_at hl 2 rfl) ?_
    refine lv_iconst (v := 0) hx hb dL_act_282 (by decide) ?_
    obtain ⟨x99, hc100, hf⟩ := ob1_e hf
    refine w_ci ⟨hx, hb, hml, hown, hts⟩ hP hK hS (k8_house l hX w hc100) hc_41 (w_recv hP hK (by decide) emb_bt rfl) rfl hl.1 rfl (Nat.le_of_ble_eq_true rfl) dL_act_283 ⟨Nat.zero_le _, Nat.zero_le _⟩ (fun H locs hP hS => ?_)
    refine lv_iload hx hb dL_act_286 (lv_at hl 1 rfl) ?_
    refine lv_iadd hx hb dL_act_288 ?_
    refine lv_sipush (v := 999) hx hb dL_act_289 (by decide) ?_
    refine lv_icmp_le (tgt := 297) hx hb dL_act_292 (by decide) (fun h101 => ?_) (fun h101 => ?_)
    · rw [if_pos h101] at hf
      refine lv_aload_n hx hb dL_act_297 rfl (lv_at hl 5 rfl) ?_
      refine lv_iload hx hb dL_act_298 (lv_at hl 2 rfl) ?_
      refine lv_iload hx hb dL_act_300 (lv_at hl 1 rfl) ?_
      obtain ⟨x102, f103, y104, o105, hc106, hf⟩ := ob4_e hf
      refine w_ci ⟨hx, hb, hml, hown, hts⟩ hP hK hS (k8_bring l hX w hc106) hc_44 (w_recv hP hK (by decide) emb_bt rfl) rfl hl.1 rfl (Nat.le_of_ble_eq_true rfl) dL_act_302 ⟨Nat.zero_le _, Nat.zero_le _⟩ (fun H locs hP hS => ?_)
      refine lv_pop hx hb dL_act_305 rfl ?_
      refine lv_iconst (v := 1) hx hb dL_act_306 (by decide) ?_
      have hf := Option.some.inj hf
      simp only [Prod.mk.injEq] at hf
      obtain ⟨rfl, rfl, rfl, rfl⟩ := hf
      rw [hQ]
      exact w_zret hx hb hr hlocks hP hK hS dL_act_307 (by decide) rfl rfl
    · rw [if_neg h101] at hf
      refine lv_iconst (v := 0) hx hb dL_act_295 (by decide) ?_
      have hf := Option.some.inj hf
      simp only [Prod.mk.injEq] at hf
      obtain ⟨rfl, rfl, rfl, rfl⟩ := hf
      rw [hQ]
      exact w_zret hx hb hr hlocks hP hK hS dL_act_296 (by decide) rfl rfl
  rw [if_neg hsw160] at hf
  by_cases hsw161 : (a1 &&& 15) = 9
  · rw [if_pos hsw161] at hf
    refine lv_tableIn (off := 263) (tgt := 308) hx hb dL_act_45 (by rw [hsw161]; decide) (by rw [hsw161]; decide) (by rw [hsw161]; rfl) (by decide) ?_
    refine lv_aload_n hx hb dL_act_308 rfl (lv_at hl 5 rfl) ?_
    refine lv_iload hx hb dL_act_309 (lv_at hl 2 rfl) ?_
    refine lv_iconst (v := 0) hx hb dL_act_311 (by decide) ?_
    obtain ⟨x107, hc108, hf⟩ := ob1_e hf
    refine w_ci ⟨hx, hb, hml, hown, hts⟩ hP hK hS (k8_house l hX w hc108) hc_41 (w_recv hP hK (by decide) emb_bt rfl) rfl hl.1 rfl (Nat.le_of_ble_eq_true rfl) dL_act_312 ⟨Nat.zero_le _, Nat.zero_le _⟩ (fun H locs hP hS => ?_)
    refine lv_iload hx hb dL_act_315 (lv_at hl 1 rfl) ?_
    refine lv_isub hx hb dL_act_317 ?_
    refine lv_bipush (v := (-20)) hx hb dL_act_318 (by decide) ?_
    refine lv_icmp_lt (tgt := 340) hx hb dL_act_320 (by decide) (fun h109 => ?_) (fun h109 => ?_)
    · rw [if_pos h109] at hf
      refine lv_iconst (v := 0) hx hb dL_act_340 (by decide) ?_
      have hf := Option.some.inj hf
      simp only [Prod.mk.injEq] at hf
      obtain ⟨rfl, rfl, rfl, rfl⟩ := hf
      rw [hQ]
      exact w_zret hx hb hr hlocks hP hK hS dL_act_341 (by decide) rfl rfl
    · rw [if_neg h109] at hf
      refine lv_aload_n hx hb dL_act_323 rfl (lv_at hl 5 rfl) ?_
      refine lv_iconst (v := 3) hx hb dL_act_324 (by decide) ?_
      obtain ⟨x110, hc111, hf⟩ := ob1_e hf
      refine w_ci ⟨hx, hb, hml, hown, hts⟩ hP hK hS (k8_whole l hX w hc111) hc_8 (w_recv hP hK (by decide) emb_bt rfl) rfl hl.1 rfl (Nat.le_of_ble_eq_true rfl) dL_act_325 ⟨Nat.zero_le _, Nat.zero_le _⟩ (fun H locs hP hS => ?_)
      refine lv_bipush (v := 25) hx hb dL_act_328 (by decide) ?_
      refine lv_iload hx hb dL_act_330 (lv_at hl 1 rfl) ?_
      refine lv_imul hx hb dL_act_332 ?_
      refine lv_iadd hx hb dL_act_333 ?_
      refine lv_sipush (v := 400) hx hb dL_act_334 (by decide) ?_
      refine lv_icmp_le (tgt := 342) hx hb dL_act_337 (by decide) (fun h112 => ?_) (fun h112 => ?_)
      · rw [if_pos h112] at hf
        refine lv_aload_n hx hb dL_act_342 rfl (lv_at hl 5 rfl) ?_
        refine lv_iload hx hb dL_act_343 (lv_at hl 2 rfl) ?_
        refine lv_iload hx hb dL_act_345 (lv_at hl 1 rfl) ?_
        obtain ⟨x113, f114, y115, o116, hc117, hf⟩ := ob4_e hf
        refine w_ci ⟨hx, hb, hml, hown, hts⟩ hP hK hS (k8_stoke l hX w hc117) hc_47 (w_recv hP hK (by decide) emb_bt rfl) rfl hl.1 rfl (Nat.le_of_ble_eq_true rfl) dL_act_347 ⟨Nat.zero_le _, Nat.zero_le _⟩ (fun H locs hP hS => ?_)
        refine lv_pop hx hb dL_act_350 rfl ?_
        refine lv_iconst (v := 1) hx hb dL_act_351 (by decide) ?_
        have hf := Option.some.inj hf
        simp only [Prod.mk.injEq] at hf
        obtain ⟨rfl, rfl, rfl, rfl⟩ := hf
        rw [hQ]
        exact w_zret hx hb hr hlocks hP hK hS dL_act_352 (by decide) rfl rfl
      · rw [if_neg h112] at hf
        refine lv_iconst (v := 0) hx hb dL_act_340 (by decide) ?_
        have hf := Option.some.inj hf
        simp only [Prod.mk.injEq] at hf
        obtain ⟨rfl, rfl, rfl, rfl⟩ := hf
        rw [hQ]
        exact w_zret hx hb hr hlocks hP hK hS dL_act_341 (by decide) rfl rfl
  rw [if_neg hsw161] at hf
  by_cases hsw162 : (a1 &&& 15) = 10
  · rw [if_pos hsw162] at hf
    refine lv_tableIn (off := 263) (tgt := 308) hx hb dL_act_45 (by rw [hsw162]; decide) (by rw [hsw162]; decide) (by rw [hsw162]; rfl) (by decide) ?_
    refine lv_aload_n hx hb dL_act_308 rfl (lv_at hl 5 rfl) ?_
    refine lv_iload hx hb dL_act_309 (lv_at hl 2 rfl) ?_
    refine lv_iconst (v := 0) hx hb dL_act_311 (by decide) ?_
    obtain ⟨x118, hc119, hf⟩ := ob1_e hf
    refine w_ci ⟨hx, hb, hml, hown, hts⟩ hP hK hS (k8_house l hX w hc119) hc_41 (w_recv hP hK (by decide) emb_bt rfl) rfl hl.1 rfl (Nat.le_of_ble_eq_true rfl) dL_act_312 ⟨Nat.zero_le _, Nat.zero_le _⟩ (fun H locs hP hS => ?_)
    refine lv_iload hx hb dL_act_315 (lv_at hl 1 rfl) ?_
    refine lv_isub hx hb dL_act_317 ?_
    refine lv_bipush (v := (-20)) hx hb dL_act_318 (by decide) ?_
    refine lv_icmp_lt (tgt := 340) hx hb dL_act_320 (by decide) (fun h120 => ?_) (fun h120 => ?_)
    · rw [if_pos h120] at hf
      refine lv_iconst (v := 0) hx hb dL_act_340 (by decide) ?_
      have hf := Option.some.inj hf
      simp only [Prod.mk.injEq] at hf
      obtain ⟨rfl, rfl, rfl, rfl⟩ := hf
      rw [hQ]
      exact w_zret hx hb hr hlocks hP hK hS dL_act_341 (by decide) rfl rfl
    · rw [if_neg h120] at hf
      refine lv_aload_n hx hb dL_act_323 rfl (lv_at hl 5 rfl) ?_
      refine lv_iconst (v := 3) hx hb dL_act_324 (by decide) ?_
      obtain ⟨x121, hc122, hf⟩ := ob1_e hf
      refine w_ci ⟨hx, hb, hml, hown, hts⟩ hP hK hS (k8_whole l hX w hc122) hc_8 (w_recv hP hK (by decide) emb_bt rfl) rfl hl.1 rfl (Nat.le_of_ble_eq_true rfl) dL_act_325 ⟨Nat.zero_le _, Nat.zero_le _⟩ (fun H locs hP hS => ?_)
      refine lv_bipush (v := 25) hx hb dL_act_328 (by decide) ?_
      refine lv_iload hx hb dL_act_330 (lv_at hl 1 rfl) ?_
      refine lv_imul hx hb dL_act_332 ?_
      refine lv_iadd hx hb dL_act_333 ?_
      refine lv_sipush (v := 400) hx hb dL_act_334 (by decide) ?_
      refine lv_icmp_le (tgt := 342) hx hb dL_act_337 (by decide) (fun h123 => ?_) (fun h123 => ?_)
      · rw [if_pos h123] at hf
        refine lv_aload_n hx hb dL_act_342 rfl (lv_at hl 5 rfl) ?_
        refine lv_iload hx hb dL_act_343 (lv_at hl 2 rfl) ?_
        refine lv_iload hx hb dL_act_345 (lv_at hl 1 rfl) ?_
        obtain ⟨x124, f125, y126, o127, hc128, hf⟩ := ob4_e hf
        refine w_ci ⟨hx, hb, hml, hown, hts⟩ hP hK hS (k8_stoke l hX w hc128) hc_47 (w_recv hP hK (by decide) emb_bt rfl) rfl hl.1 rfl (Nat.le_of_ble_eq_true rfl) dL_act_347 ⟨Nat.zero_le _, Nat.zero_le _⟩ (fun H locs hP hS => ?_)
        refine lv_pop hx hb dL_act_350 rfl ?_
        refine lv_iconst (v := 1) hx hb dL_act_351 (by decide) ?_
        have hf := Option.some.inj hf
        simp only [Prod.mk.injEq] at hf
        obtain ⟨rfl, rfl, rfl, rfl⟩ := hf
        rw [hQ]
        exact w_zret hx hb hr hlocks hP hK hS dL_act_352 (by decide) rfl rfl
      · rw [if_neg h123] at hf
        refine lv_iconst (v := 0) hx hb dL_act_340 (by decide) ?_
        have hf := Option.some.inj hf
        simp only [Prod.mk.injEq] at hf
        obtain ⟨rfl, rfl, rfl, rfl⟩ := hf
        rw [hQ]
        exact w_zret hx hb hr hlocks hP hK hS dL_act_341 (by decide) rfl rfl
  rw [if_neg hsw162] at hf
  by_cases hsw163 : (a1 &&& 15) = 11
  · rw [if_pos hsw163] at hf
    refine lv_tableIn (off := 263) (tgt := 308) hx hb dL_act_45 (by rw [hsw163]; decide) (by rw [hsw163]; decide) (by rw [hsw163]; rfl) (by decide) ?_
    refine lv_aload_n hx hb dL_act_308 rfl (lv_at hl 5 rfl) ?_
    refine lv_iload hx hb dL_act_309 (lv_at hl 2 rfl) ?_
    refine lv_iconst (v := 0) hx hb dL_act_311 (by decide) ?_
    obtain ⟨x129, hc130, hf⟩ := ob1_e hf
    refine w_ci ⟨hx, hb, hml, hown, hts⟩ hP hK hS (k8_house l hX w hc130) hc_41 (w_recv hP hK (by decide) emb_bt rfl) rfl hl.1 rfl (Nat.le_of_ble_eq_true rfl) dL_act_312 ⟨Nat.zero_le _, Nat.zero_le _⟩ (fun H locs hP hS => ?_)
    refine lv_iload hx hb dL_act_315 (lv_at hl 1 rfl) ?_
    refine lv_isub hx hb dL_act_317 ?_
    refine lv_bipush (v := (-20)) hx hb dL_act_318 (by decide) ?_
    refine lv_icmp_lt (tgt := 340) hx hb dL_act_320 (by decide) (fun h131 => ?_) (fun h131 => ?_)
    · rw [if_pos h131] at hf
      refine lv_iconst (v := 0) hx hb dL_act_340 (by decide) ?_
      have hf := Option.some.inj hf
      simp only [Prod.mk.injEq] at hf
      obtain ⟨rfl, rfl, rfl, rfl⟩ := hf
      rw [hQ]
      exact w_zret hx hb hr hlocks hP hK hS dL_act_341 (by decide) rfl rfl
    · rw [if_neg h131] at hf
      refine lv_aload_n hx hb dL_act_323 rfl (lv_at hl 5 rfl) ?_
      refine lv_iconst (v := 3) hx hb dL_act_324 (by decide) ?_
      obtain ⟨x132, hc133, hf⟩ := ob1_e hf
      refine w_ci ⟨hx, hb, hml, hown, hts⟩ hP hK hS (k8_whole l hX w hc133) hc_8 (w_recv hP hK (by decide) emb_bt rfl) rfl hl.1 rfl (Nat.le_of_ble_eq_true rfl) dL_act_325 ⟨Nat.zero_le _, Nat.zero_le _⟩ (fun H locs hP hS => ?_)
      refine lv_bipush (v := 25) hx hb dL_act_328 (by decide) ?_
      refine lv_iload hx hb dL_act_330 (lv_at hl 1 rfl) ?_
      refine lv_imul hx hb dL_act_332 ?_
      refine lv_iadd hx hb dL_act_333 ?_
      refine lv_sipush (v := 400) hx hb dL_act_334 (by decide) ?_
      refine lv_icmp_le (tgt := 342) hx hb dL_act_337 (by decide) (fun h134 => ?_) (fun h134 => ?_)
      · rw [if_pos h134] at hf
        refine lv_aload_n hx hb dL_act_342 rfl (lv_at hl 5 rfl) ?_
        refine lv_iload hx hb dL_act_343 (lv_at hl 2 rfl) ?_
        refine lv_iload hx hb dL_act_345 (lv_at hl 1 rfl) ?_
        obtain ⟨x135, f136, y137, o138, hc139, hf⟩ := ob4_e hf
        refine w_ci ⟨hx, hb, hml, hown, hts⟩ hP hK hS (k8_stoke l hX w hc139) hc_47 (w_recv hP hK (by decide) emb_bt rfl) rfl hl.1 rfl (Nat.le_of_ble_eq_true rfl) dL_act_347 ⟨Nat.zero_le _, Nat.zero_le _⟩ (fun H locs hP hS => ?_)
        refine lv_pop hx hb dL_act_350 rfl ?_
        refine lv_iconst (v := 1) hx hb dL_act_351 (by decide) ?_
        have hf := Option.some.inj hf
        simp only [Prod.mk.injEq] at hf
        obtain ⟨rfl, rfl, rfl, rfl⟩ := hf
        rw [hQ]
        exact w_zret hx hb hr hlocks hP hK hS dL_act_352 (by decide) rfl rfl
      · rw [if_neg h134] at hf
        refine lv_iconst (v := 0) hx hb dL_act_340 (by decide) ?_
        have hf := Option.some.inj hf
        simp only [Prod.mk.injEq] at hf
        obtain ⟨rfl, rfl, rfl, rfl⟩ := hf
        rw [hQ]
        exact w_zret hx hb hr hlocks hP hK hS dL_act_341 (by decide) rfl rfl
  rw [if_neg hsw163] at hf
  by_cases hsw164 : (a1 &&& 15) = 12
  · rw [if_pos hsw164] at hf
    refine lv_tableIn (off := 308) (tgt := 353) hx hb dL_act_45 (by rw [hsw164]; decide) (by rw [hsw164]; decide) (by rw [hsw164]; rfl) (by decide) ?_
    refine lv_aload_n hx hb dL_act_353 rfl (lv_at hl 5 rfl) ?_
    obtain ⟨x140, f141, y142, o143, hc144, hf⟩ := ob4_e hf
    refine w_ci ⟨hx, hb, hml, hown, hts⟩ hP hK hS (k8_settle l hX w hc144) hc_50 (w_recv hP hK (by decide) emb_bt rfl) rfl hl.1 rfl (Nat.le_of_ble_eq_true rfl) dL_act_354 ⟨Nat.zero_le _, Nat.zero_le _⟩ (fun H locs hP hS => ?_)
    refine lv_pop hx hb dL_act_357 rfl ?_
    refine lv_iconst (v := 1) hx hb dL_act_358 (by decide) ?_
    have hf := Option.some.inj hf
    simp only [Prod.mk.injEq] at hf
    obtain ⟨rfl, rfl, rfl, rfl⟩ := hf
    rw [hQ]
    exact w_zret hx hb hr hlocks hP hK hS dL_act_359 (by decide) rfl rfl
  rw [if_neg hsw164] at hf
  have hdf : ((a1 &&& 15)).toInt < 0 ∨ 12 < ((a1 &&& 15)).toInt := by
    have ghsw152 := ne_i (z := 0) hsw152 (by decide)
    have ghsw153 := ne_i (z := 1) hsw153 (by decide)
    have ghsw154 := ne_i (z := 2) hsw154 (by decide)
    have ghsw155 := ne_i (z := 3) hsw155 (by decide)
    have ghsw156 := ne_i (z := 4) hsw156 (by decide)
    have ghsw157 := ne_i (z := 5) hsw157 (by decide)
    have ghsw158 := ne_i (z := 6) hsw158 (by decide)
    have ghsw159 := ne_i (z := 7) hsw159 (by decide)
    have ghsw160 := ne_i (z := 8) hsw160 (by decide)
    have ghsw161 := ne_i (z := 9) hsw161 (by decide)
    have ghsw162 := ne_i (z := 10) hsw162 (by decide)
    have ghsw163 := ne_i (z := 11) hsw163 (by decide)
    have ghsw164 := ne_i (z := 12) hsw164 (by decide)
    omega
  refine lv_tableOut (tgt := 360) hx hb dL_act_45 hdf (by decide) ?_
  refine lv_aload_n hx hb dL_act_360 rfl (lv_at hl 5 rfl) ?_
  refine lv_iconst (v := 1) hx hb dL_act_361 (by decide) ?_
  refine lv_iload_n hx hb dL_act_362 rfl (lv_at hl 6 rfl) ?_
  refine lv_iconst (v := 4) hx hb dL_act_363 (by decide) ?_
  refine lv_ishr hx hb dL_act_364 ?_
  refine lv_bipush (v := 9) hx hb dL_act_365 (by decide) ?_
  obtain ⟨x145, hc146, hf⟩ := ob1_e hf
  refine w_csi ⟨hx, hb, hml, hown, hts⟩ hP hK hS (kL_low l hX (pbt w f0 g0 c0 y0 o0) hc146) hc_14 rfl hl.1 rfl (Nat.le_of_ble_eq_true rfl) dL_act_367 ⟨Nat.zero_le _, Nat.zero_le _⟩ (fun H locs hP hS => ?_)
  refine lv_iadd hx hb dL_act_370 ?_
  obtain ⟨x147, f148, y149, o150, hc151, hf⟩ := ob4_e hf
  refine w_ci ⟨hx, hb, hml, hown, hts⟩ hP hK hS (k8_pass l hX w hc151) hc_53 (w_recv hP hK (by decide) emb_bt rfl) rfl hl.1 rfl (Nat.le_of_ble_eq_true rfl) dL_act_371 ⟨Nat.zero_le _, Nat.zero_le _⟩ (fun H locs hP hS => ?_)
  refine lv_pop hx hb dL_act_374 rfl ?_
  refine lv_iconst (v := 1) hx hb dL_act_375 (by decide) ?_
  have hf := Option.some.inj hf
  simp only [Prod.mk.injEq] at hf
  obtain ⟨rfl, rfl, rfl, rfl⟩ := hf
  rw [hQ]
  exact w_zret hx hb hr hlocks hP hK hS dL_act_376 (by decide) rfl rfl
