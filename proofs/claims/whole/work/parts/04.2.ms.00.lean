abbrev rmX9_in : Room := { frames := 0, cells := 0, slots := 0, locals := 0 }
set_option maxHeartbeats 4000000 in
set_option maxRecDepth 100000 in
theorem k9_in (l : Launch) {X : bkX} {b0 : Nat} (hX : XO X b0) (w : bkW) {a0 : Int32} {a1 : Int32} {a2 : Int32} {res9 : Int32} (hf : m9_in a0 a1 a2 = res9) : cI l yX9_in wsX9_in rmX9_in X b0 [.int a0, .int a1, .int a2] w res9 w := by
  refine Met.ofW (cc := cX9_in) (maxL := 3) (ret := (some .boolean)) (by decide) rfl ?_
  intro p e s m args below meth c s₁ B hml hv
  obtain ⟨ha, hP, hK⟩ := hv
  have hx := B.exec
  have hb := B.bytes
  have hr := B.returns
  have hts := atoms_spec (ws := wsX9_in) B.pre
  have hown : s.vm.findClass RX9 = some m.cls := findClass_of_methodNamed B.named
  have hlocks := B.notSynchronized
  obtain ⟨R, hR⟩ : ∃ R, R = (headSpec wsX9_in rmX9_in).room := ⟨_, rfl⟩
  rw [← hR]
  have hR1 : R.frames = 0 := by rw [hR]; rfl
  have hR2 : R.locals = 0 := by rw [hR]; rfl
  obtain ⟨Q, hQ⟩ : ∃ Q : State → Prop, Q = MQ below (va_Qi (fun r' (_ : Unit) => r' = res9) (fun _ t => WU X w t) (xF b0)) args s 0 0 (xF b0) := ⟨_, rfl⟩
  rw [← hQ]
  have hS : va_S (xF b0) s.heap s.heap [] := va_S.rf
  have hl := lv_entry ([.int a0, .int a1, .int a2]) (n := 3) (Nat.le_of_ble_eq_true rfl)
  refine W.eq ((congrArg (fun z => entryFrame m z 3) ha).trans (lg_entry_eq m _ 3)) ?_
  generalize (lg_sl ([.int a0, .int a1, .int a2]) ++ List.replicate (3 - (lg_sl ([.int a0, .int a1, .int a2])).length) Slot.unset).toArray = ls at hl ⊢
  have hl : lv_has ls 3 [(0, .int a0), (1, .int a1), (2, .int a2)] := hl
  unfold m9_in at hf
  refine lv_iload_n hx hb dX9_in_0 rfl (lv_at hl 0 rfl) ?_
  refine lv_iload_n hx hb dX9_in_1 rfl (lv_at hl 1 rfl) ?_
  refine lv_icmp_lt (tgt := 14) hx hb dX9_in_2 (by decide) (fun h1 => ?_) (fun h1 => ?_)
  · rw [if_pos h1] at hf
    refine lv_iconst (v := 0) hx hb dX9_in_14 (by decide) ?_
    obtain rfl := hf
    rw [hQ]
    exact w_zret hx hb hr hlocks hP hK hS dX9_in_15 (by decide) rfl rfl
  · rw [if_neg h1] at hf
    refine lv_iload_n hx hb dX9_in_5 rfl (lv_at hl 0 rfl) ?_
    refine lv_iload_n hx hb dX9_in_6 rfl (lv_at hl 2 rfl) ?_
    refine lv_icmp_gt (tgt := 14) hx hb dX9_in_7 (by decide) (fun h2 => ?_) (fun h2 => ?_)
    · rw [if_pos h2] at hf
      refine lv_iconst (v := 0) hx hb dX9_in_14 (by decide) ?_
      obtain rfl := hf
      rw [hQ]
      exact w_zret hx hb hr hlocks hP hK hS dX9_in_15 (by decide) rfl rfl
    · rw [if_neg h2] at hf
      refine lv_iconst (v := 1) hx hb dX9_in_10 (by decide) ?_
      refine lv_goto (tgt := 15) hx hb dX9_in_11 (by decide) ?_
      obtain rfl := hf
      rw [hQ]
      exact w_zret hx hb hr hlocks hP hK hS dX9_in_15 (by decide) rfl rfl
abbrev rmX9_letterOf : Room := { frames := 0, cells := 0, slots := 0, locals := 0 }
set_option maxHeartbeats 4000000 in
set_option maxRecDepth 100000 in
theorem k9_letterOf (l : Launch) {X : bkX} {b0 : Nat} (hX : XO X b0) (w : bkW) {a0 : Int32} {a1 : Int32} {a2 : Int32} {a3 : Int32} {a4 : Int32} {a5 : Int32} {a6 : Int32} {res9 : Int32} (hf : m9_letterOf a0 a1 a2 a3 a4 a5 a6 = res9) : cI l yX9_letterOf wsX9_letterOf rmX9_letterOf X b0 [.int a0, .int a1, .int a2, .int a3, .int a4, .int a5, .int a6] w res9 w := by
  refine Met.ofW (cc := cX9_letterOf) (maxL := 7) (ret := (some .int)) (by decide) rfl ?_
  intro p e s m args below meth c s₁ B hml hv
  obtain ⟨ha, hP, hK⟩ := hv
  have hx := B.exec
  have hb := B.bytes
  have hr := B.returns
  have hts := atoms_spec (ws := wsX9_letterOf) B.pre
  have hown : s.vm.findClass RX9 = some m.cls := findClass_of_methodNamed B.named
  have hlocks := B.notSynchronized
  obtain ⟨R, hR⟩ : ∃ R, R = (headSpec wsX9_letterOf rmX9_letterOf).room := ⟨_, rfl⟩
  rw [← hR]
  have hR1 : R.frames = 0 := by rw [hR]; rfl
  have hR2 : R.locals = 0 := by rw [hR]; rfl
  obtain ⟨Q, hQ⟩ : ∃ Q : State → Prop, Q = MQ below (va_Qi (fun r' (_ : Unit) => r' = res9) (fun _ t => WU X w t) (xF b0)) args s 0 0 (xF b0) := ⟨_, rfl⟩
  rw [← hQ]
  have hS : va_S (xF b0) s.heap s.heap [] := va_S.rf
  have hl := lv_entry ([.int a0, .int a1, .int a2, .int a3, .int a4, .int a5, .int a6]) (n := 7) (Nat.le_of_ble_eq_true rfl)
  refine W.eq ((congrArg (fun z => entryFrame m z 7) ha).trans (lg_entry_eq m _ 7)) ?_
  generalize (lg_sl ([.int a0, .int a1, .int a2, .int a3, .int a4, .int a5, .int a6]) ++ List.replicate (7 - (lg_sl ([.int a0, .int a1, .int a2, .int a3, .int a4, .int a5, .int a6])).length) Slot.unset).toArray = ls at hl ⊢
  have hl : lv_has ls 7 [(0, .int a0), (1, .int a1), (2, .int a2), (3, .int a3), (4, .int a4), (5, .int a5), (6, .int a6)] := hl
  unfold m9_letterOf at hf
  refine lv_iload_n hx hb dX9_letterOf_0 rfl (lv_at hl 0 rfl) ?_
  refine lv_if_ne (tgt := 8) hx hb dX9_letterOf_1 (by decide) (fun h1 => ?_) (fun h1 => ?_)
  · rw [if_neg h1] at hf
    refine lv_iload_n hx hb dX9_letterOf_8 rfl (lv_at hl 0 rfl) ?_
    refine lv_iconst (v := 1) hx hb dX9_letterOf_9 (by decide) ?_
    refine lv_icmp_ne (tgt := 17) hx hb dX9_letterOf_10 (by decide) (fun h2 => ?_) (fun h2 => ?_)
    · rw [if_neg h2] at hf
      refine lv_iload_n hx hb dX9_letterOf_17 rfl (lv_at hl 0 rfl) ?_
      refine lv_iconst (v := 2) hx hb dX9_letterOf_18 (by decide) ?_
      refine lv_icmp_ne (tgt := 26) hx hb dX9_letterOf_19 (by decide) (fun h3 => ?_) (fun h3 => ?_)
      · rw [if_neg h3] at hf
        refine lv_iload_n hx hb dX9_letterOf_26 rfl (lv_at hl 0 rfl) ?_
        refine lv_iconst (v := 3) hx hb dX9_letterOf_27 (by decide) ?_
        refine lv_icmp_ne (tgt := 36) hx hb dX9_letterOf_28 (by decide) (fun h4 => ?_) (fun h4 => ?_)
        · rw [if_neg h4] at hf
          refine lv_iload_n hx hb dX9_letterOf_36 rfl (lv_at hl 0 rfl) ?_
          refine lv_iconst (v := 4) hx hb dX9_letterOf_37 (by decide) ?_
          refine lv_icmp_ne (tgt := 46) hx hb dX9_letterOf_38 (by decide) (fun h5 => ?_) (fun h5 => ?_)
          · rw [if_neg h5] at hf
            refine lv_iload_n hx hb dX9_letterOf_46 rfl (lv_at hl 0 rfl) ?_
            refine lv_iconst (v := 5) hx hb dX9_letterOf_47 (by decide) ?_
            refine lv_icmp_ne (tgt := 56) hx hb dX9_letterOf_48 (by decide) (fun h6 => ?_) (fun h6 => ?_)
            · rw [if_neg h6] at hf
              refine lv_iconst (v := 0) hx hb dX9_letterOf_56 (by decide) ?_
              obtain rfl := hf
              rw [hQ]
              exact w_iret hx hb hr hlocks hP hK hS dX9_letterOf_57 rfl rfl
            · rw [if_pos h6] at hf
              refine lv_iload hx hb dX9_letterOf_51 (lv_at hl 6 rfl) ?_
              refine lv_goto (tgt := 57) hx hb dX9_letterOf_53 (by decide) ?_
              obtain rfl := hf
              rw [hQ]
              exact w_iret hx hb hr hlocks hP hK hS dX9_letterOf_57 rfl rfl
          · rw [if_pos h5] at hf
            refine lv_iload hx hb dX9_letterOf_41 (lv_at hl 5 rfl) ?_
            refine lv_goto (tgt := 57) hx hb dX9_letterOf_43 (by decide) ?_
            obtain rfl := hf
            rw [hQ]
            exact w_iret hx hb hr hlocks hP hK hS dX9_letterOf_57 rfl rfl
        · rw [if_pos h4] at hf
          refine lv_iload hx hb dX9_letterOf_31 (lv_at hl 4 rfl) ?_
          refine lv_goto (tgt := 57) hx hb dX9_letterOf_33 (by decide) ?_
          obtain rfl := hf
          rw [hQ]
          exact w_iret hx hb hr hlocks hP hK hS dX9_letterOf_57 rfl rfl
      · rw [if_pos h3] at hf
        refine lv_iload_n hx hb dX9_letterOf_22 rfl (lv_at hl 3 rfl) ?_
        refine lv_goto (tgt := 57) hx hb dX9_letterOf_23 (by decide) ?_
        obtain rfl := hf
        rw [hQ]
        exact w_iret hx hb hr hlocks hP hK hS dX9_letterOf_57 rfl rfl
    · rw [if_pos h2] at hf
      refine lv_iload_n hx hb dX9_letterOf_13 rfl (lv_at hl 2 rfl) ?_
      refine lv_goto (tgt := 57) hx hb dX9_letterOf_14 (by decide) ?_
      obtain rfl := hf
      rw [hQ]
      exact w_iret hx hb hr hlocks hP hK hS dX9_letterOf_57 rfl rfl
  · rw [if_pos h1] at hf
    refine lv_iload_n hx hb dX9_letterOf_4 rfl (lv_at hl 1 rfl) ?_
    refine lv_goto (tgt := 57) hx hb dX9_letterOf_5 (by decide) ?_
    obtain rfl := hf
    rw [hQ]
    exact w_iret hx hb hr hlocks hP hK hS dX9_letterOf_57 rfl rfl
abbrev rmX9_letterOfWord : Room := { frames := 1, cells := 0, slots := 0, locals := 26 }
set_option maxHeartbeats 4000000 in
set_option maxRecDepth 100000 in
theorem k9_letterOfWord (l : Launch) {X : bkX} {b0 : Nat} (hX : XO X b0) (w : bkW) {a0 : Int32} {a1 : Int32} {res9 : Int32} (hf : m9_letterOfWord a0 a1 = res9) : cI l yX9_letterOfWord wsX9_letterOfWord rmX9_letterOfWord X b0 [.int a0, .int a1] w res9 w := by
  refine Met.ofW (cc := cX9_letterOfWord) (maxL := 2) (ret := (some .int)) (by decide) rfl ?_
  intro p e s m args below meth c s₁ B hml hv
  obtain ⟨ha, hP, hK⟩ := hv
  have hx := B.exec
  have hb := B.bytes
  have hr := B.returns
  have hts := atoms_spec (ws := wsX9_letterOfWord) B.pre
  have hown : s.vm.findClass RX9 = some m.cls := findClass_of_methodNamed B.named
  have hlocks := B.notSynchronized
  obtain ⟨R, hR⟩ : ∃ R, R = (headSpec wsX9_letterOfWord rmX9_letterOfWord).room := ⟨_, rfl⟩
  rw [← hR]
  have hR1 : R.frames = 1 := by rw [hR]; rfl
  have hR2 : R.locals = 26 := by rw [hR]; rfl
  obtain ⟨Q, hQ⟩ : ∃ Q : State → Prop, Q = MQ below (va_Qi (fun r' (_ : Unit) => r' = res9) (fun _ t => WU X w t) (xF b0)) args s 0 0 (xF b0) := ⟨_, rfl⟩
  rw [← hQ]
  have hS : va_S (xF b0) s.heap s.heap [] := va_S.rf
  have hl := lv_entry ([.int a0, .int a1]) (n := 2) (Nat.le_of_ble_eq_true rfl)
  refine W.eq ((congrArg (fun z => entryFrame m z 2) ha).trans (lg_entry_eq m _ 2)) ?_
  generalize (lg_sl ([.int a0, .int a1]) ++ List.replicate (2 - (lg_sl ([.int a0, .int a1])).length) Slot.unset).toArray = ls at hl ⊢
  have hl : lv_has ls 2 [(0, .int a0), (1, .int a1)] := hl
  have hc_226 := (cwS 7 hts gX9_letterOfWord_X9_letterOf rfl rfl rfl (by decide +kernel) ⟨by rw [hR1]; exact Nat.le_of_ble_eq_true rfl, by rw [hR2]; exact Nat.le_of_ble_eq_true rfl⟩ : CallB R s args RX9 226 yX9_letterOf cX9_letterOf 7 (some .int) wsX9_letterOf rmX9_letterOf 0 0 7 ∧ (Cond.static yX9_letterOf).before args s = true)
  unfold m9_letterOfWord at hf
  refine lv_iload_n hx hb dX9_letterOfWord_0 rfl (lv_at hl 0 rfl) ?_
  by_cases hsw17 : a0 = 0
  · rw [if_pos hsw17] at hf
    refine lv_tableIn (off := 43) (tgt := 44) hx hb dX9_letterOfWord_1 (by rw [hsw17]; decide) (by rw [hsw17]; decide) (by rw [hsw17]; rfl) (by decide) ?_
    refine lv_iload_n hx hb dX9_letterOfWord_44 rfl (lv_at hl 1 rfl) ?_
    refine lv_bipush (v := 107) hx hb dX9_letterOfWord_45 (by decide) ?_
    refine lv_bipush (v := 105) hx hb dX9_letterOfWord_47 (by decide) ?_
    refine lv_bipush (v := 110) hx hb dX9_letterOfWord_49 (by decide) ?_
    refine lv_bipush (v := 100) hx hb dX9_letterOfWord_51 (by decide) ?_
    refine lv_iconst (v := 0) hx hb dX9_letterOfWord_53 (by decide) ?_
    refine lv_iconst (v := 0) hx hb dX9_letterOfWord_54 (by decide) ?_
    obtain ⟨x1, hc2, hf⟩ := lt1_e hf
    refine w_csi ⟨hx, hb, hml, hown, hts⟩ hP hK hS (k9_letterOf l hX w hc2) hc_226 rfl hl.1 rfl (Nat.le_of_ble_eq_true rfl) dX9_letterOfWord_55 ⟨Nat.zero_le _, Nat.zero_le _⟩ (fun H locs hP hS => ?_)
    obtain rfl := hf
    rw [hQ]
    exact w_iret hx hb hr hlocks hP hK hS dX9_letterOfWord_58 rfl rfl
  rw [if_neg hsw17] at hf
  by_cases hsw18 : a0 = 1
  · rw [if_pos hsw18] at hf
    refine lv_tableIn (off := 58) (tgt := 59) hx hb dX9_letterOfWord_1 (by rw [hsw18]; decide) (by rw [hsw18]; decide) (by rw [hsw18]; rfl) (by decide) ?_
    refine lv_iload_n hx hb dX9_letterOfWord_59 rfl (lv_at hl 1 rfl) ?_
    refine lv_bipush (v := 104) hx hb dX9_letterOfWord_60 (by decide) ?_
    refine lv_bipush (v := 111) hx hb dX9_letterOfWord_62 (by decide) ?_
    refine lv_bipush (v := 117) hx hb dX9_letterOfWord_64 (by decide) ?_
    refine lv_bipush (v := 115) hx hb dX9_letterOfWord_66 (by decide) ?_
    refine lv_bipush (v := 101) hx hb dX9_letterOfWord_68 (by decide) ?_
    refine lv_iconst (v := 0) hx hb dX9_letterOfWord_70 (by decide) ?_
    obtain ⟨x3, hc4, hf⟩ := lt1_e hf
    refine w_csi ⟨hx, hb, hml, hown, hts⟩ hP hK hS (k9_letterOf l hX w hc4) hc_226 rfl hl.1 rfl (Nat.le_of_ble_eq_true rfl) dX9_letterOfWord_71 ⟨Nat.zero_le _, Nat.zero_le _⟩ (fun H locs hP hS => ?_)
    obtain rfl := hf
    rw [hQ]
    exact w_iret hx hb hr hlocks hP hK hS dX9_letterOfWord_74 rfl rfl
  rw [if_neg hsw18] at hf
  by_cases hsw19 : a0 = 2
  · rw [if_pos hsw19] at hf
    refine lv_tableIn (off := 74) (tgt := 75) hx hb dX9_letterOfWord_1 (by rw [hsw19]; decide) (by rw [hsw19]; decide) (by rw [hsw19]; rfl) (by decide) ?_
    refine lv_iload_n hx hb dX9_letterOfWord_75 rfl (lv_at hl 1 rfl) ?_
    refine lv_bipush (v := 100) hx hb dX9_letterOfWord_76 (by decide) ?_
    refine lv_bipush (v := 111) hx hb dX9_letterOfWord_78 (by decide) ?_
    refine lv_bipush (v := 117) hx hb dX9_letterOfWord_80 (by decide) ?_
    refine lv_bipush (v := 103) hx hb dX9_letterOfWord_82 (by decide) ?_
    refine lv_bipush (v := 104) hx hb dX9_letterOfWord_84 (by decide) ?_
    refine lv_iconst (v := 0) hx hb dX9_letterOfWord_86 (by decide) ?_
    obtain ⟨x5, hc6, hf⟩ := lt1_e hf
    refine w_csi ⟨hx, hb, hml, hown, hts⟩ hP hK hS (k9_letterOf l hX w hc6) hc_226 rfl hl.1 rfl (Nat.le_of_ble_eq_true rfl) dX9_letterOfWord_87 ⟨Nat.zero_le _, Nat.zero_le _⟩ (fun H locs hP hS => ?_)
    obtain rfl := hf
    rw [hQ]
    exact w_iret hx hb hr hlocks hP hK hS dX9_letterOfWord_90 rfl rfl
  rw [if_neg hsw19] at hf
  by_cases hsw20 : a0 = 3
  · rw [if_pos hsw20] at hf
    refine lv_tableIn (off := 90) (tgt := 91) hx hb dX9_letterOfWord_1 (by rw [hsw20]; decide) (by rw [hsw20]; decide) (by rw [hsw20]; rfl) (by decide) ?_
    refine lv_iload_n hx hb dX9_letterOfWord_91 rfl (lv_at hl 1 rfl) ?_
    refine lv_bipush (v := 98) hx hb dX9_letterOfWord_92 (by decide) ?_
    refine lv_bipush (v := 114) hx hb dX9_letterOfWord_94 (by decide) ?_
    refine lv_bipush (v := 105) hx hb dX9_letterOfWord_96 (by decide) ?_
    refine lv_bipush (v := 110) hx hb dX9_letterOfWord_98 (by decide) ?_
    refine lv_bipush (v := 103) hx hb dX9_letterOfWord_100 (by decide) ?_
    refine lv_iconst (v := 0) hx hb dX9_letterOfWord_102 (by decide) ?_
    obtain ⟨x7, hc8, hf⟩ := lt1_e hf
    refine w_csi ⟨hx, hb, hml, hown, hts⟩ hP hK hS (k9_letterOf l hX w hc8) hc_226 rfl hl.1 rfl (Nat.le_of_ble_eq_true rfl) dX9_letterOfWord_103 ⟨Nat.zero_le _, Nat.zero_le _⟩ (fun H locs hP hS => ?_)
    obtain rfl := hf
    rw [hQ]
    exact w_iret hx hb hr hlocks hP hK hS dX9_letterOfWord_106 rfl rfl
  rw [if_neg hsw20] at hf
  by_cases hsw21 : a0 = 4
  · rw [if_pos hsw21] at hf
    refine lv_tableIn (off := 106) (tgt := 107) hx hb dX9_letterOfWord_1 (by rw [hsw21]; decide) (by rw [hsw21]; decide) (by rw [hsw21]; rfl) (by decide) ?_
    refine lv_iload_n hx hb dX9_letterOfWord_107 rfl (lv_at hl 1 rfl) ?_
    refine lv_bipush (v := 115) hx hb dX9_letterOfWord_108 (by decide) ?_
    refine lv_bipush (v := 116) hx hb dX9_letterOfWord_110 (by decide) ?_
    refine lv_bipush (v := 111) hx hb dX9_letterOfWord_112 (by decide) ?_
    refine lv_bipush (v := 107) hx hb dX9_letterOfWord_114 (by decide) ?_
    refine lv_bipush (v := 101) hx hb dX9_letterOfWord_116 (by decide) ?_
    refine lv_iconst (v := 0) hx hb dX9_letterOfWord_118 (by decide) ?_
    obtain ⟨x9, hc10, hf⟩ := lt1_e hf
    refine w_csi ⟨hx, hb, hml, hown, hts⟩ hP hK hS (k9_letterOf l hX w hc10) hc_226 rfl hl.1 rfl (Nat.le_of_ble_eq_true rfl) dX9_letterOfWord_119 ⟨Nat.zero_le _, Nat.zero_le _⟩ (fun H locs hP hS => ?_)
    obtain rfl := hf
    rw [hQ]
    exact w_iret hx hb hr hlocks hP hK hS dX9_letterOfWord_122 rfl rfl
  rw [if_neg hsw21] at hf
  by_cases hsw22 : a0 = 5
  · rw [if_pos hsw22] at hf
    refine lv_tableIn (off := 122) (tgt := 123) hx hb dX9_letterOfWord_1 (by rw [hsw22]; decide) (by rw [hsw22]; decide) (by rw [hsw22]; rfl) (by decide) ?_
    refine lv_iload_n hx hb dX9_letterOfWord_123 rfl (lv_at hl 1 rfl) ?_
    refine lv_bipush (v := 112) hx hb dX9_letterOfWord_124 (by decide) ?_
    refine lv_bipush (v := 97) hx hb dX9_letterOfWord_126 (by decide) ?_
    refine lv_bipush (v := 115) hx hb dX9_letterOfWord_128 (by decide) ?_
    refine lv_bipush (v := 115) hx hb dX9_letterOfWord_130 (by decide) ?_
    refine lv_iconst (v := 0) hx hb dX9_letterOfWord_132 (by decide) ?_
    refine lv_iconst (v := 0) hx hb dX9_letterOfWord_133 (by decide) ?_
    obtain ⟨x11, hc12, hf⟩ := lt1_e hf
    refine w_csi ⟨hx, hb, hml, hown, hts⟩ hP hK hS (k9_letterOf l hX w hc12) hc_226 rfl hl.1 rfl (Nat.le_of_ble_eq_true rfl) dX9_letterOfWord_134 ⟨Nat.zero_le _, Nat.zero_le _⟩ (fun H locs hP hS => ?_)
    obtain rfl := hf
    rw [hQ]
    exact w_iret hx hb hr hlocks hP hK hS dX9_letterOfWord_137 rfl rfl
  rw [if_neg hsw22] at hf
  by_cases hsw23 : a0 = 6
  · rw [if_pos hsw23] at hf
    refine lv_tableIn (off := 137) (tgt := 138) hx hb dX9_letterOfWord_1 (by rw [hsw23]; decide) (by rw [hsw23]; decide) (by rw [hsw23]; rfl) (by decide) ?_
    refine lv_iload_n hx hb dX9_letterOfWord_138 rfl (lv_at hl 1 rfl) ?_
    refine lv_bipush (v := 115) hx hb dX9_letterOfWord_139 (by decide) ?_
    refine lv_bipush (v := 119) hx hb dX9_letterOfWord_141 (by decide) ?_
    refine lv_bipush (v := 97) hx hb dX9_letterOfWord_143 (by decide) ?_
    refine lv_bipush (v := 112) hx hb dX9_letterOfWord_145 (by decide) ?_
    refine lv_iconst (v := 0) hx hb dX9_letterOfWord_147 (by decide) ?_
    refine lv_iconst (v := 0) hx hb dX9_letterOfWord_148 (by decide) ?_
    obtain ⟨x13, hc14, hf⟩ := lt1_e hf
    refine w_csi ⟨hx, hb, hml, hown, hts⟩ hP hK hS (k9_letterOf l hX w hc14) hc_226 rfl hl.1 rfl (Nat.le_of_ble_eq_true rfl) dX9_letterOfWord_149 ⟨Nat.zero_le _, Nat.zero_le _⟩ (fun H locs hP hS => ?_)
    obtain rfl := hf
    rw [hQ]
    exact w_iret hx hb hr hlocks hP hK hS dX9_letterOfWord_152 rfl rfl
  rw [if_neg hsw23] at hf
  have hdf : (a0).toInt < 0 ∨ 6 < (a0).toInt := by
    have ghsw17 := ne_i (z := 0) hsw17 (by decide)
    have ghsw18 := ne_i (z := 1) hsw18 (by decide)
    have ghsw19 := ne_i (z := 2) hsw19 (by decide)
    have ghsw20 := ne_i (z := 3) hsw20 (by decide)
    have ghsw21 := ne_i (z := 4) hsw21 (by decide)
    have ghsw22 := ne_i (z := 5) hsw22 (by decide)
    have ghsw23 := ne_i (z := 6) hsw23 (by decide)
    omega
  refine lv_tableOut (tgt := 153) hx hb dX9_letterOfWord_1 hdf (by decide) ?_
  refine lv_iload_n hx hb dX9_letterOfWord_153 rfl (lv_at hl 1 rfl) ?_
  refine lv_bipush (v := 115) hx hb dX9_letterOfWord_154 (by decide) ?_
  refine lv_bipush (v := 101) hx hb dX9_letterOfWord_156 (by decide) ?_
  refine lv_bipush (v := 116) hx hb dX9_letterOfWord_158 (by decide) ?_
  refine lv_bipush (v := 116) hx hb dX9_letterOfWord_160 (by decide) ?_
  refine lv_bipush (v := 108) hx hb dX9_letterOfWord_162 (by decide) ?_
  refine lv_bipush (v := 101) hx hb dX9_letterOfWord_164 (by decide) ?_
  obtain ⟨x15, hc16, hf⟩ := lt1_e hf
  refine w_csi ⟨hx, hb, hml, hown, hts⟩ hP hK hS (k9_letterOf l hX w hc16) hc_226 rfl hl.1 rfl (Nat.le_of_ble_eq_true rfl) dX9_letterOfWord_166 ⟨Nat.zero_le _, Nat.zero_le _⟩ (fun H locs hP hS => ?_)
  obtain rfl := hf
  rw [hQ]
  exact w_iret hx hb hr hlocks hP hK hS dX9_letterOfWord_169 rfl rfl
abbrev rmX9_numbersOf : Room := { frames := 0, cells := 0, slots := 0, locals := 0 }
set_option maxHeartbeats 4000000 in
set_option maxRecDepth 100000 in
theorem k9_numbersOf (l : Launch) {X : bkX} {b0 : Nat} (hX : XO X b0) (w : bkW) {a0 : Int32} {res9 : Int32} (hf : m9_numbersOf a0 = res9) : cI l yX9_numbersOf wsX9_numbersOf rmX9_numbersOf X b0 [.int a0] w res9 w := by
  refine Met.ofW (cc := cX9_numbersOf) (maxL := 1) (ret := (some .int)) (by decide) rfl ?_
  intro p e s m args below meth c s₁ B hml hv
  obtain ⟨ha, hP, hK⟩ := hv
  have hx := B.exec
  have hb := B.bytes
  have hr := B.returns
  have hts := atoms_spec (ws := wsX9_numbersOf) B.pre
  have hown : s.vm.findClass RX9 = some m.cls := findClass_of_methodNamed B.named
  have hlocks := B.notSynchronized
  obtain ⟨R, hR⟩ : ∃ R, R = (headSpec wsX9_numbersOf rmX9_numbersOf).room := ⟨_, rfl⟩
  rw [← hR]
  have hR1 : R.frames = 0 := by rw [hR]; rfl
  have hR2 : R.locals = 0 := by rw [hR]; rfl
  obtain ⟨Q, hQ⟩ : ∃ Q : State → Prop, Q = MQ below (va_Qi (fun r' (_ : Unit) => r' = res9) (fun _ t => WU X w t) (xF b0)) args s 0 0 (xF b0) := ⟨_, rfl⟩
  rw [← hQ]
  have hS : va_S (xF b0) s.heap s.heap [] := va_S.rf
  have hl := lv_entry ([.int a0]) (n := 1) (Nat.le_of_ble_eq_true rfl)
  refine W.eq ((congrArg (fun z => entryFrame m z 1) ha).trans (lg_entry_eq m _ 1)) ?_
  generalize (lg_sl ([.int a0]) ++ List.replicate (1 - (lg_sl ([.int a0])).length) Slot.unset).toArray = ls at hl ⊢
  have hl : lv_has ls 1 [(0, .int a0)] := hl
  unfold m9_numbersOf at hf
  refine lv_iload_n hx hb dX9_numbersOf_0 rfl (lv_at hl 0 rfl) ?_
  refine lv_if_ne (tgt := 8) hx hb dX9_numbersOf_1 (by decide) (fun h1 => ?_) (fun h1 => ?_)
  · rw [if_neg h1] at hf
    refine lv_iload_n hx hb dX9_numbersOf_8 rfl (lv_at hl 0 rfl) ?_
    refine lv_iconst (v := 2) hx hb dX9_numbersOf_9 (by decide) ?_
    refine lv_icmp_ne (tgt := 17) hx hb dX9_numbersOf_10 (by decide) (fun h2 => ?_) (fun h2 => ?_)
    · rw [if_neg h2] at hf
      refine lv_iload_n hx hb dX9_numbersOf_17 rfl (lv_at hl 0 rfl) ?_
      refine lv_iconst (v := 3) hx hb dX9_numbersOf_18 (by decide) ?_
      refine lv_icmp_eq (tgt := 33) hx hb dX9_numbersOf_19 (by decide) (fun h3 => ?_) (fun h3 => ?_)
      · rw [if_pos h3] at hf
        refine lv_iconst (v := 2) hx hb dX9_numbersOf_33 (by decide) ?_
        refine lv_goto (tgt := 47) hx hb dX9_numbersOf_34 (by decide) ?_
        obtain rfl := hf
        rw [hQ]
        exact w_iret hx hb hr hlocks hP hK hS dX9_numbersOf_47 rfl rfl
      · rw [if_neg h3] at hf
        refine lv_iload_n hx hb dX9_numbersOf_22 rfl (lv_at hl 0 rfl) ?_
        refine lv_iconst (v := 4) hx hb dX9_numbersOf_23 (by decide) ?_
        refine lv_icmp_eq (tgt := 33) hx hb dX9_numbersOf_24 (by decide) (fun h4 => ?_) (fun h4 => ?_)
        · rw [if_pos h4] at hf
          refine lv_iconst (v := 2) hx hb dX9_numbersOf_33 (by decide) ?_
          refine lv_goto (tgt := 47) hx hb dX9_numbersOf_34 (by decide) ?_
          obtain rfl := hf
          rw [hQ]
          exact w_iret hx hb hr hlocks hP hK hS dX9_numbersOf_47 rfl rfl
        · rw [if_neg h4] at hf
          refine lv_iload_n hx hb dX9_numbersOf_27 rfl (lv_at hl 0 rfl) ?_
          refine lv_bipush (v := 6) hx hb dX9_numbersOf_28 (by decide) ?_
          refine lv_icmp_ne (tgt := 37) hx hb dX9_numbersOf_30 (by decide) (fun h5 => ?_) (fun h5 => ?_)
          · rw [if_neg h5] at hf
            refine lv_iload_n hx hb dX9_numbersOf_37 rfl (lv_at hl 0 rfl) ?_
            refine lv_iconst (v := 5) hx hb dX9_numbersOf_38 (by decide) ?_
            refine lv_icmp_ne (tgt := 46) hx hb dX9_numbersOf_39 (by decide) (fun h6 => ?_) (fun h6 => ?_)
            · rw [if_neg h6] at hf
              refine lv_iconst (v := 0) hx hb dX9_numbersOf_46 (by decide) ?_
              obtain rfl := hf
              rw [hQ]
              exact w_iret hx hb hr hlocks hP hK hS dX9_numbersOf_47 rfl rfl
            · rw [if_pos h6] at hf
              refine lv_iconst (v := 1) hx hb dX9_numbersOf_42 (by decide) ?_
              refine lv_goto (tgt := 47) hx hb dX9_numbersOf_43 (by decide) ?_
              obtain rfl := hf
              rw [hQ]
              exact w_iret hx hb hr hlocks hP hK hS dX9_numbersOf_47 rfl rfl
          · rw [if_pos h5] at hf
            refine lv_iconst (v := 2) hx hb dX9_numbersOf_33 (by decide) ?_
            refine lv_goto (tgt := 47) hx hb dX9_numbersOf_34 (by decide) ?_
            obtain rfl := hf
            rw [hQ]
            exact w_iret hx hb hr hlocks hP hK hS dX9_numbersOf_47 rfl rfl
    · rw [if_pos h2] at hf
      refine lv_iconst (v := 3) hx hb dX9_numbersOf_13 (by decide) ?_
      refine lv_goto (tgt := 47) hx hb dX9_numbersOf_14 (by decide) ?_
      obtain rfl := hf
      rw [hQ]
      exact w_iret hx hb hr hlocks hP hK hS dX9_numbersOf_47 rfl rfl
  · rw [if_pos h1] at hf
    refine lv_iconst (v := 5) hx hb dX9_numbersOf_4 (by decide) ?_
    refine lv_goto (tgt := 47) hx hb dX9_numbersOf_5 (by decide) ?_
    obtain rfl := hf
    rw [hQ]
    exact w_iret hx hb hr hlocks hP hK hS dX9_numbersOf_47 rfl rfl
abbrev rmX9_kindOf : Room := { frames := 0, cells := 0, slots := 0, locals := 0 }
set_option maxHeartbeats 4000000 in
set_option maxRecDepth 100000 in
theorem k9_kindOf (l : Launch) {X : bkX} {b0 : Nat} (hX : XO X b0) {ca a : Nat} (hA : AR X ca a 265) (w : bkW) {r0 : Nat → Int32} {a1 : Int32} {a2 : Int32} {res9 : Int32} (hf : m9_kindOf r0 a1 a2 = some res9) : cI l yX9_kindOf wsX9_kindOf rmX9_kindOf X b0 [.ref (xa X ca), .int a1, .int a2] (ua w a r0) res9 (ua w a r0) := by
  refine Met.ofW (cc := cX9_kindOf) (maxL := 3) (ret := (some .int)) (by decide) rfl ?_
  intro p e s m args below meth c s₁ B hml hv
  obtain ⟨ha, hP, hK⟩ := hv
  have hx := B.exec
  have hb := B.bytes
  have hr := B.returns
  have hts := atoms_spec (ws := wsX9_kindOf) B.pre
  have hown : s.vm.findClass RX9 = some m.cls := findClass_of_methodNamed B.named
  have hlocks := B.notSynchronized
  obtain ⟨R, hR⟩ : ∃ R, R = (headSpec wsX9_kindOf rmX9_kindOf).room := ⟨_, rfl⟩
  rw [← hR]
  have hR1 : R.frames = 0 := by rw [hR]; rfl
  have hR2 : R.locals = 0 := by rw [hR]; rfl
  obtain ⟨Q, hQ⟩ : ∃ Q : State → Prop, Q = MQ below (va_Qi (fun r' (_ : Unit) => r' = res9) (fun _ t => WU X (ua w a r0) t) (xF b0)) args s 0 0 (xF b0) := ⟨_, rfl⟩
  rw [← hQ]
  have hS : va_S (xF b0) s.heap s.heap [] := va_S.rf
  have hl := lv_entry ([.ref (xa X ca), .int a1, .int a2]) (n := 3) (Nat.le_of_ble_eq_true rfl)
  refine W.eq ((congrArg (fun z => entryFrame m z 3) ha).trans (lg_entry_eq m _ 3)) ?_
  generalize (lg_sl ([.ref (xa X ca), .int a1, .int a2]) ++ List.replicate (3 - (lg_sl ([.ref (xa X ca), .int a1, .int a2])).length) Slot.unset).toArray = ls at hl ⊢
  have hl : lv_has ls 3 [(0, .ref (xa X ca)), (1, .int a1), (2, .int a2)] := hl
  unfold m9_kindOf at hf
  refine lv_aload_n hx hb dX9_kindOf_0 rfl (lv_at hl 0 rfl) ?_
  refine lv_bipush (v := 12) hx hb dX9_kindOf_1 (by decide) ?_
  refine lv_iconst (v := 5) hx hb dX9_kindOf_3 (by decide) ?_
  refine lv_iload_n hx hb dX9_kindOf_4 rfl (lv_at hl 1 rfl) ?_
  refine lv_imul hx hb dX9_kindOf_5 ?_
  refine lv_iadd hx hb dX9_kindOf_6 ?_
  refine lv_iload_n hx hb dX9_kindOf_7 rfl (lv_at hl 2 rfl) ?_
  refine lv_iadd hx hb dX9_kindOf_8 ?_
  obtain ⟨hin1, hf⟩ := ck_e hf
  refine ar_ald (g := r0) hx hb hA ur_s hP hK hin1 dX9_kindOf_9 ?_
  have hf := Option.some.inj hf
  obtain rfl := hf
  rw [hQ]
  exact w_iret hx hb hr hlocks hP hK hS dX9_kindOf_10 rfl rfl
abbrev rmX9_of : Room := { frames := 0, cells := 0, slots := 0, locals := 0 }
set_option maxHeartbeats 4000000 in
set_option maxRecDepth 100000 in
theorem k9_of (l : Launch) {X : bkX} {b0 : Nat} (hX : XO X b0) {ca a : Nat} (hA : AR X ca a 265) (w : bkW) {r0 : Nat → Int32} {a1 : Int32} {a2 : Int32} {res9 : Int32} (hf : m9_of r0 a1 a2 = some res9) : cI l yX9_of wsX9_of rmX9_of X b0 [.ref (xa X ca), .int a1, .int a2] (ua w a r0) res9 (ua w a r0) := by
  refine Met.ofW (cc := cX9_of) (maxL := 3) (ret := (some .int)) (by decide) rfl ?_
  intro p e s m args below meth c s₁ B hml hv
  obtain ⟨ha, hP, hK⟩ := hv
  have hx := B.exec
  have hb := B.bytes
  have hr := B.returns
  have hts := atoms_spec (ws := wsX9_of) B.pre
  have hown : s.vm.findClass RX9 = some m.cls := findClass_of_methodNamed B.named
  have hlocks := B.notSynchronized
  obtain ⟨R, hR⟩ : ∃ R, R = (headSpec wsX9_of rmX9_of).room := ⟨_, rfl⟩
  rw [← hR]
  have hR1 : R.frames = 0 := by rw [hR]; rfl
  have hR2 : R.locals = 0 := by rw [hR]; rfl
  obtain ⟨Q, hQ⟩ : ∃ Q : State → Prop, Q = MQ below (va_Qi (fun r' (_ : Unit) => r' = res9) (fun _ t => WU X (ua w a r0) t) (xF b0)) args s 0 0 (xF b0) := ⟨_, rfl⟩
  rw [← hQ]
  have hS : va_S (xF b0) s.heap s.heap [] := va_S.rf
  have hl := lv_entry ([.ref (xa X ca), .int a1, .int a2]) (n := 3) (Nat.le_of_ble_eq_true rfl)
  refine W.eq ((congrArg (fun z => entryFrame m z 3) ha).trans (lg_entry_eq m _ 3)) ?_
  generalize (lg_sl ([.ref (xa X ca), .int a1, .int a2]) ++ List.replicate (3 - (lg_sl ([.ref (xa X ca), .int a1, .int a2])).length) Slot.unset).toArray = ls at hl ⊢
  have hl : lv_has ls 3 [(0, .ref (xa X ca)), (1, .int a1), (2, .int a2)] := hl
  unfold m9_of at hf
  refine lv_aload_n hx hb dX9_of_0 rfl (lv_at hl 0 rfl) ?_
  refine lv_bipush (v := 85) hx hb dX9_of_1 (by decide) ?_
  refine lv_bipush (v := 8) hx hb dX9_of_3 (by decide) ?_
  refine lv_iload_n hx hb dX9_of_5 rfl (lv_at hl 1 rfl) ?_
  refine lv_imul hx hb dX9_of_6 ?_
  refine lv_iadd hx hb dX9_of_7 ?_
  refine lv_iload_n hx hb dX9_of_8 rfl (lv_at hl 2 rfl) ?_
  refine lv_iadd hx hb dX9_of_9 ?_
  obtain ⟨hin1, hf⟩ := ck_e hf
  refine ar_ald (g := r0) hx hb hA ur_s hP hK hin1 dX9_of_10 ?_
  have hf := Option.some.inj hf
  obtain rfl := hf
  rw [hQ]
  exact w_iret hx hb hr hlocks hP hK hS dX9_of_11 rfl rfl
abbrev rmX9_put : Room := { frames := 0, cells := 0, slots := 0, locals := 0 }
set_option maxHeartbeats 4000000 in
set_option maxRecDepth 100000 in
theorem k9_put (l : Launch) {X : bkX} {b0 : Nat} (hX : XO X b0) {ca a : Nat} (hA : AR X ca a 265) (w : bkW) {r0 : Nat → Int32} {a1 : Int32} {a2 : Int32} {a3 : Int32} {r9 : Nat → Int32} (hf : m9_put r0 a1 a2 a3 = some r9) : cV l yX9_put wsX9_put rmX9_put X b0 [.ref (xa X ca), .int a1, .int a2, .int a3] (ua w a r0) (ua w a r9) := by
  refine Met.ofW (cc := cX9_put) (maxL := 4) (ret := none) (by decide) rfl ?_
  intro p e s m args below meth c s₁ B hml hv
  obtain ⟨ha, hP, hK⟩ := hv
  have hx := B.exec
  have hb := B.bytes
  have hr := B.returns
  have hts := atoms_spec (ws := wsX9_put) B.pre
  have hown : s.vm.findClass RX9 = some m.cls := findClass_of_methodNamed B.named
  have hlocks := B.notSynchronized
  obtain ⟨R, hR⟩ : ∃ R, R = (headSpec wsX9_put rmX9_put).room := ⟨_, rfl⟩
  rw [← hR]
  have hR1 : R.frames = 0 := by rw [hR]; rfl
  have hR2 : R.locals = 0 := by rw [hR]; rfl
  obtain ⟨Q, hQ⟩ : ∃ Q : State → Prop, Q = MQ below (va_Qv (fun (_ : Unit) => True) (fun _ t => WU X (ua w a r9) t) (xF b0)) args s 0 0 (xF b0) := ⟨_, rfl⟩
  rw [← hQ]
  have hS : va_S (xF b0) s.heap s.heap [] := va_S.rf
  have hl := lv_entry ([.ref (xa X ca), .int a1, .int a2, .int a3]) (n := 4) (Nat.le_of_ble_eq_true rfl)
  refine W.eq ((congrArg (fun z => entryFrame m z 4) ha).trans (lg_entry_eq m _ 4)) ?_
  generalize (lg_sl ([.ref (xa X ca), .int a1, .int a2, .int a3]) ++ List.replicate (4 - (lg_sl ([.ref (xa X ca), .int a1, .int a2, .int a3])).length) Slot.unset).toArray = ls at hl ⊢
  have hl : lv_has ls 4 [(0, .ref (xa X ca)), (1, .int a1), (2, .int a2), (3, .int a3)] := hl
  unfold m9_put at hf
  refine lv_aload_n hx hb dX9_put_0 rfl (lv_at hl 0 rfl) ?_
  refine lv_bipush (v := 85) hx hb dX9_put_1 (by decide) ?_
  refine lv_bipush (v := 8) hx hb dX9_put_3 (by decide) ?_
  refine lv_iload_n hx hb dX9_put_5 rfl (lv_at hl 1 rfl) ?_
  refine lv_imul hx hb dX9_put_6 ?_
  refine lv_iadd hx hb dX9_put_7 ?_
  refine lv_iload_n hx hb dX9_put_8 rfl (lv_at hl 2 rfl) ?_
  refine lv_iadd hx hb dX9_put_9 ?_
  refine lv_iload_n hx hb dX9_put_10 rfl (lv_at hl 3 rfl) ?_
  obtain ⟨hin1, hf⟩ := ck_e hf
  refine ar_ast (g := r0) hx hb hX hA ur_s (fun z => ua w a z) (fun z => ua_ua) hP hK hS hin1 dX9_put_11 (fun r2 er2 H locs hP hS => ?_)
  replace hf := ltn_s er2 hf
  have hf := Option.some.inj hf
  obtain rfl := hf
  rw [hQ]
  exact w_vret hx hb hr hlocks hP hK hS dX9_put_12 rfl
abbrev rmX9_byKind : Room := { frames := 1, cells := 0, slots := 0, locals := 22 }
set_option maxHeartbeats 4000000 in
set_option maxRecDepth 100000 in
theorem k9_byKind (l : Launch) {X : bkX} {b0 : Nat} (hX : XO X b0) {ca a : Nat} (hA : AR X ca a 265) (w : bkW) {r0 : Nat → Int32} {a1 : Int32} {a2 : Int32} {res9 : Int32} (hf : m9_byKind r0 a1 a2 = some res9) : cI l yX9_byKind wsX9_byKind rmX9_byKind X b0 [.ref (xa X ca), .int a1, .int a2] (ua w a r0) res9 (ua w a r0) := by
  refine Met.ofW (cc := cX9_byKind) (maxL := 3) (ret := (some .int)) (by decide) rfl ?_
  intro p e s m args below meth c s₁ B hml hv
  obtain ⟨ha, hP, hK⟩ := hv
  have hx := B.exec
  have hb := B.bytes
  have hr := B.returns
  have hts := atoms_spec (ws := wsX9_byKind) B.pre
  have hown : s.vm.findClass RX9 = some m.cls := findClass_of_methodNamed B.named
  have hlocks := B.notSynchronized
  obtain ⟨R, hR⟩ : ∃ R, R = (headSpec wsX9_byKind rmX9_byKind).room := ⟨_, rfl⟩
  rw [← hR]
  have hR1 : R.frames = 1 := by rw [hR]; rfl
  have hR2 : R.locals = 22 := by rw [hR]; rfl
  obtain ⟨Q, hQ⟩ : ∃ Q : State → Prop, Q = MQ below (va_Qi (fun r' (_ : Unit) => r' = res9) (fun _ t => WU X (ua w a r0) t) (xF b0)) args s 0 0 (xF b0) := ⟨_, rfl⟩
  rw [← hQ]
  have hS : va_S (xF b0) s.heap s.heap [] := va_S.rf
  have hl := lv_entry ([.ref (xa X ca), .int a1, .int a2]) (n := 3) (Nat.le_of_ble_eq_true rfl)
  refine W.eq ((congrArg (fun z => entryFrame m z 3) ha).trans (lg_entry_eq m _ 3)) ?_
  generalize (lg_sl ([.ref (xa X ca), .int a1, .int a2]) ++ List.replicate (3 - (lg_sl ([.ref (xa X ca), .int a1, .int a2])).length) Slot.unset).toArray = ls at hl ⊢
  have hl : lv_has ls 3 [(0, .ref (xa X ca)), (1, .int a1), (2, .int a2)] := hl
  have hc_42 := (cwS 3 hts gX9_byKind_X9_of rfl rfl rfl (by decide +kernel) ⟨by rw [hR1]; exact Nat.le_of_ble_eq_true rfl, by rw [hR2]; exact Nat.le_of_ble_eq_true rfl⟩ : CallB R s args RX9 42 yX9_of cX9_of 3 (some .int) wsX9_of rmX9_of 0 0 3 ∧ (Cond.static yX9_of).before args s = true)
  have hc_46 := (cwS 3 hts gX9_byKind_X9_kindOf rfl rfl rfl (by decide +kernel) ⟨by rw [hR1]; exact Nat.le_of_ble_eq_true rfl, by rw [hR2]; exact Nat.le_of_ble_eq_true rfl⟩ : CallB R s args RX9 46 yX9_kindOf cX9_kindOf 3 (some .int) wsX9_kindOf rmX9_kindOf 0 0 3 ∧ (Cond.static yX9_kindOf).before args s = true)
  unfold m9_byKind at hf
  refine lv_aload_n hx hb dX9_byKind_0 rfl (lv_at hl 0 rfl) ?_
  refine lv_aload_n hx hb dX9_byKind_1 rfl (lv_at hl 0 rfl) ?_
  refine lv_iload_n hx hb dX9_byKind_2 rfl (lv_at hl 1 rfl) ?_
  refine lv_iconst (v := 1) hx hb dX9_byKind_3 (by decide) ?_
  obtain ⟨x1, hc2, hf⟩ := ob1_e hf
  refine w_csi ⟨hx, hb, hml, hown, hts⟩ hP hK hS (k9_of l hX hA w hc2) hc_42 rfl hl.1 rfl (Nat.le_of_ble_eq_true rfl) dX9_byKind_4 ⟨Nat.zero_le _, Nat.zero_le _⟩ (fun H locs hP hS => ?_)
  refine lv_iload_n hx hb dX9_byKind_7 rfl (lv_at hl 2 rfl) ?_
  obtain ⟨x3, hc4, hf⟩ := ob1_e hf
  refine w_csi ⟨hx, hb, hml, hown, hts⟩ hP hK hS (k9_kindOf l hX hA w hc4) hc_46 rfl hl.1 rfl (Nat.le_of_ble_eq_true rfl) dX9_byKind_8 ⟨Nat.zero_le _, Nat.zero_le _⟩ (fun H locs hP hS => ?_)
  have hf := Option.some.inj hf
  obtain rfl := hf
  rw [hQ]
  exact w_iret hx hb hr hlocks hP hK hS dX9_byKind_11 rfl rfl
abbrev rmX9_at : Room := { frames := 0, cells := 0, slots := 0, locals := 0 }
set_option maxHeartbeats 4000000 in
set_option maxRecDepth 100000 in
theorem k9_at (l : Launch) {X : bkX} {b0 : Nat} (hX : XO X b0) {ca a : Nat} (hA : AR X ca a 265) (w : bkW) {r0 : Nat → Int32} {a1 : Int32} {a2 : Int32} {res9 : Int32} (hf : m9_at r0 a1 a2 = some res9) : cI l yX9_at wsX9_at rmX9_at X b0 [.ref (xa X ca), .int a1, .int a2] (ua w a r0) res9 (ua w a r0) := by
  refine Met.ofW (cc := cX9_at) (maxL := 3) (ret := (some .int)) (by decide) rfl ?_
  intro p e s m args below meth c s₁ B hml hv
  obtain ⟨ha, hP, hK⟩ := hv
  have hx := B.exec
  have hb := B.bytes
  have hr := B.returns
  have hts := atoms_spec (ws := wsX9_at) B.pre
  have hown : s.vm.findClass RX9 = some m.cls := findClass_of_methodNamed B.named
  have hlocks := B.notSynchronized
  obtain ⟨R, hR⟩ : ∃ R, R = (headSpec wsX9_at rmX9_at).room := ⟨_, rfl⟩
  rw [← hR]
  have hR1 : R.frames = 0 := by rw [hR]; rfl
  have hR2 : R.locals = 0 := by rw [hR]; rfl
  obtain ⟨Q, hQ⟩ : ∃ Q : State → Prop, Q = MQ below (va_Qi (fun r' (_ : Unit) => r' = res9) (fun _ t => WU X (ua w a r0) t) (xF b0)) args s 0 0 (xF b0) := ⟨_, rfl⟩
  rw [← hQ]
  have hS : va_S (xF b0) s.heap s.heap [] := va_S.rf
  have hl := lv_entry ([.ref (xa X ca), .int a1, .int a2]) (n := 3) (Nat.le_of_ble_eq_true rfl)
  refine W.eq ((congrArg (fun z => entryFrame m z 3) ha).trans (lg_entry_eq m _ 3)) ?_
  generalize (lg_sl ([.ref (xa X ca), .int a1, .int a2]) ++ List.replicate (3 - (lg_sl ([.ref (xa X ca), .int a1, .int a2])).length) Slot.unset).toArray = ls at hl ⊢
  have hl : lv_has ls 3 [(0, .ref (xa X ca)), (1, .int a1), (2, .int a2)] := hl
  unfold m9_at at hf
  refine lv_aload_n hx hb dX9_at_0 rfl (lv_at hl 0 rfl) ?_
  refine lv_sipush (v := 229) hx hb dX9_at_1 (by decide) ?_
  refine lv_iconst (v := 3) hx hb dX9_at_4 (by decide) ?_
  refine lv_iload_n hx hb dX9_at_5 rfl (lv_at hl 1 rfl) ?_
  refine lv_imul hx hb dX9_at_6 ?_
  refine lv_iadd hx hb dX9_at_7 ?_
  refine lv_iload_n hx hb dX9_at_8 rfl (lv_at hl 2 rfl) ?_
  refine lv_iadd hx hb dX9_at_9 ?_
  obtain ⟨hin1, hf⟩ := ck_e hf
  refine ar_ald (g := r0) hx hb hA ur_s hP hK hin1 dX9_at_10 ?_
  have hf := Option.some.inj hf
  obtain rfl := hf
  rw [hQ]
  exact w_iret hx hb hr hlocks hP hK hS dX9_at_11 rfl rfl
abbrev rmX9_heatAt : Room := { frames := 0, cells := 0, slots := 0, locals := 0 }
set_option maxHeartbeats 4000000 in
set_option maxRecDepth 100000 in
theorem k9_heatAt (l : Launch) {X : bkX} {b0 : Nat} (hX : XO X b0) {ca a : Nat} (hA : AR X ca a 265) (w : bkW) {r0 : Nat → Int32} {a1 : Int32} {res9 : Int32} (hf : m9_heatAt r0 a1 = some res9) : cI l yX9_heatAt wsX9_heatAt rmX9_heatAt X b0 [.ref (xa X ca), .int a1] (ua w a r0) res9 (ua w a r0) := by
  refine Met.ofW (cc := cX9_heatAt) (maxL := 3) (ret := (some .int)) (by decide) rfl ?_
  intro p e s m args below meth c s₁ B hml hv
  obtain ⟨ha, hP, hK⟩ := hv
  have hx := B.exec
  have hb := B.bytes
  have hr := B.returns
  have hts := atoms_spec (ws := wsX9_heatAt) B.pre
  have hown : s.vm.findClass RX9 = some m.cls := findClass_of_methodNamed B.named
  have hlocks := B.notSynchronized
  obtain ⟨R, hR⟩ : ∃ R, R = (headSpec wsX9_heatAt rmX9_heatAt).room := ⟨_, rfl⟩
  rw [← hR]
  have hR1 : R.frames = 0 := by rw [hR]; rfl
  have hR2 : R.locals = 0 := by rw [hR]; rfl
  obtain ⟨Q, hQ⟩ : ∃ Q : State → Prop, Q = MQ below (va_Qi (fun r' (_ : Unit) => r' = res9) (fun _ t => WU X (ua w a r0) t) (xF b0)) args s 0 0 (xF b0) := ⟨_, rfl⟩
  rw [← hQ]
  have hS : va_S (xF b0) s.heap s.heap [] := va_S.rf
  have hl := lv_entry ([.ref (xa X ca), .int a1]) (n := 3) (Nat.le_of_ble_eq_true rfl)
  refine W.eq ((congrArg (fun z => entryFrame m z 3) ha).trans (lg_entry_eq m _ 3)) ?_
  generalize (lg_sl ([.ref (xa X ca), .int a1]) ++ List.replicate (3 - (lg_sl ([.ref (xa X ca), .int a1])).length) Slot.unset).toArray = ls at hl ⊢
  have hl : lv_has ls 3 [(0, .ref (xa X ca)), (1, .int a1)] := hl
  unfold m9_heatAt at hf
  refine lv_aload_n hx hb dX9_heatAt_0 rfl (lv_at hl 0 rfl) ?_
  refine lv_iconst (v := 0) hx hb dX9_heatAt_1 (by decide) ?_
  obtain ⟨hin1, hf⟩ := ck_e hf
  refine ar_ald (g := r0) hx hb hA ur_s hP hK hin1 dX9_heatAt_2 ?_
  refine lv_bipush (v := 20) hx hb dX9_heatAt_3 (by decide) ?_
  refine lv_iload_n hx hb dX9_heatAt_5 rfl (lv_at hl 1 rfl) ?_
  refine lv_iconst (v := 4) hx hb dX9_heatAt_6 (by decide) ?_
  refine lv_idiv hx hb dX9_heatAt_7 (by decide) ?_
  refine lv_imul hx hb dX9_heatAt_8 ?_
  refine lv_isub hx hb dX9_heatAt_9 ?_
  refine lv_topi (fun x2 ex2 => ?_)
  replace hf := ltn_s ex2 hf
  refine lv_istore_n (lv' := [(2, .int x2), (0, .ref (xa X ca)), (1, .int a1)]) hx hb dX9_heatAt_10 rfl hl (by decide) rfl (fun ls hl => ?_)
  refine lv_iload_n hx hb dX9_heatAt_11 rfl (lv_at hl 0 rfl) ?_
  refine lv_if_ge (tgt := 19) hx hb dX9_heatAt_12 (by decide) (fun h3 => ?_) (fun h3 => ?_)
  · rw [if_pos h3] at hf
    refine lv_iload_n hx hb dX9_heatAt_19 rfl (lv_at hl 0 rfl) ?_
    have hf := Option.some.inj hf
    obtain rfl := hf
    rw [hQ]
    exact w_iret hx hb hr hlocks hP hK hS dX9_heatAt_20 rfl rfl
  · rw [if_neg h3] at hf
    refine lv_iconst (v := 0) hx hb dX9_heatAt_15 (by decide) ?_
    refine lv_goto (tgt := 20) hx hb dX9_heatAt_16 (by decide) ?_
    have hf := Option.some.inj hf
    obtain rfl := hf
    rw [hQ]
    exact w_iret hx hb hr hlocks hP hK hS dX9_heatAt_20 rfl rfl
abbrev rmX9_placeInLine : Room := { frames := 0, cells := 0, slots := 0, locals := 0 }
set_option maxHeartbeats 4000000 in
set_option maxRecDepth 100000 in
theorem k9_placeInLine (l : Launch) {X : bkX} {b0 : Nat} (hX : XO X b0) {ca a : Nat} (hA : AR X ca a 265) (w : bkW) {N : Nat} {r0 : Nat → Int32} {a1 : Int32} {res9 : Int32} (hf : m9_placeInLine N r0 a1 = some res9) : cI l yX9_placeInLine wsX9_placeInLine rmX9_placeInLine X b0 [.ref (xa X ca), .int a1] (ua w a r0) res9 (ua w a r0) := by
  refine Met.ofW (cc := cX9_placeInLine) (maxL := 4) (ret := (some .int)) (by decide) rfl ?_
  intro p e s m args below meth c s₁ B hml hv
  obtain ⟨ha, hP, hK⟩ := hv
  have hx := B.exec
  have hb := B.bytes
  have hr := B.returns
  have hts := atoms_spec (ws := wsX9_placeInLine) B.pre
  have hown : s.vm.findClass RX9 = some m.cls := findClass_of_methodNamed B.named
  have hlocks := B.notSynchronized
  obtain ⟨R, hR⟩ : ∃ R, R = (headSpec wsX9_placeInLine rmX9_placeInLine).room := ⟨_, rfl⟩
  rw [← hR]
  have hR1 : R.frames = 0 := by rw [hR]; rfl
  have hR2 : R.locals = 0 := by rw [hR]; rfl
  obtain ⟨Q, hQ⟩ : ∃ Q : State → Prop, Q = MQ below (va_Qi (fun r' (_ : Unit) => r' = res9) (fun _ t => WU X (ua w a r0) t) (xF b0)) args s 0 0 (xF b0) := ⟨_, rfl⟩
  rw [← hQ]
  have hS : va_S (xF b0) s.heap s.heap [] := va_S.rf
  have hl := lv_entry ([.ref (xa X ca), .int a1]) (n := 4) (Nat.le_of_ble_eq_true rfl)
  refine W.eq ((congrArg (fun z => entryFrame m z 4) ha).trans (lg_entry_eq m _ 4)) ?_
  generalize (lg_sl ([.ref (xa X ca), .int a1]) ++ List.replicate (4 - (lg_sl ([.ref (xa X ca), .int a1])).length) Slot.unset).toArray = ls at hl ⊢
  have hl : lv_has ls 4 [(0, .ref (xa X ca)), (1, .int a1)] := hl
  unfold m9_placeInLine at hf
  refine lv_iconst (v := (-1)) hx hb dX9_placeInLine_0 (by decide) ?_
  refine lv_istore_n (lv' := [(2, .int (-1)), (0, .ref (xa X ca)), (1, .int a1)]) hx hb dX9_placeInLine_1 rfl hl (by decide) rfl (fun ls hl => ?_)
  refine lv_iconst (v := 0) hx hb dX9_placeInLine_2 (by decide) ?_
  refine lv_istore_n (lv' := [(3, .int 0), (2, .int (-1)), (0, .ref (xa X ca)), (1, .int a1)]) hx hb dX9_placeInLine_3 rfl hl (by decide) rfl (fun ls hl => ?_)
  have L4 : ∀ (n : Nat) (x2 : Int32) (x3 : Int32) (x4 : Int32)  (o5 : Int32) (H : Heap) (locs : List Loc) (ls : Array Slot), m9_placeInLine_L4 N n x2 x3 x4 r0 = some o5 → HW X (ua w a r0) H → va_S (xF b0) s.heap H locs → lv_has ls 4 [(0, .ref (xa X ca)), (1, .int x2), (2, .int x3), (3, .int x4)] → (∀ (H1 : Heap) (locs1 : List Loc) (ls1 : Array Slot), HW X (ua w a r0) H1 → va_S (xF b0) s.heap H1 locs1 → lv_has ls1 4 [(2, .int o5)] → W p l e R s m args below meth c H1 locs1 0 0 Q (F0 m 34 ls1 [])) → W p l e R s m args below meth c H locs 0 0 Q (F0 m 4 ls []) := by
    intro n; induction n with
    | zero => intro x2 x3 x4 o5 H locs ls hf; rw [m9_placeInLine_L4] at hf; cases hf
    | succ n ih =>
      intro x2 x3 x4 o5 H locs ls hf hP hS hl K
      rw [m9_placeInLine_L4] at hf
      refine lv_iload_n hx hb dX9_placeInLine_4 rfl (lv_at hl 3 rfl) ?_
      refine lv_aload_n hx hb dX9_placeInLine_5 rfl (lv_at hl 0 rfl) ?_
      refine lv_iconst (v := 5) hx hb dX9_placeInLine_6 (by decide) ?_
      obtain ⟨hin6, hf⟩ := ck_e hf
      refine ar_ald (g := r0) hx hb hA ur_s hP hK hin6 dX9_placeInLine_7 ?_
      refine lv_icmp_ge (tgt := 34) hx hb dX9_placeInLine_8 (by decide) (fun h7 => ?_) (fun h7 => ?_)
      · rw [if_pos h7] at hf
        have hf := Option.some.inj hf
        obtain rfl := hf
        exact K _ _ _ hP hS (lv_sub hl [2] rfl)
      · rw [if_neg h7] at hf
        refine lv_aload_n hx hb dX9_placeInLine_11 rfl (lv_at hl 0 rfl) ?_
        refine lv_sipush (v := 213) hx hb dX9_placeInLine_12 (by decide) ?_
        refine lv_iload_n hx hb dX9_placeInLine_15 rfl (lv_at hl 3 rfl) ?_
        refine lv_iadd hx hb dX9_placeInLine_16 ?_
        obtain ⟨hin8, hf⟩ := ck_e hf
        refine ar_ald (g := r0) hx hb hA ur_s hP hK hin8 dX9_placeInLine_17 ?_
        refine lv_iload_n hx hb dX9_placeInLine_18 rfl (lv_at hl 1 rfl) ?_
        obtain ⟨x10, ejK11, hf⟩ := lt1_e hf
        have K11 : ∀ (H : Heap) (locs : List Loc) (ls : Array Slot), HW X (ua w a r0) H → va_S (xF b0) s.heap H locs → lv_has ls 4 [(0, .ref (xa X ca)), (1, .int x2), (3, .int x4)] → W p l e R s m args below meth c H locs 0 0 Q (F0 m 27 ls [.int x10]) := by
          intro H locs ls hP hS hl
          refine lv_istore_n (lv' := [(2, .int x10), (0, .ref (xa X ca)), (1, .int x2), (3, .int x4)]) hx hb dX9_placeInLine_27 rfl hl (by decide) rfl (fun ls hl => ?_)
          obtain ⟨x12, ex12⟩ : ∃ y : Int32, y = x4 + 1 := ⟨_, rfl⟩
          replace hf := ltn_s ex12 hf
          refine lv_iinc (v := x12) (lv' := [(3, .int x12), (2, .int x10), (0, .ref (xa X ca)), (1, .int x2)]) hx hb dX9_placeInLine_28 hl (k := 3) rfl (by rw [ex12]; rfl) (by decide) rfl (fun ls hl => ?_)
          refine lv_goto (tgt := 4) hx hb dX9_placeInLine_31 (by decide) ?_
          exact ih x2 x10 x12 o5 _ _ _ hf hP hS (lv_sub hl [2, 3, 1, 0] rfl) K
        clear hf
        refine lv_icmp_ne (tgt := 26) hx hb dX9_placeInLine_19 (by decide) (fun h9 => ?_) (fun h9 => ?_)
        · rw [if_neg h9] at ejK11
          refine lv_iload_n hx hb dX9_placeInLine_26 rfl (lv_at hl 2 rfl) ?_
          obtain rfl := ejK11
          exact K11 _ _ _ hP hS (lv_sub hl [0, 1, 3] rfl)
        · rw [if_pos h9] at ejK11
          refine lv_iload_n hx hb dX9_placeInLine_22 rfl (lv_at hl 3 rfl) ?_
          refine lv_goto (tgt := 27) hx hb dX9_placeInLine_23 (by decide) ?_
          obtain rfl := ejK11
          exact K11 _ _ _ hP hS (lv_sub hl [0, 1, 3] rfl)
  obtain ⟨x13, hc14, hf⟩ := ob1_e hf
  refine L4 N a1 (-1) 0  x13 _ _ _ hc14 hP hS (lv_sub hl [2, 3, 1, 0] rfl) (fun H locs ls hP hS hl => ?_)
  refine lv_iload_n hx hb dX9_placeInLine_34 rfl (lv_at hl 0 rfl) ?_
  have hf := Option.some.inj hf
  obtain rfl := hf
  rw [hQ]
  exact w_iret hx hb hr hlocks hP hK hS dX9_placeInLine_35 rfl rfl
abbrev rmX9_leaveLine : Room := { frames := 1, cells := 0, slots := 0, locals := 23 }
set_option maxHeartbeats 4000000 in
set_option maxRecDepth 100000 in
theorem k9_leaveLine (l : Launch) {X : bkX} {b0 : Nat} (hX : XO X b0) {ca a : Nat} (hA : AR X ca a 265) (w : bkW) {N : Nat} {r0 : Nat → Int32} {a1 : Int32} {r9 : Nat → Int32} (hf : m9_leaveLine N r0 a1 = some r9) : cV l yX9_leaveLine wsX9_leaveLine rmX9_leaveLine X b0 [.ref (xa X ca), .int a1] (ua w a r0) (ua w a r9) := by
  refine Met.ofW (cc := cX9_leaveLine) (maxL := 4) (ret := none) (by decide) rfl ?_
  intro p e s m args below meth c s₁ B hml hv
  obtain ⟨ha, hP, hK⟩ := hv
  have hx := B.exec
  have hb := B.bytes
  have hr := B.returns
  have hts := atoms_spec (ws := wsX9_leaveLine) B.pre
  have hown : s.vm.findClass RX9 = some m.cls := findClass_of_methodNamed B.named
  have hlocks := B.notSynchronized
  obtain ⟨R, hR⟩ : ∃ R, R = (headSpec wsX9_leaveLine rmX9_leaveLine).room := ⟨_, rfl⟩
  rw [← hR]
  have hR1 : R.frames = 1 := by rw [hR]; rfl
  have hR2 : R.locals = 23 := by rw [hR]; rfl
  obtain ⟨Q, hQ⟩ : ∃ Q : State → Prop, Q = MQ below (va_Qv (fun (_ : Unit) => True) (fun _ t => WU X (ua w a r9) t) (xF b0)) args s 0 0 (xF b0) := ⟨_, rfl⟩
  rw [← hQ]
  have hS : va_S (xF b0) s.heap s.heap [] := va_S.rf
  have hl := lv_entry ([.ref (xa X ca), .int a1]) (n := 4) (Nat.le_of_ble_eq_true rfl)
  refine W.eq ((congrArg (fun z => entryFrame m z 4) ha).trans (lg_entry_eq m _ 4)) ?_
  generalize (lg_sl ([.ref (xa X ca), .int a1]) ++ List.replicate (4 - (lg_sl ([.ref (xa X ca), .int a1])).length) Slot.unset).toArray = ls at hl ⊢
  have hl : lv_has ls 4 [(0, .ref (xa X ca)), (1, .int a1)] := hl
  have hc_53 := (cwS 2 hts gX9_leaveLine_X9_placeInLine rfl rfl rfl (by decide +kernel) ⟨by rw [hR1]; exact Nat.le_of_ble_eq_true rfl, by rw [hR2]; exact Nat.le_of_ble_eq_true rfl⟩ : CallB R s args RX9 53 yX9_placeInLine cX9_placeInLine 4 (some .int) wsX9_placeInLine rmX9_placeInLine 0 0 2 ∧ (Cond.static yX9_placeInLine).before args s = true)
  unfold m9_leaveLine at hf
  refine lv_aload_n hx hb dX9_leaveLine_0 rfl (lv_at hl 0 rfl) ?_
  refine lv_iload_n hx hb dX9_leaveLine_1 rfl (lv_at hl 1 rfl) ?_
  obtain ⟨x1, hc2, hf⟩ := ob1_e hf
  refine w_csi ⟨hx, hb, hml, hown, hts⟩ hP hK hS (k9_placeInLine l hX hA w hc2) hc_53 rfl hl.1 rfl (Nat.le_of_ble_eq_true rfl) dX9_leaveLine_2 ⟨Nat.zero_le _, Nat.zero_le _⟩ (fun H locs hP hS => ?_)
  refine lv_istore_n (lv' := [(2, .int x1), (0, .ref (xa X ca)), (1, .int a1)]) hx hb dX9_leaveLine_5 rfl hl (by decide) rfl (fun ls hl => ?_)
  refine lv_aload_n hx hb dX9_leaveLine_6 rfl (lv_at hl 1 rfl) ?_
  refine lv_iconst (v := 5) hx hb dX9_leaveLine_7 (by decide) ?_
  refine lv_dup2_11 hx hb dX9_leaveLine_8 rfl rfl ?_
  obtain ⟨hin3, hf⟩ := ck_e hf
  refine ar_ald (g := r0) hx hb hA ur_s hP hK hin3 dX9_leaveLine_9 ?_
  refine lv_iconst (v := 1) hx hb dX9_leaveLine_10 (by decide) ?_
  refine lv_isub hx hb dX9_leaveLine_11 ?_
  obtain ⟨hin4, hf⟩ := ck_e hf
  refine ar_ast (g := r0) hx hb hX hA ur_s (fun z => ua w a z) (fun z => ua_ua) hP hK hS hin4 dX9_leaveLine_12 (fun r5 er5 H locs hP hS => ?_)
  replace hf := ltn_s er5 hf
  refine lv_iload_n hx hb dX9_leaveLine_13 rfl (lv_at hl 0 rfl) ?_
  refine lv_istore_n (lv' := [(3, .int x1), (2, .int x1), (0, .ref (xa X ca)), (1, .int a1)]) hx hb dX9_leaveLine_14 rfl hl (by decide) rfl (fun ls hl => ?_)
  have L15 : ∀ (n : Nat) (x7 : Int32) (r8 : Nat → Int32) (or9 : Nat → Int32) (H : Heap) (locs : List Loc) (ls : Array Slot), m9_leaveLine_L15 N n x7 r8 = some or9 → HW X (ua w a r8) H → va_S (xF b0) s.heap H locs → lv_has ls 4 [(0, .ref (xa X ca)), (3, .int x7)] → (∀ (H1 : Heap) (locs1 : List Loc) (ls1 : Array Slot), HW X (ua w a or9) H1 → va_S (xF b0) s.heap H1 locs1 → lv_has ls1 4 [] → W p l e R s m args below meth c H1 locs1 0 0 Q (F0 m 44 ls1 [])) → W p l e R s m args below meth c H locs 0 0 Q (F0 m 15 ls []) := by
    intro n; induction n with
    | zero => intro x7 r8 or9 H locs ls hf; rw [m9_leaveLine_L15] at hf; cases hf
    | succ n ih =>
      intro x7 r8 or9 H locs ls hf hP hS hl K
      rw [m9_leaveLine_L15] at hf
      refine lv_iload_n hx hb dX9_leaveLine_15 rfl (lv_at hl 1 rfl) ?_
      refine lv_aload_n hx hb dX9_leaveLine_16 rfl (lv_at hl 0 rfl) ?_
      refine lv_iconst (v := 5) hx hb dX9_leaveLine_17 (by decide) ?_
      obtain ⟨hin10, hf⟩ := ck_e hf
      refine ar_ald (g := r8) hx hb hA ur_s hP hK hin10 dX9_leaveLine_18 ?_
      refine lv_icmp_ge (tgt := 44) hx hb dX9_leaveLine_19 (by decide) (fun h11 => ?_) (fun h11 => ?_)
      · rw [if_pos h11] at hf
        have hf := Option.some.inj hf
        obtain rfl := hf
        exact K _ _ _ hP hS (lv_sub hl [] rfl)
      · rw [if_neg h11] at hf
        refine lv_aload_n hx hb dX9_leaveLine_22 rfl (lv_at hl 0 rfl) ?_
        refine lv_sipush (v := 213) hx hb dX9_leaveLine_23 (by decide) ?_
        refine lv_iload_n hx hb dX9_leaveLine_26 rfl (lv_at hl 1 rfl) ?_
        refine lv_iadd hx hb dX9_leaveLine_27 ?_
        refine lv_aload_n hx hb dX9_leaveLine_28 rfl (lv_at hl 0 rfl) ?_
        refine lv_sipush (v := 213) hx hb dX9_leaveLine_29 (by decide) ?_
        refine lv_iload_n hx hb dX9_leaveLine_32 rfl (lv_at hl 1 rfl) ?_
        refine lv_iadd hx hb dX9_leaveLine_33 ?_
        refine lv_iconst (v := 1) hx hb dX9_leaveLine_34 (by decide) ?_
        refine lv_iadd hx hb dX9_leaveLine_35 ?_
        obtain ⟨hin12, hf⟩ := ck_e hf
        refine ar_ald (g := r8) hx hb hA ur_s hP hK hin12 dX9_leaveLine_36 ?_
        obtain ⟨hin13, hf⟩ := ck_e hf
        refine ar_ast (g := r8) hx hb hX hA ur_s (fun z => ua w a z) (fun z => ua_ua) hP hK hS hin13 dX9_leaveLine_37 (fun r14 er14 H locs hP hS => ?_)
        replace hf := ltn_s er14 hf
        obtain ⟨x15, ex15⟩ : ∃ y : Int32, y = x7 + 1 := ⟨_, rfl⟩
        replace hf := ltn_s ex15 hf
        refine lv_iinc (v := x15) (lv' := [(3, .int x15), (0, .ref (xa X ca))]) hx hb dX9_leaveLine_38 hl (k := 1) rfl (by rw [ex15]; rfl) (by decide) rfl (fun ls hl => ?_)
        refine lv_goto (tgt := 15) hx hb dX9_leaveLine_41 (by decide) ?_
        exact ih x15 r14 or9 _ _ _ hf hP hS (lv_sub hl [1, 0] rfl) K
  obtain ⟨r16, hc17, hf⟩ := ob1_e hf
  refine L15 N x1 r5 r16 _ _ _ hc17 hP hS (lv_sub hl [2, 0] rfl) (fun H locs ls hP hS hl => ?_)
  have hf := Option.some.inj hf
  obtain rfl := hf
  rw [hQ]
  exact w_vret hx hb hr hlocks hP hK hS dX9_leaveLine_44 rfl
abbrev rmX9_age : Room := { frames := 2, cells := 0, slots := 0, locals := 46 }
set_option maxHeartbeats 4000000 in
set_option maxRecDepth 100000 in
theorem k9_age (l : Launch) {X : bkX} {b0 : Nat} (hX : XO X b0) {ca a : Nat} (hA : AR X ca a 265) (w : bkW) {N : Nat} {r0 : Nat → Int32} {r9 : Nat → Int32} (hf : m9_age N r0 = some r9) : cV l yX9_age wsX9_age rmX9_age X b0 [.ref (xa X ca)] (ua w a r0) (ua w a r9) := by
  refine Met.ofW (cc := cX9_age) (maxL := 2) (ret := none) (by decide) rfl ?_
  intro p e s m args below meth c s₁ B hml hv
  obtain ⟨ha, hP, hK⟩ := hv
  have hx := B.exec
  have hb := B.bytes
  have hr := B.returns
  have hts := atoms_spec (ws := wsX9_age) B.pre
  have hown : s.vm.findClass RX9 = some m.cls := findClass_of_methodNamed B.named
  have hlocks := B.notSynchronized
  obtain ⟨R, hR⟩ : ∃ R, R = (headSpec wsX9_age rmX9_age).room := ⟨_, rfl⟩
  rw [← hR]
  have hR1 : R.frames = 2 := by rw [hR]; rfl
  have hR2 : R.locals = 46 := by rw [hR]; rfl
  obtain ⟨Q, hQ⟩ : ∃ Q : State → Prop, Q = MQ below (va_Qv (fun (_ : Unit) => True) (fun _ t => WU X (ua w a r9) t) (xF b0)) args s 0 0 (xF b0) := ⟨_, rfl⟩
  rw [← hQ]
  have hS : va_S (xF b0) s.heap s.heap [] := va_S.rf
  have hl := lv_entry ([.ref (xa X ca)]) (n := 2) (Nat.le_of_ble_eq_true rfl)
  refine W.eq ((congrArg (fun z => entryFrame m z 2) ha).trans (lg_entry_eq m _ 2)) ?_
  generalize (lg_sl ([.ref (xa X ca)]) ++ List.replicate (2 - (lg_sl ([.ref (xa X ca)])).length) Slot.unset).toArray = ls at hl ⊢
  have hl : lv_has ls 2 [(0, .ref (xa X ca))] := hl
  have hc_42 := (cwS 3 hts gX9_age_X9_of rfl rfl rfl (by decide +kernel) ⟨by rw [hR1]; exact Nat.le_of_ble_eq_true rfl, by rw [hR2]; exact Nat.le_of_ble_eq_true rfl⟩ : CallB R s args RX9 42 yX9_of cX9_of 3 (some .int) wsX9_of rmX9_of 0 0 3 ∧ (Cond.static yX9_of).before args s = true)
  have hc_57 := (cwS 4 hts gX9_age_X9_put rfl rfl rfl (by decide +kernel) ⟨by rw [hR1]; exact Nat.le_of_ble_eq_true rfl, by rw [hR2]; exact Nat.le_of_ble_eq_true rfl⟩ : CallB R s args RX9 57 yX9_put cX9_put 4 none wsX9_put rmX9_put 0 0 4 ∧ (Cond.static yX9_put).before args s = true)
  have hc_61 := (cwS 3 hts gX9_age_X9_byKind rfl rfl rfl (by decide +kernel) ⟨by rw [hR1]; exact Nat.le_of_ble_eq_true rfl, by rw [hR2]; exact Nat.le_of_ble_eq_true rfl⟩ : CallB R s args RX9 61 yX9_byKind cX9_byKind 3 (some .int) wsX9_byKind rmX9_byKind 0 0 3 ∧ (Cond.static yX9_byKind).before args s = true)
  have hc_64 := (cwS 2 hts gX9_age_X9_leaveLine rfl rfl rfl (by decide +kernel) ⟨by rw [hR1]; exact Nat.le_of_ble_eq_true rfl, by rw [hR2]; exact Nat.le_of_ble_eq_true rfl⟩ : CallB R s args RX9 64 yX9_leaveLine cX9_leaveLine 4 none wsX9_leaveLine rmX9_leaveLine 0 0 2 ∧ (Cond.static yX9_leaveLine).before args s = true)
  unfold m9_age at hf
  refine lv_iconst (v := 0) hx hb dX9_age_0 (by decide) ?_
  refine lv_istore_n (lv' := [(1, .int 0), (0, .ref (xa X ca))]) hx hb dX9_age_1 rfl hl (by decide) rfl (fun ls hl => ?_)
  have L2 : ∀ (n : Nat) (x2 : Int32) (r3 : Nat → Int32) (or4 : Nat → Int32) (H : Heap) (locs : List Loc) (ls : Array Slot), m9_age_L2 N n x2 r3 = some or4 → HW X (ua w a r3) H → va_S (xF b0) s.heap H locs → lv_has ls 2 [(0, .ref (xa X ca)), (1, .int x2)] → (∀ (H1 : Heap) (locs1 : List Loc) (ls1 : Array Slot), HW X (ua w a or4) H1 → va_S (xF b0) s.heap H1 locs1 → lv_has ls1 2 [] → W p l e R s m args below meth c H1 locs1 0 0 Q (F0 m 80 ls1 [])) → W p l e R s m args below meth c H locs 0 0 Q (F0 m 2 ls []) := by
    intro n; induction n with
    | zero => intro x2 r3 or4 H locs ls hf; rw [m9_age_L2] at hf; cases hf
    | succ n ih =>
      intro x2 r3 or4 H locs ls hf hP hS hl K
      rw [m9_age_L2] at hf
      refine lv_iload_n hx hb dX9_age_2 rfl (lv_at hl 1 rfl) ?_
      refine lv_aload_n hx hb dX9_age_3 rfl (lv_at hl 0 rfl) ?_
      refine lv_iconst (v := 4) hx hb dX9_age_4 (by decide) ?_
      obtain ⟨hin5, hf⟩ := ck_e hf
      refine ar_ald (g := r3) hx hb hA ur_s hP hK hin5 dX9_age_5 ?_
      refine lv_icmp_ge (tgt := 80) hx hb dX9_age_6 (by decide) (fun h6 => ?_) (fun h6 => ?_)
      · rw [if_pos h6] at hf
        have hf := Option.some.inj hf
        obtain rfl := hf
        exact K _ _ _ hP hS (lv_sub hl [] rfl)
      · rw [if_neg h6] at hf
        refine lv_aload_n hx hb dX9_age_9 rfl (lv_at hl 0 rfl) ?_
        refine lv_iload_n hx hb dX9_age_10 rfl (lv_at hl 1 rfl) ?_
        refine lv_iconst (v := 4) hx hb dX9_age_11 (by decide) ?_
        obtain ⟨x7, hc8, hf⟩ := ob1_e hf
        refine w_csi ⟨hx, hb, hml, hown, hts⟩ hP hK hS (k9_of l hX hA w hc8) hc_42 rfl hl.1 rfl (Nat.le_of_ble_eq_true rfl) dX9_age_12 ⟨Nat.zero_le _, Nat.zero_le _⟩ (fun H locs hP hS => ?_)
        obtain ⟨r28, ejK29, hf⟩ := ob1_e hf
        have K29 : ∀ (H : Heap) (locs : List Loc) (ls : Array Slot), HW X (ua w a r28) H → va_S (xF b0) s.heap H locs → lv_has ls 2 [(0, .ref (xa X ca)), (1, .int x2)] → W p l e R s m args below meth c H locs 0 0 Q (F0 m 74 ls []) := by
          intro H locs ls hP hS hl
          obtain ⟨x48, ex48⟩ : ∃ y : Int32, y = x2 + 1 := ⟨_, rfl⟩
          replace hf := ltn_s ex48 hf
          refine lv_iinc (v := x48) (lv' := [(1, .int x48), (0, .ref (xa X ca))]) hx hb dX9_age_74 hl (k := 1) rfl (by rw [ex48]; rfl) (by decide) rfl (fun ls hl => ?_)
          refine lv_goto (tgt := 2) hx hb dX9_age_77 (by decide) ?_
          exact ih x48 r28 or4 _ _ _ hf hP hS (lv_sub hl [1, 0] rfl) K
        clear hf
        refine lv_if_ne (tgt := 74) hx hb dX9_age_15 (by decide) (fun h9 => ?_) (fun h9 => ?_)
        · rw [if_neg h9] at ejK29
          have ejK29 := Option.some.inj ejK29
          obtain rfl := ejK29
          exact K29 _ _ _ hP hS (lv_sub hl [0, 1] rfl)
        · rw [if_pos h9] at ejK29
          refine lv_aload_n hx hb dX9_age_18 rfl (lv_at hl 0 rfl) ?_
          refine lv_iload_n hx hb dX9_age_19 rfl (lv_at hl 1 rfl) ?_
          refine lv_iconst (v := 3) hx hb dX9_age_20 (by decide) ?_
          refine lv_aload_n hx hb dX9_age_21 rfl (lv_at hl 0 rfl) ?_
          refine lv_iload_n hx hb dX9_age_22 rfl (lv_at hl 1 rfl) ?_
          refine lv_iconst (v := 3) hx hb dX9_age_23 (by decide) ?_
          obtain ⟨x30, hc31, ejK29⟩ := ob1_e ejK29
          refine w_csi ⟨hx, hb, hml, hown, hts⟩ hP hK hS (k9_of l hX hA w hc31) hc_42 rfl hl.1 rfl (Nat.le_of_ble_eq_true rfl) dX9_age_24 ⟨Nat.zero_le _, Nat.zero_le _⟩ (fun H locs hP hS => ?_)
          refine lv_iconst (v := 1) hx hb dX9_age_27 (by decide) ?_
          refine lv_iadd hx hb dX9_age_28 ?_
          obtain ⟨r32, hc33, ejK29⟩ := ob1_e ejK29
          refine w_csv ⟨hx, hb, hml, hown, hts⟩ hP hK hS (k9_put l hX hA w hc33) hc_57 rfl hl.1 rfl (Nat.le_of_ble_eq_true rfl) dX9_age_29 ⟨Nat.zero_le _, Nat.zero_le _⟩ (fun H locs hP hS => ?_)
          refine lv_aload_n hx hb dX9_age_32 rfl (lv_at hl 0 rfl) ?_
          refine lv_iload_n hx hb dX9_age_33 rfl (lv_at hl 1 rfl) ?_
          refine lv_iconst (v := 3) hx hb dX9_age_34 (by decide) ?_
          obtain ⟨x34, hc35, ejK29⟩ := ob1_e ejK29
          refine w_csi ⟨hx, hb, hml, hown, hts⟩ hP hK hS (k9_of l hX hA w hc35) hc_42 rfl hl.1 rfl (Nat.le_of_ble_eq_true rfl) dX9_age_35 ⟨Nat.zero_le _, Nat.zero_le _⟩ (fun H locs hP hS => ?_)
          refine lv_aload_n hx hb dX9_age_38 rfl (lv_at hl 0 rfl) ?_
          refine lv_iload_n hx hb dX9_age_39 rfl (lv_at hl 1 rfl) ?_
          refine lv_iconst (v := 3) hx hb dX9_age_40 (by decide) ?_
          obtain ⟨x36, hc37, ejK29⟩ := ob1_e ejK29
          refine w_csi ⟨hx, hb, hml, hown, hts⟩ hP hK hS (k9_byKind l hX hA w hc37) hc_61 rfl hl.1 rfl (Nat.le_of_ble_eq_true rfl) dX9_age_41 ⟨Nat.zero_le _, Nat.zero_le _⟩ (fun H locs hP hS => ?_)
          refine lv_aload_n hx hb dX9_age_44 rfl (lv_at hl 0 rfl) ?_
          refine lv_iload_n hx hb dX9_age_45 rfl (lv_at hl 1 rfl) ?_
          refine lv_iconst (v := 4) hx hb dX9_age_46 (by decide) ?_
          obtain ⟨x38, hc39, ejK29⟩ := ob1_e ejK29
          refine w_csi ⟨hx, hb, hml, hown, hts⟩ hP hK hS (k9_byKind l hX hA w hc39) hc_61 rfl hl.1 rfl (Nat.le_of_ble_eq_true rfl) dX9_age_47 ⟨Nat.zero_le _, Nat.zero_le _⟩ (fun H locs hP hS => ?_)
          refine lv_iadd hx hb dX9_age_50 ?_
          refine lv_icmp_le (tgt := 74) hx hb dX9_age_51 (by decide) (fun h40 => ?_) (fun h40 => ?_)
          · rw [if_pos h40] at ejK29
            have ejK29 := Option.some.inj ejK29
            obtain rfl := ejK29
            exact K29 _ _ _ hP hS (lv_sub hl [0, 1] rfl)
          · rw [if_neg h40] at ejK29
            refine lv_aload_n hx hb dX9_age_54 rfl (lv_at hl 0 rfl) ?_
            refine lv_iload_n hx hb dX9_age_55 rfl (lv_at hl 1 rfl) ?_
            refine lv_iconst (v := 4) hx hb dX9_age_56 (by decide) ?_
            refine lv_iconst (v := 3) hx hb dX9_age_57 (by decide) ?_
            obtain ⟨r41, hc42, ejK29⟩ := ob1_e ejK29
            refine w_csv ⟨hx, hb, hml, hown, hts⟩ hP hK hS (k9_put l hX hA w hc42) hc_57 rfl hl.1 rfl (Nat.le_of_ble_eq_true rfl) dX9_age_58 ⟨Nat.zero_le _, Nat.zero_le _⟩ (fun H locs hP hS => ?_)
            refine lv_aload_n hx hb dX9_age_61 rfl (lv_at hl 0 rfl) ?_
            refine lv_iload_n hx hb dX9_age_62 rfl (lv_at hl 1 rfl) ?_
            obtain ⟨r43, hc44, ejK29⟩ := ob1_e ejK29
            refine w_csv ⟨hx, hb, hml, hown, hts⟩ hP hK hS (k9_leaveLine l hX hA w hc44) hc_64 rfl hl.1 rfl (Nat.le_of_ble_eq_true rfl) dX9_age_63 ⟨Nat.zero_le _, Nat.zero_le _⟩ (fun H locs hP hS => ?_)
            refine lv_aload_n hx hb dX9_age_66 rfl (lv_at hl 0 rfl) ?_
            refine lv_bipush (v := 11) hx hb dX9_age_67 (by decide) ?_
            refine lv_dup2_11 hx hb dX9_age_69 rfl rfl ?_
            obtain ⟨hin45, ejK29⟩ := ck_e ejK29
            refine ar_ald (g := r43) hx hb hA ur_s hP hK hin45 dX9_age_70 ?_
            refine lv_iconst (v := 1) hx hb dX9_age_71 (by decide) ?_
            refine lv_iadd hx hb dX9_age_72 ?_
            obtain ⟨hin46, ejK29⟩ := ck_e ejK29
            refine ar_ast (g := r43) hx hb hX hA ur_s (fun z => ua w a z) (fun z => ua_ua) hP hK hS hin46 dX9_age_73 (fun r47 er47 H locs hP hS => ?_)
            replace ejK29 := ltn_s er47 ejK29
            have ejK29 := Option.some.inj ejK29
            obtain rfl := ejK29
            exact K29 _ _ _ hP hS (lv_sub hl [0, 1] rfl)
  obtain ⟨r49, hc50, hf⟩ := ob1_e hf
  refine L2 N 0 r0 r49 _ _ _ hc50 hP hS (lv_sub hl [1, 0] rfl) (fun H locs ls hP hS hl => ?_)
  have hf := Option.some.inj hf
  obtain rfl := hf
  rw [hQ]
  exact w_vret hx hb hr hlocks hP hK hS dX9_age_80 rfl
