abbrev rmX9_tick : Room := { frames := 5, cells := 0, slots := 0, locals := 115 }
set_option maxHeartbeats 4000000 in
set_option maxRecDepth 100000 in
theorem k9_tick (l : Launch) {X : bkX} {b0 : Nat} (hX : XO X b0) {ca a : Nat} (hA : AR X ca a 265) (w : bkW) {N : Nat} {r0 : Nat → Int32} {res9 : Int32} {r9 : Nat → Int32} (hf : m9_tick N r0 = some (res9, r9)) : cI l yX9_tick wsX9_tick rmX9_tick X b0 [.ref (xa X ca)] (ua w a r0) res9 (ua w a r9) := by
  refine Met.ofW (cc := cX9_tick) (maxL := 5) (ret := (some .int)) (by decide) rfl ?_
  intro p e s m args below meth c s₁ B hml hv
  obtain ⟨ha, hP, hK⟩ := hv
  have hx := B.exec
  have hb := B.bytes
  have hr := B.returns
  have hts := atoms_spec (ws := wsX9_tick) B.pre
  have hown : s.vm.findClass RX9 = some m.cls := findClass_of_methodNamed B.named
  have hlocks := B.notSynchronized
  obtain ⟨R, hR⟩ : ∃ R, R = (headSpec wsX9_tick rmX9_tick).room := ⟨_, rfl⟩
  rw [← hR]
  have hR1 : R.frames = 5 := by rw [hR]; rfl
  have hR2 : R.locals = 115 := by rw [hR]; rfl
  obtain ⟨Q, hQ⟩ : ∃ Q : State → Prop, Q = MQ below (va_Qi (fun r' (_ : Unit) => r' = res9) (fun _ t => WU X (ua w a r9) t) (xF b0)) args s 0 0 (xF b0) := ⟨_, rfl⟩
  rw [← hQ]
  have hS : va_S (xF b0) s.heap s.heap [] := va_S.rf
  have hl := lv_entry ([.ref (xa X ca)]) (n := 5) (Nat.le_of_ble_eq_true rfl)
  refine W.eq ((congrArg (fun z => entryFrame m z 5) ha).trans (lg_entry_eq m _ 5)) ?_
  generalize (lg_sl ([.ref (xa X ca)]) ++ List.replicate (5 - (lg_sl ([.ref (xa X ca)])).length) Slot.unset).toArray = ls at hl ⊢
  have hl : lv_has ls 5 [(0, .ref (xa X ca))] := hl
  have hc_87 := (cwS 1 hts gX9_tick_X9_age rfl rfl rfl (by decide +kernel) ⟨by rw [hR1]; exact Nat.le_of_ble_eq_true rfl, by rw [hR2]; exact Nat.le_of_ble_eq_true rfl⟩ : CallB R s args RX9 87 yX9_age cX9_age 2 none wsX9_age rmX9_age 0 0 1 ∧ (Cond.static yX9_age).before args s = true)
  have hc_91 := (cwS 1 hts gX9_tick_X9_lookAlong rfl rfl rfl (by decide +kernel) ⟨by rw [hR1]; exact Nat.le_of_ble_eq_true rfl, by rw [hR2]; exact Nat.le_of_ble_eq_true rfl⟩ : CallB R s args RX9 91 yX9_lookAlong cX9_lookAlong 5 (some .int) wsX9_lookAlong rmX9_lookAlong 0 0 1 ∧ (Cond.static yX9_lookAlong).before args s = true)
  have hc_95 := (cwS 1 hts gX9_tick_X9_warm rfl rfl rfl (by decide +kernel) ⟨by rw [hR1]; exact Nat.le_of_ble_eq_true rfl, by rw [hR2]; exact Nat.le_of_ble_eq_true rfl⟩ : CallB R s args RX9 95 yX9_warm cX9_warm 3 none wsX9_warm rmX9_warm 0 0 1 ∧ (Cond.static yX9_warm).before args s = true)
  have hc_98 := (cwS 2 hts gX9_tick_X9_isBaked rfl rfl rfl (by decide +kernel) ⟨by rw [hR1]; exact Nat.le_of_ble_eq_true rfl, by rw [hR2]; exact Nat.le_of_ble_eq_true rfl⟩ : CallB R s args RX9 98 yX9_isBaked cX9_isBaked 4 (some .boolean) wsX9_isBaked rmX9_isBaked 0 0 2 ∧ (Cond.static yX9_isBaked).before args s = true)
  have hc_102 := (cwS 2 hts gX9_tick_X9_takeOut rfl rfl rfl (by decide +kernel) ⟨by rw [hR1]; exact Nat.le_of_ble_eq_true rfl, by rw [hR2]; exact Nat.le_of_ble_eq_true rfl⟩ : CallB R s args RX9 102 yX9_takeOut cX9_takeOut 4 none wsX9_takeOut rmX9_takeOut 0 0 2 ∧ (Cond.static yX9_takeOut).before args s = true)
  unfold m9_tick at hf
  refine lv_aload_n hx hb dX9_tick_0 rfl (lv_at hl 0 rfl) ?_
  obtain ⟨r1, hc2, hf⟩ := ob1_e hf
  refine w_csv ⟨hx, hb, hml, hown, hts⟩ hP hK hS (k9_age l hX hA w hc2) hc_87 rfl hl.1 rfl (Nat.le_of_ble_eq_true rfl) dX9_tick_1 ⟨Nat.zero_le _, Nat.zero_le _⟩ (fun H locs hP hS => ?_)
  refine lv_aload_n hx hb dX9_tick_4 rfl (lv_at hl 0 rfl) ?_
  refine lv_bipush (v := 9) hx hb dX9_tick_5 (by decide) ?_
  obtain ⟨hin3, hf⟩ := ck_e hf
  refine ar_ald (g := r1) hx hb hA ur_s hP hK hin3 dX9_tick_7 ?_
  refine lv_topi (fun x4 ex4 => ?_)
  replace hf := ltn_s ex4 hf
  refine lv_istore_n (lv' := [(1, .int x4), (0, .ref (xa X ca))]) hx hb dX9_tick_8 rfl hl (by decide) rfl (fun ls hl => ?_)
  refine lv_aload_n hx hb dX9_tick_9 rfl (lv_at hl 1 rfl) ?_
  obtain ⟨x5, r6, hc7, hf⟩ := ob2_e hf
  refine w_csi ⟨hx, hb, hml, hown, hts⟩ hP hK hS (k9_lookAlong l hX hA w hc7) hc_91 rfl hl.1 rfl (Nat.le_of_ble_eq_true rfl) dX9_tick_10 ⟨Nat.zero_le _, Nat.zero_le _⟩ (fun H locs hP hS => ?_)
  refine lv_istore_n (lv' := [(2, .int x5), (1, .int x4), (0, .ref (xa X ca))]) hx hb dX9_tick_13 rfl hl (by decide) rfl (fun ls hl => ?_)
  refine lv_aload_n hx hb dX9_tick_14 rfl (lv_at hl 2 rfl) ?_
  obtain ⟨r8, hc9, hf⟩ := ob1_e hf
  refine w_csv ⟨hx, hb, hml, hown, hts⟩ hP hK hS (k9_warm l hX hA w hc9) hc_95 rfl hl.1 rfl (Nat.le_of_ble_eq_true rfl) dX9_tick_15 ⟨Nat.zero_le _, Nat.zero_le _⟩ (fun H locs hP hS => ?_)
  refine lv_iconst (v := 0) hx hb dX9_tick_18 (by decide) ?_
  refine lv_istore_n (lv' := [(3, .int 0), (2, .int x5), (1, .int x4), (0, .ref (xa X ca))]) hx hb dX9_tick_19 rfl hl (by decide) rfl (fun ls hl => ?_)
  refine lv_iconst (v := 0) hx hb dX9_tick_20 (by decide) ?_
  refine lv_istore (lv' := [(4, .int 0), (3, .int 0), (2, .int x5), (1, .int x4), (0, .ref (xa X ca))]) hx hb dX9_tick_21 hl (by decide) rfl (fun ls hl => ?_)
  have L23 : ∀ (n : Nat) (x11 : Int32) (x12 : Int32) (x13 : Int32) (x14 : Int32) (r15 : Nat → Int32) (o16 : Int32) (or17 : Nat → Int32) (H : Heap) (locs : List Loc) (ls : Array Slot), m9_tick_L23 N n x11 x12 x13 x14 r15 = some (o16, or17) → HW X (ua w a r15) H → va_S (xF b0) s.heap H locs → lv_has ls 5 [(0, .ref (xa X ca)), (1, .int x11), (2, .int x12), (3, .int x13), (4, .int x14)] → (∀ (H1 : Heap) (locs1 : List Loc) (ls1 : Array Slot), HW X (ua w a or17) H1 → va_S (xF b0) s.heap H1 locs1 → lv_has ls1 5 [(0, .ref (xa X ca)), (1, .int x11), (2, .int x12), (3, .int o16)] → W p l e R s m args below meth c H1 locs1 0 0 Q (F0 m 55 ls1 [])) → W p l e R s m args below meth c H locs 0 0 Q (F0 m 23 ls []) := by
    intro n; induction n with
    | zero => intro x11 x12 x13 x14 r15 o16 or17 H locs ls hf; rw [m9_tick_L23] at hf; cases hf
    | succ n ih =>
      intro x11 x12 x13 x14 r15 o16 or17 H locs ls hf hP hS hl K
      rw [m9_tick_L23] at hf
      refine lv_iload hx hb dX9_tick_23 (lv_at hl 4 rfl) ?_
      refine lv_aload_n hx hb dX9_tick_25 rfl (lv_at hl 0 rfl) ?_
      refine lv_iconst (v := 4) hx hb dX9_tick_26 (by decide) ?_
      obtain ⟨hin18, hf⟩ := ck_e hf
      refine ar_ald (g := r15) hx hb hA ur_s hP hK hin18 dX9_tick_27 ?_
      refine lv_icmp_ge (tgt := 55) hx hb dX9_tick_28 (by decide) (fun h19 => ?_) (fun h19 => ?_)
      · rw [if_pos h19] at hf
        have hf := Option.some.inj hf
        simp only [Prod.mk.injEq] at hf
        obtain ⟨rfl, rfl⟩ := hf
        exact K _ _ _ hP hS (lv_sub hl [0, 1, 2, 3] rfl)
      · rw [if_neg h19] at hf
        refine lv_aload_n hx hb dX9_tick_31 rfl (lv_at hl 0 rfl) ?_
        refine lv_iload hx hb dX9_tick_32 (lv_at hl 4 rfl) ?_
        obtain ⟨x20, hc21, hf⟩ := ob1_e hf
        refine w_csi ⟨hx, hb, hml, hown, hts⟩ hP hK hS (k9_isBaked l hX hA w hc21) hc_98 rfl hl.1 rfl (Nat.le_of_ble_eq_true rfl) dX9_tick_34 ⟨Nat.zero_le _, Nat.zero_le _⟩ (fun H locs hP hS => ?_)
        obtain ⟨x26, r27, ejK28, hf⟩ := ob2_e hf
        have K28 : ∀ (H : Heap) (locs : List Loc) (ls : Array Slot), HW X (ua w a r27) H → va_S (xF b0) s.heap H locs → lv_has ls 5 [(0, .ref (xa X ca)), (1, .int x11), (2, .int x12), (3, .int x26), (4, .int x14)] → W p l e R s m args below meth c H locs 0 0 Q (F0 m 49 ls []) := by
          intro H locs ls hP hS hl
          obtain ⟨x32, ex32⟩ : ∃ y : Int32, y = x14 + 1 := ⟨_, rfl⟩
          replace hf := ltn_s ex32 hf
          refine lv_iinc (v := x32) (lv' := [(4, .int x32), (0, .ref (xa X ca)), (1, .int x11), (2, .int x12), (3, .int x26)]) hx hb dX9_tick_49 hl (k := 4) rfl (by rw [ex32]; rfl) (by decide) rfl (fun ls hl => ?_)
          refine lv_goto (tgt := 23) hx hb dX9_tick_52 (by decide) ?_
          exact ih x11 x12 x26 x32 r27 o16 or17 _ _ _ hf hP hS (lv_sub hl [1, 2, 3, 4, 0] rfl) K
        clear hf
        refine lv_if_eq (tgt := 49) hx hb dX9_tick_37 (by decide) (fun h22 => ?_) (fun h22 => ?_)
        · rw [if_pos h22] at ejK28
          have ejK28 := Option.some.inj ejK28
          simp only [Prod.mk.injEq] at ejK28
          obtain ⟨rfl, rfl⟩ := ejK28
          exact K28 _ _ _ hP hS (lv_sub hl [0, 1, 2, 3, 4] rfl)
        · rw [if_neg h22] at ejK28
          refine lv_aload_n hx hb dX9_tick_40 rfl (lv_at hl 0 rfl) ?_
          refine lv_iload hx hb dX9_tick_41 (lv_at hl 4 rfl) ?_
          obtain ⟨r29, hc30, ejK28⟩ := ob1_e ejK28
          refine w_csv ⟨hx, hb, hml, hown, hts⟩ hP hK hS (k9_takeOut l hX hA w hc30) hc_102 rfl hl.1 rfl (Nat.le_of_ble_eq_true rfl) dX9_tick_43 ⟨Nat.zero_le _, Nat.zero_le _⟩ (fun H locs hP hS => ?_)
          obtain ⟨x31, ex31⟩ : ∃ y : Int32, y = x13 + 1 := ⟨_, rfl⟩
          replace ejK28 := ltn_s ex31 ejK28
          refine lv_iinc (v := x31) (lv' := [(3, .int x31), (0, .ref (xa X ca)), (1, .int x11), (2, .int x12), (4, .int x14)]) hx hb dX9_tick_46 hl (k := 3) rfl (by rw [ex31]; rfl) (by decide) rfl (fun ls hl => ?_)
          have ejK28 := Option.some.inj ejK28
          simp only [Prod.mk.injEq] at ejK28
          obtain ⟨rfl, rfl⟩ := ejK28
          exact K28 _ _ _ hP hS (lv_sub hl [1, 2, 3, 0, 4] rfl)
  obtain ⟨x33, r34, hc35, hf⟩ := ob2_e hf
  refine L23 N x4 x5 0 0 r8 x33 r34 _ _ _ hc35 hP hS (lv_sub hl [4, 3, 2, 1, 0] rfl) (fun H locs ls hP hS hl => ?_)
  refine lv_aload_n hx hb dX9_tick_55 rfl (lv_at hl 0 rfl) ?_
  refine lv_iconst (v := 0) hx hb dX9_tick_56 (by decide) ?_
  refine lv_dup2_11 hx hb dX9_tick_57 rfl rfl ?_
  obtain ⟨hin36, hf⟩ := ck_e hf
  refine ar_ald (g := r34) hx hb hA ur_s hP hK hin36 dX9_tick_58 ?_
  refine lv_iconst (v := 2) hx hb dX9_tick_59 (by decide) ?_
  refine lv_iconst (v := 4) hx hb dX9_tick_60 (by decide) ?_
  refine lv_aload_n hx hb dX9_tick_61 rfl (lv_at hl 0 rfl) ?_
  refine lv_bipush (v := 9) hx hb dX9_tick_62 (by decide) ?_
  obtain ⟨hin37, hf⟩ := ck_e hf
  refine ar_ald (g := r34) hx hb hA ur_s hP hK hin37 dX9_tick_64 ?_
  refine lv_iload_n hx hb dX9_tick_65 rfl (lv_at hl 1 rfl) ?_
  refine lv_isub hx hb dX9_tick_66 ?_
  refine lv_imul hx hb dX9_tick_67 ?_
  refine lv_iadd hx hb dX9_tick_68 ?_
  refine lv_iload_n hx hb dX9_tick_69 rfl (lv_at hl 2 rfl) ?_
  refine lv_iconst (v := 2) hx hb dX9_tick_70 (by decide) ?_
  refine lv_idiv hx hb dX9_tick_71 (by decide) ?_
  refine lv_iadd hx hb dX9_tick_72 ?_
  refine lv_isub hx hb dX9_tick_73 ?_
  obtain ⟨hin38, hf⟩ := ck_e hf
  refine ar_ast (g := r34) hx hb hX hA ur_s (fun z => ua w a z) (fun z => ua_ua) hP hK hS hin38 dX9_tick_74 (fun r39 er39 H locs hP hS => ?_)
  replace hf := ltn_s er39 hf
  refine lv_aload_n hx hb dX9_tick_75 rfl (lv_at hl 0 rfl) ?_
  refine lv_iconst (v := 0) hx hb dX9_tick_76 (by decide) ?_
  refine lv_aload_n hx hb dX9_tick_77 rfl (lv_at hl 0 rfl) ?_
  refine lv_iconst (v := 0) hx hb dX9_tick_78 (by decide) ?_
  obtain ⟨hin40, hf⟩ := ck_e hf
  refine ar_ald (g := r39) hx hb hA ur_s hP hK hin40 dX9_tick_79 ?_
  obtain ⟨x43, ejK44, hf⟩ := ob1_e hf
  have K44 : ∀ (H : Heap) (locs : List Loc) (ls : Array Slot), HW X (ua w a r39) H → va_S (xF b0) s.heap H locs → lv_has ls 5 [(0, .ref (xa X ca)), (3, .int x33)] → W p l e R s m args below meth c H locs 0 0 Q (F0 m 90 ls [.int x43, .int 0, .ref (xa X ca)]) := by
    intro H locs ls hP hS hl
    obtain ⟨hin46, hf⟩ := ck_e hf
    refine ar_ast (g := r39) hx hb hX hA ur_s (fun z => ua w a z) (fun z => ua_ua) hP hK hS hin46 dX9_tick_90 (fun r47 er47 H locs hP hS => ?_)
    replace hf := ltn_s er47 hf
    refine lv_aload_n hx hb dX9_tick_91 rfl (lv_at hl 0 rfl) ?_
    refine lv_iconst (v := 1) hx hb dX9_tick_92 (by decide) ?_
    refine lv_dup2_11 hx hb dX9_tick_93 rfl rfl ?_
    obtain ⟨hin48, hf⟩ := ck_e hf
    refine ar_ald (g := r47) hx hb hA ur_s hP hK hin48 dX9_tick_94 ?_
    refine lv_iconst (v := 1) hx hb dX9_tick_95 (by decide) ?_
    refine lv_iadd hx hb dX9_tick_96 ?_
    obtain ⟨hin49, hf⟩ := ck_e hf
    refine ar_ast (g := r47) hx hb hX hA ur_s (fun z => ua w a z) (fun z => ua_ua) hP hK hS hin49 dX9_tick_97 (fun r50 er50 H locs hP hS => ?_)
    replace hf := ltn_s er50 hf
    refine lv_iload_n hx hb dX9_tick_98 rfl (lv_at hl 1 rfl) ?_
    have hf := Option.some.inj hf
    simp only [Prod.mk.injEq] at hf
    obtain ⟨rfl, rfl⟩ := hf
    rw [hQ]
    exact w_iret hx hb hr hlocks hP hK hS dX9_tick_99 rfl rfl
  clear hf
  refine lv_if_ge (tgt := 87) hx hb dX9_tick_80 (by decide) (fun h41 => ?_) (fun h41 => ?_)
  · rw [if_pos h41] at ejK44
    refine lv_aload_n hx hb dX9_tick_87 rfl (lv_at hl 0 rfl) ?_
    refine lv_iconst (v := 0) hx hb dX9_tick_88 (by decide) ?_
    obtain ⟨hin45, ejK44⟩ := ck_e ejK44
    refine ar_ald (g := r39) hx hb hA ur_s hP hK hin45 dX9_tick_89 ?_
    have ejK44 := Option.some.inj ejK44
    obtain rfl := ejK44
    exact K44 _ _ _ hP hS (lv_sub hl [0, 3] rfl)
  · rw [if_neg h41] at ejK44
    refine lv_iconst (v := 0) hx hb dX9_tick_83 (by decide) ?_
    refine lv_goto (tgt := 90) hx hb dX9_tick_84 (by decide) ?_
    have ejK44 := Option.some.inj ejK44
    obtain rfl := ejK44
    exact K44 _ _ _ hP hS (lv_sub hl [0, 3] rfl)
