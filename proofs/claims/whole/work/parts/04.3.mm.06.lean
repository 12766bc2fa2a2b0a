abbrev rmX9_check : Room := { frames := 5, cells := 0, slots := 0, locals := 115 }
theorem iX9_check_X9 : ∀ w ∈ wsX90, w ∈ wsX9_check := by decide +kernel
set_option maxHeartbeats 4000000 in
set_option maxRecDepth 100000 in
theorem k9_check (l : Launch) {X : bkX} {b0 : Nat} (hX : XO X b0) (w : bkW) {N : Nat} {s0 : Nat → Int32} {u0 : Nat → Int32} {sv0 : Nat → Int32} {tx0 : Nat → Int32} {ow0 : Nat → Int32} {rs0 : Nat → Int64} {rn0 : Nat → Int32} {nu0 : Nat → Int32} {q0 : Nat → Int32} {nu9 : Nat → Int32} {q9 : Nat → Int32} (hf : m9_check N tx0 nu0 q0 = some (nu9, q9)) : cV l yX9_check wsX9_check rmX9_check X b0 [.ref (xa X 314)] (pmm w s0 u0 sv0 tx0 ow0 rs0 rn0 nu0 q0) (pmm w s0 u0 sv0 tx0 ow0 rs0 rn0 nu9 q9) := by
  refine Met.ofW (cc := cX9_check) (maxL := 2) (ret := none) (by decide) rfl ?_
  intro p e s m args below meth c s₁ B hml hv
  obtain ⟨ha, hP, hK⟩ := hv
  have hx := B.exec
  have hb := B.bytes
  have hr := B.returns
  have hts := atoms_spec (ws := wsX9_check) B.pre
  have hown : s.vm.findClass RX9 = some m.cls := findClass_of_methodNamed B.named
  have hlocks := B.notSynchronized
  obtain ⟨R, hR⟩ : ∃ R, R = (headSpec wsX9_check rmX9_check).room := ⟨_, rfl⟩
  rw [← hR]
  have hR1 : R.frames = 5 := by rw [hR]; rfl
  have hR2 : R.locals = 115 := by rw [hR]; rfl
  obtain ⟨Q, hQ⟩ : ∃ Q : State → Prop, Q = MQ below (va_Qv (fun (_ : Unit) => True) (fun _ t => WU X (pmm w s0 u0 sv0 tx0 ow0 rs0 rn0 nu9 q9) t) (xF b0)) args s 0 0 (xF b0) := ⟨_, rfl⟩
  rw [← hQ]
  have hS : va_S (xF b0) s.heap s.heap [] := va_S.rf
  have hl := lv_entry ([.ref (xa X 314)]) (n := 2) (Nat.le_of_ble_eq_true rfl)
  refine W.eq ((congrArg (fun z => entryFrame m z 2) ha).trans (lg_entry_eq m _ 2)) ?_
  generalize (lg_sl ([.ref (xa X 314)]) ++ List.replicate (2 - (lg_sl ([.ref (xa X 314)])).length) Slot.unset).toArray = ls at hl ⊢
  have hl : lv_has ls 2 [(0, .ref (xa X 314))] := hl
  have hk_f220 := hts (.fieldLink RX9 220 "BakeTurnsModel" "next" "I") (by decide +kernel)
  have hk_f233 := hts (.fieldLink RX9 233 "BakeTurnsModel" "fault" "I") (by decide +kernel)
  have hc_247 := (cwV 0 hts gX9_check_X9_skip rfl rfl rfl (by decide +kernel) ⟨by rw [hR1]; exact Nat.le_of_ble_eq_true rfl, by rw [hR2]; exact Nat.le_of_ble_eq_true rfl⟩ : CallW R s args RX9 RX9 247 yX9_skip cX9_skip 1 none wsX9_skip rmX9_skip 0 0 0)
  have hk_f198 := hts (.fieldLink RX9 198 "BakeTurnsModel" "length" "I") (by decide +kernel)
  have hc_262 := (cwV 0 hts gX9_check_X9_readCommand rfl rfl rfl (by decide +kernel) ⟨by rw [hR1]; exact Nat.le_of_ble_eq_true rfl, by rw [hR2]; exact Nat.le_of_ble_eq_true rfl⟩ : CallW R s args RX9 RX9 262 yX9_readCommand cX9_readCommand 3 (some .int) wsX9_readCommand rmX9_readCommand 0 0 0)
  unfold m9_check at hf
  refine lv_aload_n hx hb dX9_check_0 rfl (lv_at hl 0 rfl) ?_
  refine lv_iconst (v := 0) hx hb dX9_check_1 (by decide) ?_
  refine mm_put hx hb hts iX9_check_X9 hown hX hP hK hS 10 (by decide) hk_f220 rfl rfl (Nat.le_of_ble_eq_true rfl) (mm_es3 _) dX9_check_2 (fun q1 eq1 H locs hP hS => ?_)
  replace hf := ltn_s eq1 hf
  refine lv_aload_n hx hb dX9_check_5 rfl (lv_at hl 0 rfl) ?_
  refine lv_iconst (v := (-1)) hx hb dX9_check_6 (by decide) ?_
  refine mm_put hx hb hts iX9_check_X9 hown hX hP hK hS 11 (by decide) hk_f233 rfl rfl (Nat.le_of_ble_eq_true rfl) (mm_es4 _) dX9_check_7 (fun q2 eq2 H locs hP hS => ?_)
  replace hf := ltn_s eq2 hf
  refine lv_aload_n hx hb dX9_check_10 rfl (lv_at hl 0 rfl) ?_
  obtain ⟨q3, hc4, hf⟩ := ob1_e hf
  refine w_cv ⟨hx, hb, hml, hown, hts⟩ hP hK hS (k9_skip l hX w hc4) hc_247 (w_recv hP hK (by decide) emb_mm rfl) rfl hl.1 rfl (Nat.le_of_ble_eq_true rfl) dX9_check_11 ⟨Nat.zero_le _, Nat.zero_le _⟩ (fun H locs hP hS => ?_)
  have L14 : ∀ (n : Nat)  (nu6 : Nat → Int32) (q7 : Nat → Int32) (onu8 : Nat → Int32) (oq9 : Nat → Int32) (H : Heap) (locs : List Loc) (ls : Array Slot), m9_check_L14 N n tx0 nu6 q7 = some (onu8, oq9) → HW X (pmm w s0 u0 sv0 tx0 ow0 rs0 rn0 nu6 q7) H → va_S (xF b0) s.heap H locs → lv_has ls 2 [(0, .ref (xa X 314))] → (∀ (H1 : Heap) (locs1 : List Loc) (ls1 : Array Slot), HW X (pmm w s0 u0 sv0 tx0 ow0 rs0 rn0 onu8 oq9) H1 → va_S (xF b0) s.heap H1 locs1 → lv_has ls1 2 [] → W p l e R s m args below meth c H1 locs1 0 0 Q (F0 m 40 ls1 [])) → W p l e R s m args below meth c H locs 0 0 Q (F0 m 14 ls []) := by
    intro n; induction n with
    | zero => intro nu6 q7 onu8 oq9 H locs ls hf; rw [m9_check_L14] at hf; cases hf
    | succ n ih =>
      intro nu6 q7 onu8 oq9 H locs ls hf hP hS hl K
      rw [m9_check_L14] at hf
      refine lv_aload_n hx hb dX9_check_14 rfl (lv_at hl 0 rfl) ?_
      refine w_get hx hb hts iX9_check_X9 hown hP hK (by decide) emb_mm rfl 11 (by decide) hk_f233 rfl dX9_check_15 ?_
      refine lv_if_ge (tgt := 40) hx hb dX9_check_18 (by decide) (fun h10 => ?_) (fun h10 => ?_)
      · rw [if_pos h10] at hf
        have hf := Option.some.inj hf
        simp only [Prod.mk.injEq] at hf
        obtain ⟨rfl, rfl⟩ := hf
        exact K _ _ _ hP hS (lv_sub hl [] rfl)
      · rw [if_neg h10] at hf
        refine lv_aload_n hx hb dX9_check_21 rfl (lv_at hl 0 rfl) ?_
        refine w_get hx hb hts iX9_check_X9 hown hP hK (by decide) emb_mm rfl 10 (by decide) hk_f220 rfl dX9_check_22 ?_
        refine lv_aload_n hx hb dX9_check_25 rfl (lv_at hl 0 rfl) ?_
        refine w_get hx hb hts iX9_check_X9 hown hP hK (by decide) emb_mm rfl 6 (by decide) hk_f198 rfl dX9_check_26 ?_
        refine lv_icmp_ge (tgt := 40) hx hb dX9_check_29 (by decide) (fun h11 => ?_) (fun h11 => ?_)
        · rw [if_pos h11] at hf
          have hf := Option.some.inj hf
          simp only [Prod.mk.injEq] at hf
          obtain ⟨rfl, rfl⟩ := hf
          exact K _ _ _ hP hS (lv_sub hl [] rfl)
        · rw [if_neg h11] at hf
          refine lv_aload_n hx hb dX9_check_32 rfl (lv_at hl 0 rfl) ?_
          obtain ⟨x12, nu13, q14, hc15, hf⟩ := ob3_e hf
          refine w_ci ⟨hx, hb, hml, hown, hts⟩ hP hK hS (k9_readCommand l hX w hc15) hc_262 (w_recv hP hK (by decide) emb_mm rfl) rfl hl.1 rfl (Nat.le_of_ble_eq_true rfl) dX9_check_33 ⟨Nat.zero_le _, Nat.zero_le _⟩ (fun H locs hP hS => ?_)
          refine lv_istore_n (lv' := [(1, .int x12), (0, .ref (xa X 314))]) hx hb dX9_check_36 rfl hl (by decide) rfl (fun ls hl => ?_)
          refine lv_goto (tgt := 14) hx hb dX9_check_37 (by decide) ?_
          exact ih nu13 q14 onu8 oq9 _ _ _ hf hP hS (lv_sub hl [1] rfl) K
  obtain ⟨nu16, q17, hc18, hf⟩ := ob2_e hf
  refine L14 N nu0 q3 nu16 q17 _ _ _ hc18 hP hS (lv_sub hl [0] rfl) (fun H locs ls hP hS hl => ?_)
  have hf := Option.some.inj hf
  simp only [Prod.mk.injEq] at hf
  obtain ⟨rfl, rfl⟩ := hf
  rw [hQ]
  exact w_vret hx hb hr hlocks hP hK hS dX9_check_40 rfl
abbrev rmX9_carryOut : Room := { frames := 7, cells := 0, slots := 0, locals := 162 }
theorem iX9_carryOut_X9 : ∀ w ∈ wsX90, w ∈ wsX9_carryOut := by decide +kernel
set_option maxHeartbeats 4000000 in
set_option maxRecDepth 100000 in
theorem k9_carryOut (l : Launch) {X : bkX} {b0 : Nat} (hX : XO X b0) (w : bkW) {N : Nat} {s0 : Nat → Int32} {u0 : Nat → Int32} {sv0 : Nat → Int32} {tx0 : Nat → Int32} {ow0 : Nat → Int32} {rs0 : Nat → Int64} {rn0 : Nat → Int32} {nu0 : Nat → Int32} {q0 : Nat → Int32} {a1 : Int32} {res9 : Int32} {s9 : Nat → Int32} {ow9 : Nat → Int32} {rs9 : Nat → Int64} (hf : m9_carryOut N s0 ow0 rs0 nu0 a1 = some (res9, s9, ow9, rs9)) : cI l yX9_carryOut wsX9_carryOut rmX9_carryOut X b0 [.ref (xa X 314), .int a1] (pmm w s0 u0 sv0 tx0 ow0 rs0 rn0 nu0 q0) res9 (pmm w s9 u0 sv0 tx0 ow9 rs9 rn0 nu0 q0) := by
  refine Met.ofW (cc := cX9_carryOut) (maxL := 7) (ret := (some .boolean)) (by decide) rfl ?_
  intro p e s m args below meth c s₁ B hml hv
  obtain ⟨ha, hP, hK⟩ := hv
  have hx := B.exec
  have hb := B.bytes
  have hr := B.returns
  have hts := atoms_spec (ws := wsX9_carryOut) B.pre
  have hown : s.vm.findClass RX9 = some m.cls := findClass_of_methodNamed B.named
  have hlocks := B.notSynchronized
  obtain ⟨R, hR⟩ : ∃ R, R = (headSpec wsX9_carryOut rmX9_carryOut).room := ⟨_, rfl⟩
  rw [← hR]
  have hR1 : R.frames = 7 := by rw [hR]; rfl
  have hR2 : R.locals = 162 := by rw [hR]; rfl
  obtain ⟨Q, hQ⟩ : ∃ Q : State → Prop, Q = MQ below (va_Qi (fun r' (_ : Unit) => r' = res9) (fun _ t => WU X (pmm w s9 u0 sv0 tx0 ow9 rs9 rn0 nu0 q0) t) (xF b0)) args s 0 0 (xF b0) := ⟨_, rfl⟩
  rw [← hQ]
  have hS : va_S (xF b0) s.heap s.heap [] := va_S.rf
  have hl := lv_entry ([.ref (xa X 314), .int a1]) (n := 7) (Nat.le_of_ble_eq_true rfl)
  refine W.eq ((congrArg (fun z => entryFrame m z 7) ha).trans (lg_entry_eq m _ 7)) ?_
  generalize (lg_sl ([.ref (xa X 314), .int a1]) ++ List.replicate (7 - (lg_sl ([.ref (xa X 314), .int a1])).length) Slot.unset).toArray = ls at hl ⊢
  have hl : lv_has ls 7 [(0, .ref (xa X 314)), (1, .int a1)] := hl
  have hk_f32 := hts (.fieldLink RX9 32 "BakeTurnsModel" "numbers" "[I") (by decide +kernel)
  have hc_108 := (cwV 5 hts gX9_carryOut_X9_kindCode rfl rfl rfl (by decide +kernel) ⟨by rw [hR1]; exact Nat.le_of_ble_eq_true rfl, by rw [hR2]; exact Nat.le_of_ble_eq_true rfl⟩ : CallW R s args RX9 RX9 108 yX9_kindCode cX9_kindCode 6 (some .int) wsX9_kindCode rmX9_kindCode 0 0 5)
  have hc_115 := (cwV 5 hts gX9_carryOut_X9_addKindNow rfl rfl rfl (by decide +kernel) ⟨by rw [hR1]; exact Nat.le_of_ble_eq_true rfl, by rw [hR2]; exact Nat.le_of_ble_eq_true rfl⟩ : CallW R s args RX9 RX9 115 yX9_addKindNow cX9_addKindNow 7 (some .int) wsX9_addKindNow rmX9_addKindNow 0 0 5)
  have hk_f7 := hts (.fieldLink RX9 7 "BakeTurnsModel" "s" "[I") (by decide +kernel)
  have hc_118 := (cwV 0 hts gX9_carryOut_X9_addHouseNow rfl rfl rfl (by decide +kernel) ⟨by rw [hR1]; exact Nat.le_of_ble_eq_true rfl, by rw [hR2]; exact Nat.le_of_ble_eq_true rfl⟩ : CallW R s args RX9 RX9 118 yX9_addHouseNow cX9_addHouseNow 2 (some .int) wsX9_addHouseNow rmX9_addHouseNow 0 0 0)
  have hc_129 := (cwV 3 hts gX9_carryOut_X9_doughCode rfl rfl rfl (by decide +kernel) ⟨by rw [hR1]; exact Nat.le_of_ble_eq_true rfl, by rw [hR2]; exact Nat.le_of_ble_eq_true rfl⟩ : CallW R s args RX9 RX9 129 yX9_doughCode cX9_doughCode 4 (some .int) wsX9_doughCode rmX9_doughCode 0 0 3)
  have hc_133 := (cwV 3 hts gX9_carryOut_X9_addDoughNow rfl rfl rfl (by decide +kernel) ⟨by rw [hR1]; exact Nat.le_of_ble_eq_true rfl, by rw [hR2]; exact Nat.le_of_ble_eq_true rfl⟩ : CallW R s args RX9 RX9 133 yX9_addDoughNow cX9_addDoughNow 5 (some .int) wsX9_addDoughNow rmX9_addDoughNow 0 0 3)
  have hc_153 := (cwV 2 hts gX9_carryOut_X9_bringCode rfl rfl rfl (by decide +kernel) ⟨by rw [hR1]; exact Nat.le_of_ble_eq_true rfl, by rw [hR2]; exact Nat.le_of_ble_eq_true rfl⟩ : CallW R s args RX9 RX9 153 yX9_bringCode cX9_bringCode 3 (some .int) wsX9_bringCode rmX9_bringCode 0 0 2)
  have hc_156 := (cwV 2 hts gX9_carryOut_X9_bringNow rfl rfl rfl (by decide +kernel) ⟨by rw [hR1]; exact Nat.le_of_ble_eq_true rfl, by rw [hR2]; exact Nat.le_of_ble_eq_true rfl⟩ : CallW R s args RX9 RX9 156 yX9_bringNow cX9_bringNow 3 (some .int) wsX9_bringNow rmX9_bringNow 0 0 2)
  have hc_159 := (cwV 2 hts gX9_carryOut_X9_stokeCode rfl rfl rfl (by decide +kernel) ⟨by rw [hR1]; exact Nat.le_of_ble_eq_true rfl, by rw [hR2]; exact Nat.le_of_ble_eq_true rfl⟩ : CallW R s args RX9 RX9 159 yX9_stokeCode cX9_stokeCode 3 (some .int) wsX9_stokeCode rmX9_stokeCode 0 0 2)
  have hc_162 := (cwV 2 hts gX9_carryOut_X9_stokeNow rfl rfl rfl (by decide +kernel) ⟨by rw [hR1]; exact Nat.le_of_ble_eq_true rfl, by rw [hR2]; exact Nat.le_of_ble_eq_true rfl⟩ : CallW R s args RX9 RX9 162 yX9_stokeNow cX9_stokeNow 3 (some .int) wsX9_stokeNow rmX9_stokeNow 0 0 2)
  have hc_177 := (cwV 1 hts gX9_carryOut_X9_passCode rfl rfl rfl (by decide +kernel) ⟨by rw [hR1]; exact Nat.le_of_ble_eq_true rfl, by rw [hR2]; exact Nat.le_of_ble_eq_true rfl⟩ : CallW R s args RX9 RX9 177 yX9_passCode cX9_passCode 2 (some .int) wsX9_passCode rmX9_passCode 0 0 1)
  have hc_180 := (cwV 1 hts gX9_carryOut_X9_passNow rfl rfl rfl (by decide +kernel) ⟨by rw [hR1]; exact Nat.le_of_ble_eq_true rfl, by rw [hR2]; exact Nat.le_of_ble_eq_true rfl⟩ : CallW R s args RX9 RX9 180 yX9_passNow cX9_passNow 4 (some .int) wsX9_passNow rmX9_passNow 0 0 1)
  have hc_139 := (cwV 2 hts gX9_carryOut_X9_swapCode rfl rfl rfl (by decide +kernel) ⟨by rw [hR1]; exact Nat.le_of_ble_eq_true rfl, by rw [hR2]; exact Nat.le_of_ble_eq_true rfl⟩ : CallW R s args RX9 RX9 139 yX9_swapCode cX9_swapCode 3 (some .int) wsX9_swapCode rmX9_swapCode 0 0 2)
  have hc_143 := (cwV 2 hts gX9_carryOut_X9_swapNow rfl rfl rfl (by decide +kernel) ⟨by rw [hR1]; exact Nat.le_of_ble_eq_true rfl, by rw [hR2]; exact Nat.le_of_ble_eq_true rfl⟩ : CallW R s args RX9 RX9 143 yX9_swapNow cX9_swapNow 5 (some .int) wsX9_swapNow rmX9_swapNow 0 0 2)
  have hc_173 := (cwV 0 hts gX9_carryOut_X9_settleNow rfl rfl rfl (by decide +kernel) ⟨by rw [hR1]; exact Nat.le_of_ble_eq_true rfl, by rw [hR2]; exact Nat.le_of_ble_eq_true rfl⟩ : CallW R s args RX9 RX9 173 yX9_settleNow cX9_settleNow 4 (some .int) wsX9_settleNow rmX9_settleNow 0 0 0)
  unfold m9_carryOut at hf
  refine lv_aload_n hx hb dX9_carryOut_0 rfl (lv_at hl 0 rfl) ?_
  refine w_get hx hb hts iX9_carryOut_X9 hown hP hK (by decide) emb_mm rfl 12 (by decide) hk_f32 rfl dX9_carryOut_1 ?_
  refine lv_iconst (v := 0) hx hb dX9_carryOut_4 (by decide) ?_
  obtain ⟨hin1, hf⟩ := ck_e hf
  refine ar_ald (g := nu0) hx hb AR_nu rfl hP hK hin1 dX9_carryOut_5 ?_
  refine lv_topi (fun x2 ex2 => ?_)
  replace hf := ltn_s ex2 hf
  refine lv_istore_n (lv' := [(2, .int x2), (0, .ref (xa X 314)), (1, .int a1)]) hx hb dX9_carryOut_6 rfl hl (by decide) rfl (fun ls hl => ?_)
  refine lv_aload_n hx hb dX9_carryOut_7 rfl (lv_at hl 1 rfl) ?_
  refine w_get hx hb hts iX9_carryOut_X9 hown hP hK (by decide) emb_mm rfl 12 (by decide) hk_f32 rfl dX9_carryOut_8 ?_
  refine lv_iconst (v := 1) hx hb dX9_carryOut_11 (by decide) ?_
  obtain ⟨hin3, hf⟩ := ck_e hf
  refine ar_ald (g := nu0) hx hb AR_nu rfl hP hK hin3 dX9_carryOut_12 ?_
  refine lv_topi (fun x4 ex4 => ?_)
  replace hf := ltn_s ex4 hf
  refine lv_istore_n (lv' := [(3, .int x4), (2, .int x2), (0, .ref (xa X 314)), (1, .int a1)]) hx hb dX9_carryOut_13 rfl hl (by decide) rfl (fun ls hl => ?_)
  refine lv_aload_n hx hb dX9_carryOut_14 rfl (lv_at hl 2 rfl) ?_
  refine w_get hx hb hts iX9_carryOut_X9 hown hP hK (by decide) emb_mm rfl 12 (by decide) hk_f32 rfl dX9_carryOut_15 ?_
  refine lv_iconst (v := 2) hx hb dX9_carryOut_18 (by decide) ?_
  obtain ⟨hin5, hf⟩ := ck_e hf
  refine ar_ald (g := nu0) hx hb AR_nu rfl hP hK hin5 dX9_carryOut_19 ?_
  refine lv_topi (fun x6 ex6 => ?_)
  replace hf := ltn_s ex6 hf
  refine lv_istore (lv' := [(4, .int x6), (3, .int x4), (2, .int x2), (0, .ref (xa X 314)), (1, .int a1)]) hx hb dX9_carryOut_20 hl (by decide) rfl (fun ls hl => ?_)
  refine lv_iconst (v := 0) hx hb dX9_carryOut_22 (by decide) ?_
  refine lv_istore (lv' := [(6, .int 0), (4, .int x6), (3, .int x4), (2, .int x2), (0, .ref (xa X 314)), (1, .int a1)]) hx hb dX9_carryOut_23 hl (by decide) rfl (fun ls hl => ?_)
  refine lv_iload_n hx hb dX9_carryOut_25 rfl (lv_at hl 5 rfl) ?_
  obtain ⟨x104, s105, ow106, rs107, ejK108, hf⟩ := ob4_e hf
  have K108 : ∀ (H : Heap) (locs : List Loc) (ls : Array Slot), HW X (pmm w s105 u0 sv0 tx0 ow106 rs107 rn0 nu0 q0) H → va_S (xF b0) s.heap H locs → lv_has ls 7 [(5, .int x104)] → W p l e R s m args below meth c H locs 0 0 Q (F0 m 311 ls []) := by
    intro H locs ls hP hS hl
    refine lv_iload hx hb dX9_carryOut_311 (lv_at hl 0 rfl) ?_
    refine lv_if_ne (tgt := 320) hx hb dX9_carryOut_313 (by decide) (fun h206 => ?_) (fun h206 => ?_)
    · rw [if_neg h206] at hf
      refine lv_iconst (v := 0) hx hb dX9_carryOut_320 (by decide) ?_
      have hf := Option.some.inj hf
      simp only [Prod.mk.injEq] at hf
      obtain ⟨rfl, rfl, rfl, rfl⟩ := hf
      rw [hQ]
      exact w_zret hx hb hr hlocks hP hK hS dX9_carryOut_321 (by decide) rfl rfl
    · rw [if_pos h206] at hf
      refine lv_iconst (v := 1) hx hb dX9_carryOut_316 (by decide) ?_
      refine lv_goto (tgt := 321) hx hb dX9_carryOut_317 (by decide) ?_
      have hf := Option.some.inj hf
      simp only [Prod.mk.injEq] at hf
      obtain ⟨rfl, rfl, rfl, rfl⟩ := hf
      rw [hQ]
      exact w_zret hx hb hr hlocks hP hK hS dX9_carryOut_321 (by decide) rfl rfl
  clear hf
  by_cases hsw207 : a1 = 0
  · rw [if_pos hsw207] at ejK108
    refine lv_tableIn (off := 42) (tgt := 68) hx hb dX9_carryOut_26 (by rw [hsw207]; decide) (by rw [hsw207]; decide) (by rw [hsw207]; rfl) (by decide) ?_
    refine lv_aload_n hx hb dX9_carryOut_68 rfl (lv_at hl 4 rfl) ?_
    refine lv_iload_n hx hb dX9_carryOut_69 rfl (lv_at hl 3 rfl) ?_
    refine lv_iload_n hx hb dX9_carryOut_70 rfl (lv_at hl 2 rfl) ?_
    refine lv_iload hx hb dX9_carryOut_71 (lv_at hl 1 rfl) ?_
    refine lv_aload_n hx hb dX9_carryOut_73 rfl (lv_at hl 4 rfl) ?_
    refine w_get hx hb hts iX9_carryOut_X9 hown hP hK (by decide) emb_mm rfl 12 (by decide) hk_f32 rfl dX9_carryOut_74 ?_
    refine lv_iconst (v := 3) hx hb dX9_carryOut_77 (by decide) ?_
    obtain ⟨hin109, ejK108⟩ := ck_e ejK108
    refine ar_ald (g := nu0) hx hb AR_nu rfl hP hK hin109 dX9_carryOut_78 ?_
    refine lv_aload_n hx hb dX9_carryOut_79 rfl (lv_at hl 4 rfl) ?_
    refine w_get hx hb hts iX9_carryOut_X9 hown hP hK (by decide) emb_mm rfl 12 (by decide) hk_f32 rfl dX9_carryOut_80 ?_
    refine lv_iconst (v := 4) hx hb dX9_carryOut_83 (by decide) ?_
    obtain ⟨hin110, ejK108⟩ := ck_e ejK108
    refine ar_ald (g := nu0) hx hb AR_nu rfl hP hK hin110 dX9_carryOut_84 ?_
    obtain ⟨x111, hc112, ejK108⟩ := ob1_e ejK108
    refine w_ci ⟨hx, hb, hml, hown, hts⟩ hP hK hS (k9_kindCode l hX w hc112) hc_108 (w_recv hP hK (by decide) emb_mm rfl) rfl hl.1 rfl (Nat.le_of_ble_eq_true rfl) dX9_carryOut_85 ⟨Nat.zero_le _, Nat.zero_le _⟩ (fun H locs hP hS => ?_)
    refine lv_istore (lv' := [(5, .int x111), (6, .int 0), (4, .int x6), (3, .int x4), (2, .int x2), (0, .ref (xa X 314)), (1, .int a1)]) hx hb dX9_carryOut_88 hl (by decide) rfl (fun ls hl => ?_)
    refine lv_iload hx hb dX9_carryOut_90 (lv_at hl 0 rfl) ?_
    obtain ⟨x119, s120, ejK121, ejK108⟩ := ob2_e ejK108
    have K121 : ∀ (H : Heap) (locs : List Loc) (ls : Array Slot), HW X (pmm w s120 u0 sv0 tx0 ow0 rs0 rn0 nu0 q0) H → va_S (xF b0) s.heap H locs → lv_has ls 7 [(5, .int x111)] → W p l e R s m args below meth c H locs 0 0 Q (F0 m 119 ls [.int x119]) := by
      intro H locs ls hP hS hl
      refine lv_istore (lv' := [(6, .int x119), (5, .int x111)]) hx hb dX9_carryOut_119 hl (by decide) rfl (fun ls hl => ?_)
      refine lv_goto (tgt := 311) hx hb dX9_carryOut_121 (by decide) ?_
      have ejK108 := Option.some.inj ejK108
      simp only [Prod.mk.injEq] at ejK108
      obtain ⟨rfl, rfl, rfl, rfl⟩ := ejK108
      exact K108 _ _ _ hP hS (lv_sub hl [1] rfl)
    clear ejK108
    refine lv_if_le (tgt := 99) hx hb dX9_carryOut_92 (by decide) (fun h113 => ?_) (fun h113 => ?_)
    · rw [if_pos h113] at ejK121
      refine lv_aload_n hx hb dX9_carryOut_99 rfl (lv_at hl 5 rfl) ?_
      refine lv_iload_n hx hb dX9_carryOut_100 rfl (lv_at hl 4 rfl) ?_
      refine lv_iload_n hx hb dX9_carryOut_101 rfl (lv_at hl 3 rfl) ?_
      refine lv_iload hx hb dX9_carryOut_102 (lv_at hl 2 rfl) ?_
      refine lv_aload_n hx hb dX9_carryOut_104 rfl (lv_at hl 5 rfl) ?_
      refine w_get hx hb hts iX9_carryOut_X9 hown hP hK (by decide) emb_mm rfl 12 (by decide) hk_f32 rfl dX9_carryOut_105 ?_
      refine lv_iconst (v := 3) hx hb dX9_carryOut_108 (by decide) ?_
      obtain ⟨hin122, ejK121⟩ := ck_e ejK121
      refine ar_ald (g := nu0) hx hb AR_nu rfl hP hK hin122 dX9_carryOut_109 ?_
      refine lv_aload_n hx hb dX9_carryOut_110 rfl (lv_at hl 5 rfl) ?_
      refine w_get hx hb hts iX9_carryOut_X9 hown hP hK (by decide) emb_mm rfl 12 (by decide) hk_f32 rfl dX9_carryOut_111 ?_
      refine lv_iconst (v := 4) hx hb dX9_carryOut_114 (by decide) ?_
      obtain ⟨hin123, ejK121⟩ := ck_e ejK121
      refine ar_ald (g := nu0) hx hb AR_nu rfl hP hK hin123 dX9_carryOut_115 ?_
      obtain ⟨x124, s125, hc126, ejK121⟩ := ob2_e ejK121
      refine w_ci ⟨hx, hb, hml, hown, hts⟩ hP hK hS (k9_addKindNow l hX w hc126) hc_115 (w_recv hP hK (by decide) emb_mm rfl) rfl hl.1 rfl (Nat.le_of_ble_eq_true rfl) dX9_carryOut_116 ⟨Nat.zero_le _, Nat.zero_le _⟩ (fun H locs hP hS => ?_)
      have ejK121 := Option.some.inj ejK121
      simp only [Prod.mk.injEq] at ejK121
      obtain ⟨rfl, rfl⟩ := ejK121
      exact K121 _ _ _ hP hS (lv_sub hl [0] rfl)
    · rw [if_neg h113] at ejK121
      refine lv_iconst (v := 0) hx hb dX9_carryOut_95 (by decide) ?_
      refine lv_goto (tgt := 119) hx hb dX9_carryOut_96 (by decide) ?_
      have ejK121 := Option.some.inj ejK121
      simp only [Prod.mk.injEq] at ejK121
      obtain ⟨rfl, rfl⟩ := ejK121
      exact K121 _ _ _ hP hS (lv_sub hl [0] rfl)
  rw [if_neg hsw207] at ejK108
  by_cases hsw208 : a1 = 1
  · rw [if_pos hsw208] at ejK108
    refine lv_tableIn (off := 98) (tgt := 124) hx hb dX9_carryOut_26 (by rw [hsw208]; decide) (by rw [hsw208]; decide) (by rw [hsw208]; rfl) (by decide) ?_
    refine lv_aload_n hx hb dX9_carryOut_124 rfl (lv_at hl 4 rfl) ?_
    refine w_get hx hb hts iX9_carryOut_X9 hown hP hK (by decide) emb_mm rfl 1 (by decide) hk_f7 rfl dX9_carryOut_125 ?_
    refine lv_iconst (v := 3) hx hb dX9_carryOut_128 (by decide) ?_
    obtain ⟨hin127, ejK108⟩ := ck_e ejK108
    refine ar_ald (g := s0) hx hb AR_s rfl hP hK hin127 dX9_carryOut_129 ?_
    refine lv_bipush (v := 8) hx hb dX9_carryOut_130 (by decide) ?_
    obtain ⟨x129, ejK130, ejK108⟩ := lt1_e ejK108
    have K130 : ∀ (H : Heap) (locs : List Loc) (ls : Array Slot), HW X (pmm w s0 u0 sv0 tx0 ow0 rs0 rn0 nu0 q0) H → va_S (xF b0) s.heap H locs → lv_has ls 7 [(0, .ref (xa X 314))] → W p l e R s m args below meth c H locs 0 0 Q (F0 m 140 ls [.int x129]) := by
      intro H locs ls hP hS hl
      refine lv_istore (lv' := [(5, .int x129), (0, .ref (xa X 314))]) hx hb dX9_carryOut_140 hl (by decide) rfl (fun ls hl => ?_)
      refine lv_iload hx hb dX9_carryOut_142 (lv_at hl 0 rfl) ?_
      obtain ⟨x135, s136, ejK137, ejK108⟩ := ob2_e ejK108
      have K137 : ∀ (H : Heap) (locs : List Loc) (ls : Array Slot), HW X (pmm w s136 u0 sv0 tx0 ow0 rs0 rn0 nu0 q0) H → va_S (xF b0) s.heap H locs → lv_has ls 7 [(5, .int x129)] → W p l e R s m args below meth c H locs 0 0 Q (F0 m 155 ls [.int x135]) := by
        intro H locs ls hP hS hl
        refine lv_istore (lv' := [(6, .int x135), (5, .int x129)]) hx hb dX9_carryOut_155 hl (by decide) rfl (fun ls hl => ?_)
        refine lv_goto (tgt := 311) hx hb dX9_carryOut_157 (by decide) ?_
        have ejK108 := Option.some.inj ejK108
        simp only [Prod.mk.injEq] at ejK108
        obtain ⟨rfl, rfl, rfl, rfl⟩ := ejK108
        exact K108 _ _ _ hP hS (lv_sub hl [1] rfl)
      clear ejK108
      refine lv_if_le (tgt := 151) hx hb dX9_carryOut_144 (by decide) (fun h131 => ?_) (fun h131 => ?_)
      · rw [if_pos h131] at ejK137
        refine lv_aload_n hx hb dX9_carryOut_151 rfl (lv_at hl 1 rfl) ?_
        obtain ⟨x138, s139, hc140, ejK137⟩ := ob2_e ejK137
        refine w_ci ⟨hx, hb, hml, hown, hts⟩ hP hK hS (k9_addHouseNow l hX w hc140) hc_118 (w_recv hP hK (by decide) emb_mm rfl) rfl hl.1 rfl (Nat.le_of_ble_eq_true rfl) dX9_carryOut_152 ⟨Nat.zero_le _, Nat.zero_le _⟩ (fun H locs hP hS => ?_)
        have ejK137 := Option.some.inj ejK137
        simp only [Prod.mk.injEq] at ejK137
        obtain ⟨rfl, rfl⟩ := ejK137
        exact K137 _ _ _ hP hS (lv_sub hl [0] rfl)
      · rw [if_neg h131] at ejK137
        refine lv_iconst (v := 0) hx hb dX9_carryOut_147 (by decide) ?_
        refine lv_goto (tgt := 155) hx hb dX9_carryOut_148 (by decide) ?_
        have ejK137 := Option.some.inj ejK137
        simp only [Prod.mk.injEq] at ejK137
        obtain ⟨rfl, rfl⟩ := ejK137
        exact K137 _ _ _ hP hS (lv_sub hl [0] rfl)
    clear ejK108
    refine lv_icmp_ne (tgt := 139) hx hb dX9_carryOut_132 (by decide) (fun h128 => ?_) (fun h128 => ?_)
    · rw [if_neg h128] at ejK130
      refine lv_iconst (v := 0) hx hb dX9_carryOut_139 (by decide) ?_
      obtain rfl := ejK130
      exact K130 _ _ _ hP hS (lv_sub hl [4] rfl)
    · rw [if_pos h128] at ejK130
      refine lv_iconst (v := 1) hx hb dX9_carryOut_135 (by decide) ?_
      refine lv_goto (tgt := 140) hx hb dX9_carryOut_136 (by decide) ?_
      obtain rfl := ejK130
      exact K130 _ _ _ hP hS (lv_sub hl [4] rfl)
  rw [if_neg hsw208] at ejK108
  by_cases hsw209 : a1 = 2
  · rw [if_pos hsw209] at ejK108
    refine lv_tableIn (off := 134) (tgt := 160) hx hb dX9_carryOut_26 (by rw [hsw209]; decide) (by rw [hsw209]; decide) (by rw [hsw209]; rfl) (by decide) ?_
    refine lv_aload_n hx hb dX9_carryOut_160 rfl (lv_at hl 4 rfl) ?_
    refine lv_iload_n hx hb dX9_carryOut_161 rfl (lv_at hl 3 rfl) ?_
    refine lv_iload_n hx hb dX9_carryOut_162 rfl (lv_at hl 2 rfl) ?_
    refine lv_iload hx hb dX9_carryOut_163 (lv_at hl 1 rfl) ?_
    obtain ⟨x141, hc142, ejK108⟩ := ob1_e ejK108
    refine w_ci ⟨hx, hb, hml, hown, hts⟩ hP hK hS (k9_doughCode l hX w hc142) hc_129 (w_recv hP hK (by decide) emb_mm rfl) rfl hl.1 rfl (Nat.le_of_ble_eq_true rfl) dX9_carryOut_165 ⟨Nat.zero_le _, Nat.zero_le _⟩ (fun H locs hP hS => ?_)
    refine lv_istore (lv' := [(5, .int x141), (6, .int 0), (4, .int x6), (3, .int x4), (2, .int x2), (0, .ref (xa X 314)), (1, .int a1)]) hx hb dX9_carryOut_168 hl (by decide) rfl (fun ls hl => ?_)
    refine lv_iload hx hb dX9_carryOut_170 (lv_at hl 0 rfl) ?_
    obtain ⟨x147, s148, ejK149, ejK108⟩ := ob2_e ejK108
    have K149 : ∀ (H : Heap) (locs : List Loc) (ls : Array Slot), HW X (pmm w s148 u0 sv0 tx0 ow0 rs0 rn0 nu0 q0) H → va_S (xF b0) s.heap H locs → lv_has ls 7 [(5, .int x141)] → W p l e R s m args below meth c H locs 0 0 Q (F0 m 187 ls [.int x147]) := by
      intro H locs ls hP hS hl
      refine lv_istore (lv' := [(6, .int x147), (5, .int x141)]) hx hb dX9_carryOut_187 hl (by decide) rfl (fun ls hl => ?_)
      refine lv_goto (tgt := 311) hx hb dX9_carryOut_189 (by decide) ?_
      have ejK108 := Option.some.inj ejK108
      simp only [Prod.mk.injEq] at ejK108
      obtain ⟨rfl, rfl, rfl, rfl⟩ := ejK108
      exact K108 _ _ _ hP hS (lv_sub hl [1] rfl)
    clear ejK108
    refine lv_if_le (tgt := 179) hx hb dX9_carryOut_172 (by decide) (fun h143 => ?_) (fun h143 => ?_)
    · rw [if_pos h143] at ejK149
      refine lv_aload_n hx hb dX9_carryOut_179 rfl (lv_at hl 5 rfl) ?_
      refine lv_iload_n hx hb dX9_carryOut_180 rfl (lv_at hl 4 rfl) ?_
      refine lv_iload_n hx hb dX9_carryOut_181 rfl (lv_at hl 3 rfl) ?_
      refine lv_iload hx hb dX9_carryOut_182 (lv_at hl 2 rfl) ?_
      obtain ⟨x150, s151, hc152, ejK149⟩ := ob2_e ejK149
      refine w_ci ⟨hx, hb, hml, hown, hts⟩ hP hK hS (k9_addDoughNow l hX w hc152) hc_133 (w_recv hP hK (by decide) emb_mm rfl) rfl hl.1 rfl (Nat.le_of_ble_eq_true rfl) dX9_carryOut_184 ⟨Nat.zero_le _, Nat.zero_le _⟩ (fun H locs hP hS => ?_)
      have ejK149 := Option.some.inj ejK149
      simp only [Prod.mk.injEq] at ejK149
      obtain ⟨rfl, rfl⟩ := ejK149
      exact K149 _ _ _ hP hS (lv_sub hl [0] rfl)
    · rw [if_neg h143] at ejK149
      refine lv_iconst (v := 0) hx hb dX9_carryOut_175 (by decide) ?_
      refine lv_goto (tgt := 187) hx hb dX9_carryOut_176 (by decide) ?_
      have ejK149 := Option.some.inj ejK149
      simp only [Prod.mk.injEq] at ejK149
      obtain ⟨rfl, rfl⟩ := ejK149
      exact K149 _ _ _ hP hS (lv_sub hl [0] rfl)
  rw [if_neg hsw209] at ejK108
  by_cases hsw210 : a1 = 3
  · rw [if_pos hsw210] at ejK108
    refine lv_tableIn (off := 166) (tgt := 192) hx hb dX9_carryOut_26 (by rw [hsw210]; decide) (by rw [hsw210]; decide) (by rw [hsw210]; rfl) (by decide) ?_
    refine lv_aload_n hx hb dX9_carryOut_192 rfl (lv_at hl 4 rfl) ?_
    refine lv_iload_n hx hb dX9_carryOut_193 rfl (lv_at hl 3 rfl) ?_
    refine lv_iload_n hx hb dX9_carryOut_194 rfl (lv_at hl 2 rfl) ?_
    obtain ⟨x153, hc154, ejK108⟩ := ob1_e ejK108
    refine w_ci ⟨hx, hb, hml, hown, hts⟩ hP hK hS (k9_bringCode l hX w hc154) hc_153 (w_recv hP hK (by decide) emb_mm rfl) rfl hl.1 rfl (Nat.le_of_ble_eq_true rfl) dX9_carryOut_195 ⟨Nat.zero_le _, Nat.zero_le _⟩ (fun H locs hP hS => ?_)
    refine lv_istore (lv' := [(5, .int x153), (6, .int 0), (4, .int x6), (3, .int x4), (2, .int x2), (0, .ref (xa X 314)), (1, .int a1)]) hx hb dX9_carryOut_198 hl (by decide) rfl (fun ls hl => ?_)
    refine lv_iload hx hb dX9_carryOut_200 (lv_at hl 0 rfl) ?_
    obtain ⟨x159, s160, ejK161, ejK108⟩ := ob2_e ejK108
    have K161 : ∀ (H : Heap) (locs : List Loc) (ls : Array Slot), HW X (pmm w s160 u0 sv0 tx0 ow0 rs0 rn0 nu0 q0) H → va_S (xF b0) s.heap H locs → lv_has ls 7 [(5, .int x153)] → W p l e R s m args below meth c H locs 0 0 Q (F0 m 215 ls [.int x159]) := by
      intro H locs ls hP hS hl
      refine lv_istore (lv' := [(6, .int x159), (5, .int x153)]) hx hb dX9_carryOut_215 hl (by decide) rfl (fun ls hl => ?_)
      refine lv_goto (tgt := 311) hx hb dX9_carryOut_217 (by decide) ?_
      have ejK108 := Option.some.inj ejK108
      simp only [Prod.mk.injEq] at ejK108
      obtain ⟨rfl, rfl, rfl, rfl⟩ := ejK108
      exact K108 _ _ _ hP hS (lv_sub hl [1] rfl)
    clear ejK108
    refine lv_if_le (tgt := 209) hx hb dX9_carryOut_202 (by decide) (fun h155 => ?_) (fun h155 => ?_)
    · rw [if_pos h155] at ejK161
      refine lv_aload_n hx hb dX9_carryOut_209 rfl (lv_at hl 5 rfl) ?_
      refine lv_iload_n hx hb dX9_carryOut_210 rfl (lv_at hl 4 rfl) ?_
      refine lv_iload_n hx hb dX9_carryOut_211 rfl (lv_at hl 3 rfl) ?_
      obtain ⟨x162, s163, hc164, ejK161⟩ := ob2_e ejK161
      refine w_ci ⟨hx, hb, hml, hown, hts⟩ hP hK hS (k9_bringNow l hX w hc164) hc_156 (w_recv hP hK (by decide) emb_mm rfl) rfl hl.1 rfl (Nat.le_of_ble_eq_true rfl) dX9_carryOut_212 ⟨Nat.zero_le _, Nat.zero_le _⟩ (fun H locs hP hS => ?_)
      have ejK161 := Option.some.inj ejK161
      simp only [Prod.mk.injEq] at ejK161
      obtain ⟨rfl, rfl⟩ := ejK161
      exact K161 _ _ _ hP hS (lv_sub hl [0] rfl)
    · rw [if_neg h155] at ejK161
      refine lv_iconst (v := 0) hx hb dX9_carryOut_205 (by decide) ?_
      refine lv_goto (tgt := 215) hx hb dX9_carryOut_206 (by decide) ?_
      have ejK161 := Option.some.inj ejK161
      simp only [Prod.mk.injEq] at ejK161
      obtain ⟨rfl, rfl⟩ := ejK161
      exact K161 _ _ _ hP hS (lv_sub hl [0] rfl)
  rw [if_neg hsw210] at ejK108
  by_cases hsw211 : a1 = 4
  · rw [if_pos hsw211] at ejK108
    refine lv_tableIn (off := 194) (tgt := 220) hx hb dX9_carryOut_26 (by rw [hsw211]; decide) (by rw [hsw211]; decide) (by rw [hsw211]; rfl) (by decide) ?_
    refine lv_aload_n hx hb dX9_carryOut_220 rfl (lv_at hl 4 rfl) ?_
    refine lv_iload_n hx hb dX9_carryOut_221 rfl (lv_at hl 3 rfl) ?_
    refine lv_iload_n hx hb dX9_carryOut_222 rfl (lv_at hl 2 rfl) ?_
    obtain ⟨x165, hc166, ejK108⟩ := ob1_e ejK108
    refine w_ci ⟨hx, hb, hml, hown, hts⟩ hP hK hS (k9_stokeCode l hX w hc166) hc_159 (w_recv hP hK (by decide) emb_mm rfl) rfl hl.1 rfl (Nat.le_of_ble_eq_true rfl) dX9_carryOut_223 ⟨Nat.zero_le _, Nat.zero_le _⟩ (fun H locs hP hS => ?_)
    refine lv_istore (lv' := [(5, .int x165), (6, .int 0), (4, .int x6), (3, .int x4), (2, .int x2), (0, .ref (xa X 314)), (1, .int a1)]) hx hb dX9_carryOut_226 hl (by decide) rfl (fun ls hl => ?_)
    refine lv_iload hx hb dX9_carryOut_228 (lv_at hl 0 rfl) ?_
    obtain ⟨x171, s172, ejK173, ejK108⟩ := ob2_e ejK108
    have K173 : ∀ (H : Heap) (locs : List Loc) (ls : Array Slot), HW X (pmm w s172 u0 sv0 tx0 ow0 rs0 rn0 nu0 q0) H → va_S (xF b0) s.heap H locs → lv_has ls 7 [(5, .int x165)] → W p l e R s m args below meth c H locs 0 0 Q (F0 m 243 ls [.int x171]) := by
      intro H locs ls hP hS hl
      refine lv_istore (lv' := [(6, .int x171), (5, .int x165)]) hx hb dX9_carryOut_243 hl (by decide) rfl (fun ls hl => ?_)
      refine lv_goto (tgt := 311) hx hb dX9_carryOut_245 (by decide) ?_
      have ejK108 := Option.some.inj ejK108
      simp only [Prod.mk.injEq] at ejK108
      obtain ⟨rfl, rfl, rfl, rfl⟩ := ejK108
      exact K108 _ _ _ hP hS (lv_sub hl [1] rfl)
    clear ejK108
    refine lv_if_le (tgt := 237) hx hb dX9_carryOut_230 (by decide) (fun h167 => ?_) (fun h167 => ?_)
    · rw [if_pos h167] at ejK173
      refine lv_aload_n hx hb dX9_carryOut_237 rfl (lv_at hl 5 rfl) ?_
      refine lv_iload_n hx hb dX9_carryOut_238 rfl (lv_at hl 4 rfl) ?_
      refine lv_iload_n hx hb dX9_carryOut_239 rfl (lv_at hl 3 rfl) ?_
      obtain ⟨x174, s175, hc176, ejK173⟩ := ob2_e ejK173
      refine w_ci ⟨hx, hb, hml, hown, hts⟩ hP hK hS (k9_stokeNow l hX w hc176) hc_162 (w_recv hP hK (by decide) emb_mm rfl) rfl hl.1 rfl (Nat.le_of_ble_eq_true rfl) dX9_carryOut_240 ⟨Nat.zero_le _, Nat.zero_le _⟩ (fun H locs hP hS => ?_)
      have ejK173 := Option.some.inj ejK173
      simp only [Prod.mk.injEq] at ejK173
      obtain ⟨rfl, rfl⟩ := ejK173
      exact K173 _ _ _ hP hS (lv_sub hl [0] rfl)
    · rw [if_neg h167] at ejK173
      refine lv_iconst (v := 0) hx hb dX9_carryOut_233 (by decide) ?_
      refine lv_goto (tgt := 243) hx hb dX9_carryOut_234 (by decide) ?_
      have ejK173 := Option.some.inj ejK173
      simp only [Prod.mk.injEq] at ejK173
      obtain ⟨rfl, rfl⟩ := ejK173
      exact K173 _ _ _ hP hS (lv_sub hl [0] rfl)
  rw [if_neg hsw211] at ejK108
  by_cases hsw212 : a1 = 5
  · rw [if_pos hsw212] at ejK108
    refine lv_tableIn (off := 222) (tgt := 248) hx hb dX9_carryOut_26 (by rw [hsw212]; decide) (by rw [hsw212]; decide) (by rw [hsw212]; rfl) (by decide) ?_
    refine lv_aload_n hx hb dX9_carryOut_248 rfl (lv_at hl 4 rfl) ?_
    refine lv_iload_n hx hb dX9_carryOut_249 rfl (lv_at hl 3 rfl) ?_
    obtain ⟨x177, hc178, ejK108⟩ := ob1_e ejK108
    refine w_ci ⟨hx, hb, hml, hown, hts⟩ hP hK hS (k9_passCode l hX w hc178) hc_177 (w_recv hP hK (by decide) emb_mm rfl) rfl hl.1 rfl (Nat.le_of_ble_eq_true rfl) dX9_carryOut_250 ⟨Nat.zero_le _, Nat.zero_le _⟩ (fun H locs hP hS => ?_)
    refine lv_istore (lv' := [(5, .int x177), (6, .int 0), (4, .int x6), (3, .int x4), (2, .int x2), (0, .ref (xa X 314)), (1, .int a1)]) hx hb dX9_carryOut_253 hl (by decide) rfl (fun ls hl => ?_)
    refine lv_iload hx hb dX9_carryOut_255 (lv_at hl 0 rfl) ?_
    obtain ⟨x183, s184, ejK185, ejK108⟩ := ob2_e ejK108
    have K185 : ∀ (H : Heap) (locs : List Loc) (ls : Array Slot), HW X (pmm w s184 u0 sv0 tx0 ow0 rs0 rn0 nu0 q0) H → va_S (xF b0) s.heap H locs → lv_has ls 7 [(5, .int x177)] → W p l e R s m args below meth c H locs 0 0 Q (F0 m 269 ls [.int x183]) := by
      intro H locs ls hP hS hl
      refine lv_istore (lv' := [(6, .int x183), (5, .int x177)]) hx hb dX9_carryOut_269 hl (by decide) rfl (fun ls hl => ?_)
      refine lv_goto (tgt := 311) hx hb dX9_carryOut_271 (by decide) ?_
      have ejK108 := Option.some.inj ejK108
      simp only [Prod.mk.injEq] at ejK108
      obtain ⟨rfl, rfl, rfl, rfl⟩ := ejK108
      exact K108 _ _ _ hP hS (lv_sub hl [1] rfl)
    clear ejK108
    refine lv_if_le (tgt := 264) hx hb dX9_carryOut_257 (by decide) (fun h179 => ?_) (fun h179 => ?_)
    · rw [if_pos h179] at ejK185
      refine lv_aload_n hx hb dX9_carryOut_264 rfl (lv_at hl 5 rfl) ?_
      refine lv_iload_n hx hb dX9_carryOut_265 rfl (lv_at hl 4 rfl) ?_
      obtain ⟨x186, s187, hc188, ejK185⟩ := ob2_e ejK185
      refine w_ci ⟨hx, hb, hml, hown, hts⟩ hP hK hS (k9_passNow l hX w hc188) hc_180 (w_recv hP hK (by decide) emb_mm rfl) rfl hl.1 rfl (Nat.le_of_ble_eq_true rfl) dX9_carryOut_266 ⟨Nat.zero_le _, Nat.zero_le _⟩ (fun H locs hP hS => ?_)
      have ejK185 := Option.some.inj ejK185
      simp only [Prod.mk.injEq] at ejK185
      obtain ⟨rfl, rfl⟩ := ejK185
      exact K185 _ _ _ hP hS (lv_sub hl [0] rfl)
    · rw [if_neg h179] at ejK185
      refine lv_iconst (v := 0) hx hb dX9_carryOut_260 (by decide) ?_
      refine lv_goto (tgt := 269) hx hb dX9_carryOut_261 (by decide) ?_
      have ejK185 := Option.some.inj ejK185
      simp only [Prod.mk.injEq] at ejK185
      obtain ⟨rfl, rfl⟩ := ejK185
      exact K185 _ _ _ hP hS (lv_sub hl [0] rfl)
  rw [if_neg hsw212] at ejK108
  by_cases hsw213 : a1 = 6
  · rw [if_pos hsw213] at ejK108
    refine lv_tableIn (off := 248) (tgt := 274) hx hb dX9_carryOut_26 (by rw [hsw213]; decide) (by rw [hsw213]; decide) (by rw [hsw213]; rfl) (by decide) ?_
    refine lv_aload_n hx hb dX9_carryOut_274 rfl (lv_at hl 4 rfl) ?_
    refine lv_iload_n hx hb dX9_carryOut_275 rfl (lv_at hl 3 rfl) ?_
    refine lv_iload_n hx hb dX9_carryOut_276 rfl (lv_at hl 2 rfl) ?_
    obtain ⟨x189, hc190, ejK108⟩ := ob1_e ejK108
    refine w_ci ⟨hx, hb, hml, hown, hts⟩ hP hK hS (k9_swapCode l hX w hc190) hc_139 (w_recv hP hK (by decide) emb_mm rfl) rfl hl.1 rfl (Nat.le_of_ble_eq_true rfl) dX9_carryOut_277 ⟨Nat.zero_le _, Nat.zero_le _⟩ (fun H locs hP hS => ?_)
    refine lv_istore (lv' := [(5, .int x189), (6, .int 0), (4, .int x6), (3, .int x4), (2, .int x2), (0, .ref (xa X 314)), (1, .int a1)]) hx hb dX9_carryOut_280 hl (by decide) rfl (fun ls hl => ?_)
    refine lv_iload hx hb dX9_carryOut_282 (lv_at hl 0 rfl) ?_
    obtain ⟨x195, s196, ejK197, ejK108⟩ := ob2_e ejK108
    have K197 : ∀ (H : Heap) (locs : List Loc) (ls : Array Slot), HW X (pmm w s196 u0 sv0 tx0 ow0 rs0 rn0 nu0 q0) H → va_S (xF b0) s.heap H locs → lv_has ls 7 [(5, .int x189)] → W p l e R s m args below meth c H locs 0 0 Q (F0 m 297 ls [.int x195]) := by
      intro H locs ls hP hS hl
      refine lv_istore (lv' := [(6, .int x195), (5, .int x189)]) hx hb dX9_carryOut_297 hl (by decide) rfl (fun ls hl => ?_)
      refine lv_goto (tgt := 311) hx hb dX9_carryOut_299 (by decide) ?_
      have ejK108 := Option.some.inj ejK108
      simp only [Prod.mk.injEq] at ejK108
      obtain ⟨rfl, rfl, rfl, rfl⟩ := ejK108
      exact K108 _ _ _ hP hS (lv_sub hl [1] rfl)
    clear ejK108
    refine lv_if_le (tgt := 291) hx hb dX9_carryOut_284 (by decide) (fun h191 => ?_) (fun h191 => ?_)
    · rw [if_pos h191] at ejK197
      refine lv_aload_n hx hb dX9_carryOut_291 rfl (lv_at hl 5 rfl) ?_
      refine lv_iload_n hx hb dX9_carryOut_292 rfl (lv_at hl 4 rfl) ?_
      refine lv_iload_n hx hb dX9_carryOut_293 rfl (lv_at hl 3 rfl) ?_
      obtain ⟨x198, s199, hc200, ejK197⟩ := ob2_e ejK197
      refine w_ci ⟨hx, hb, hml, hown, hts⟩ hP hK hS (k9_swapNow l hX w hc200) hc_143 (w_recv hP hK (by decide) emb_mm rfl) rfl hl.1 rfl (Nat.le_of_ble_eq_true rfl) dX9_carryOut_294 ⟨Nat.zero_le _, Nat.zero_le _⟩ (fun H locs hP hS => ?_)
      have ejK197 := Option.some.inj ejK197
      simp only [Prod.mk.injEq] at ejK197
      obtain ⟨rfl, rfl⟩ := ejK197
      exact K197 _ _ _ hP hS (lv_sub hl [0] rfl)
    · rw [if_neg h191] at ejK197
      refine lv_iconst (v := 0) hx hb dX9_carryOut_287 (by decide) ?_
      refine lv_goto (tgt := 297) hx hb dX9_carryOut_288 (by decide) ?_
      have ejK197 := Option.some.inj ejK197
      simp only [Prod.mk.injEq] at ejK197
      obtain ⟨rfl, rfl⟩ := ejK197
      exact K197 _ _ _ hP hS (lv_sub hl [0] rfl)
  rw [if_neg hsw213] at ejK108
  have hdf : (a1).toInt < 0 ∨ 6 < (a1).toInt := by
    have ghsw207 := ne_i (z := 0) hsw207 (by decide)
    have ghsw208 := ne_i (z := 1) hsw208 (by decide)
    have ghsw209 := ne_i (z := 2) hsw209 (by decide)
    have ghsw210 := ne_i (z := 3) hsw210 (by decide)
    have ghsw211 := ne_i (z := 4) hsw211 (by decide)
    have ghsw212 := ne_i (z := 5) hsw212 (by decide)
    have ghsw213 := ne_i (z := 6) hsw213 (by decide)
    omega
  refine lv_tableOut (tgt := 302) hx hb dX9_carryOut_26 hdf (by decide) ?_
  refine lv_iconst (v := 0) hx hb dX9_carryOut_302 (by decide) ?_
  refine lv_istore (lv' := [(5, .int 0), (6, .int 0), (4, .int x6), (3, .int x4), (2, .int x2), (0, .ref (xa X 314)), (1, .int a1)]) hx hb dX9_carryOut_303 hl (by decide) rfl (fun ls hl => ?_)
  refine lv_aload_n hx hb dX9_carryOut_305 rfl (lv_at hl 5 rfl) ?_
  obtain ⟨x201, s202, ow203, rs204, hc205, ejK108⟩ := ob4_e ejK108
  refine w_ci ⟨hx, hb, hml, hown, hts⟩ hP hK hS (k9_settleNow l hX w hc205) hc_173 (w_recv hP hK (by decide) emb_mm rfl) rfl hl.1 rfl (Nat.le_of_ble_eq_true rfl) dX9_carryOut_306 ⟨Nat.zero_le _, Nat.zero_le _⟩ (fun H locs hP hS => ?_)
  refine lv_istore (lv' := [(6, .int x201), (5, .int 0), (4, .int x6), (3, .int x4), (2, .int x2), (0, .ref (xa X 314)), (1, .int a1)]) hx hb dX9_carryOut_309 hl (by decide) rfl (fun ls hl => ?_)
  have ejK108 := Option.some.inj ejK108
  simp only [Prod.mk.injEq] at ejK108
  obtain ⟨rfl, rfl, rfl, rfl⟩ := ejK108
  exact K108 _ _ _ hP hS (lv_sub hl [1] rfl)
abbrev rmX9_runCommands : Room := { frames := 8, cells := 0, slots := 0, locals := 188 }
theorem iX9_runCommands_X9 : ∀ w ∈ wsX90, w ∈ wsX9_runCommands := by decide +kernel
set_option maxHeartbeats 4000000 in
set_option maxRecDepth 100000 in
theorem k9_runCommands (l : Launch) {X : bkX} {b0 : Nat} (hX : XO X b0) (w : bkW) {N : Nat} {s0 : Nat → Int32} {u0 : Nat → Int32} {sv0 : Nat → Int32} {tx0 : Nat → Int32} {ow0 : Nat → Int32} {rs0 : Nat → Int64} {rn0 : Nat → Int32} {nu0 : Nat → Int32} {q0 : Nat → Int32} {res9 : Int32} {s9 : Nat → Int32} {sv9 : Nat → Int32} {ow9 : Nat → Int32} {rs9 : Nat → Int64} {nu9 : Nat → Int32} {q9 : Nat → Int32} (hf : m9_runCommands N s0 sv0 tx0 ow0 rs0 nu0 q0 = some (res9, s9, sv9, ow9, rs9, nu9, q9)) : cI l yX9_runCommands wsX9_runCommands rmX9_runCommands X b0 [.ref (xa X 314)] (pmm w s0 u0 sv0 tx0 ow0 rs0 rn0 nu0 q0) res9 (pmm w s9 u0 sv9 tx0 ow9 rs9 rn0 nu9 q9) := by
  refine Met.ofW (cc := cX9_runCommands) (maxL := 3) (ret := (some .int)) (by decide) rfl ?_
  intro p e s m args below meth c s₁ B hml hv
  obtain ⟨ha, hP, hK⟩ := hv
  have hx := B.exec
  have hb := B.bytes
  have hr := B.returns
  have hts := atoms_spec (ws := wsX9_runCommands) B.pre
  have hown : s.vm.findClass RX9 = some m.cls := findClass_of_methodNamed B.named
  have hlocks := B.notSynchronized
  obtain ⟨R, hR⟩ : ∃ R, R = (headSpec wsX9_runCommands rmX9_runCommands).room := ⟨_, rfl⟩
  rw [← hR]
  have hR1 : R.frames = 8 := by rw [hR]; rfl
  have hR2 : R.locals = 188 := by rw [hR]; rfl
  obtain ⟨Q, hQ⟩ : ∃ Q : State → Prop, Q = MQ below (va_Qi (fun r' (_ : Unit) => r' = res9) (fun _ t => WU X (pmm w s9 u0 sv9 tx0 ow9 rs9 rn0 nu9 q9) t) (xF b0)) args s 0 0 (xF b0) := ⟨_, rfl⟩
  rw [← hQ]
  have hS : va_S (xF b0) s.heap s.heap [] := va_S.rf
  have hl := lv_entry ([.ref (xa X 314)]) (n := 3) (Nat.le_of_ble_eq_true rfl)
  refine W.eq ((congrArg (fun z => entryFrame m z 3) ha).trans (lg_entry_eq m _ 3)) ?_
  generalize (lg_sl ([.ref (xa X 314)]) ++ List.replicate (3 - (lg_sl ([.ref (xa X 314)])).length) Slot.unset).toArray = ls at hl ⊢
  have hl : lv_has ls 3 [(0, .ref (xa X 314))] := hl
  have hk_f35 := hts (.fieldLink RX9 35 "BakeTurnsModel" "thrown" "I") (by decide +kernel)
  have hc_265 := (cwV 0 hts gX9_runCommands_X9_check rfl rfl rfl (by decide +kernel) ⟨by rw [hR1]; exact Nat.le_of_ble_eq_true rfl, by rw [hR2]; exact Nat.le_of_ble_eq_true rfl⟩ : CallW R s args RX9 RX9 265 yX9_check cX9_check 2 none wsX9_check rmX9_check 0 0 0)
  have hk_f233 := hts (.fieldLink RX9 233 "BakeTurnsModel" "fault" "I") (by decide +kernel)
  have hc_112 := (cwV 0 hts gX9_runCommands_X9_save rfl rfl rfl (by decide +kernel) ⟨by rw [hR1]; exact Nat.le_of_ble_eq_true rfl, by rw [hR2]; exact Nat.le_of_ble_eq_true rfl⟩ : CallW R s args RX9 RX9 112 yX9_save cX9_save 2 none wsX9_save rmX9_save 0 0 0)
  have hk_f220 := hts (.fieldLink RX9 220 "BakeTurnsModel" "next" "I") (by decide +kernel)
  have hc_247 := (cwV 0 hts gX9_runCommands_X9_skip rfl rfl rfl (by decide +kernel) ⟨by rw [hR1]; exact Nat.le_of_ble_eq_true rfl, by rw [hR2]; exact Nat.le_of_ble_eq_true rfl⟩ : CallW R s args RX9 RX9 247 yX9_skip cX9_skip 1 none wsX9_skip rmX9_skip 0 0 0)
  have hk_f198 := hts (.fieldLink RX9 198 "BakeTurnsModel" "length" "I") (by decide +kernel)
  have hc_262 := (cwV 0 hts gX9_runCommands_X9_readCommand rfl rfl rfl (by decide +kernel) ⟨by rw [hR1]; exact Nat.le_of_ble_eq_true rfl, by rw [hR2]; exact Nat.le_of_ble_eq_true rfl⟩ : CallW R s args RX9 RX9 262 yX9_readCommand cX9_readCommand 3 (some .int) wsX9_readCommand rmX9_readCommand 0 0 0)
  have hc_268 := (cwV 1 hts gX9_runCommands_X9_carryOut rfl rfl rfl (by decide +kernel) ⟨by rw [hR1]; exact Nat.le_of_ble_eq_true rfl, by rw [hR2]; exact Nat.le_of_ble_eq_true rfl⟩ : CallW R s args RX9 RX9 268 yX9_carryOut cX9_carryOut 7 (some .boolean) wsX9_carryOut rmX9_carryOut 0 0 1)
  unfold m9_runCommands at hf
  refine lv_aload_n hx hb dX9_runCommands_0 rfl (lv_at hl 0 rfl) ?_
  refine lv_iconst (v := 0) hx hb dX9_runCommands_1 (by decide) ?_
  refine mm_put hx hb hts iX9_runCommands_X9 hown hX hP hK hS 0 (by decide) hk_f35 rfl rfl (Nat.le_of_ble_eq_true rfl) (mm_es0 _) dX9_runCommands_2 (fun q1 eq1 H locs hP hS => ?_)
  replace hf := ltn_s eq1 hf
  refine lv_aload_n hx hb dX9_runCommands_5 rfl (lv_at hl 0 rfl) ?_
  obtain ⟨nu2, q3, hc4, hf⟩ := ob2_e hf
  refine w_cv ⟨hx, hb, hml, hown, hts⟩ hP hK hS (k9_check l hX w hc4) hc_265 (w_recv hP hK (by decide) emb_mm rfl) rfl hl.1 rfl (Nat.le_of_ble_eq_true rfl) dX9_runCommands_6 ⟨Nat.zero_le _, Nat.zero_le _⟩ (fun H locs hP hS => ?_)
  refine lv_aload_n hx hb dX9_runCommands_9 rfl (lv_at hl 0 rfl) ?_
  refine w_get hx hb hts iX9_runCommands_X9 hown hP hK (by decide) emb_mm rfl 11 (by decide) hk_f233 rfl dX9_runCommands_10 ?_
  refine lv_if_lt (tgt := 24) hx hb dX9_runCommands_13 (by decide) (fun h5 => ?_) (fun h5 => ?_)
  · rw [if_pos h5] at hf
    refine lv_aload_n hx hb dX9_runCommands_24 rfl (lv_at hl 0 rfl) ?_
    obtain ⟨sv6, q7, hc8, hf⟩ := ob2_e hf
    refine w_cv ⟨hx, hb, hml, hown, hts⟩ hP hK hS (k9_save l hX w hc8) hc_112 (w_recv hP hK (by decide) emb_mm rfl) rfl hl.1 rfl (Nat.le_of_ble_eq_true rfl) dX9_runCommands_25 ⟨Nat.zero_le _, Nat.zero_le _⟩ (fun H locs hP hS => ?_)
    refine lv_aload_n hx hb dX9_runCommands_28 rfl (lv_at hl 0 rfl) ?_
    refine lv_iconst (v := 0) hx hb dX9_runCommands_29 (by decide) ?_
    refine mm_put hx hb hts iX9_runCommands_X9 hown hX hP hK hS 10 (by decide) hk_f220 rfl rfl (Nat.le_of_ble_eq_true rfl) (mm_es3 _) dX9_runCommands_30 (fun q9 eq9 H locs hP hS => ?_)
    replace hf := ltn_s eq9 hf
    refine lv_aload_n hx hb dX9_runCommands_33 rfl (lv_at hl 0 rfl) ?_
    obtain ⟨q10, hc11, hf⟩ := ob1_e hf
    refine w_cv ⟨hx, hb, hml, hown, hts⟩ hP hK hS (k9_skip l hX w hc11) hc_247 (w_recv hP hK (by decide) emb_mm rfl) rfl hl.1 rfl (Nat.le_of_ble_eq_true rfl) dX9_runCommands_34 ⟨Nat.zero_le _, Nat.zero_le _⟩ (fun H locs hP hS => ?_)
    refine lv_iconst (v := 0) hx hb dX9_runCommands_37 (by decide) ?_
    refine lv_istore_n (lv' := [(1, .int 0), (0, .ref (xa X 314))]) hx hb dX9_runCommands_38 rfl hl (by decide) rfl (fun ls hl => ?_)
    refine lv_iconst (v := 1) hx hb dX9_runCommands_39 (by decide) ?_
    refine lv_istore_n (lv' := [(2, .int 1), (1, .int 0), (0, .ref (xa X 314))]) hx hb dX9_runCommands_40 rfl hl (by decide) rfl (fun ls hl => ?_)
    have L41 : ∀ (n : Nat) (x13 : Int32) (x14 : Int32) (s15 : Nat → Int32) (ow16 : Nat → Int32) (rs17 : Nat → Int64) (nu18 : Nat → Int32) (q19 : Nat → Int32) (o20 : Int32) (os21 : Nat → Int32) (oow22 : Nat → Int32) (ors23 : Nat → Int64) (onu24 : Nat → Int32) (oq25 : Nat → Int32) (H : Heap) (locs : List Loc) (ls : Array Slot), m9_runCommands_L41 N n x13 x14 s15 tx0 ow16 rs17 nu18 q19 = some (o20, os21, oow22, ors23, onu24, oq25) → HW X (pmm w s15 u0 sv6 tx0 ow16 rs17 rn0 nu18 q19) H → va_S (xF b0) s.heap H locs → lv_has ls 3 [(0, .ref (xa X 314)), (1, .int x13), (2, .int x14)] → (∀ (H1 : Heap) (locs1 : List Loc) (ls1 : Array Slot), HW X (pmm w os21 u0 sv6 tx0 oow22 ors23 rn0 onu24 oq25) H1 → va_S (xF b0) s.heap H1 locs1 → lv_has ls1 3 [(1, .int o20)] → W p l e R s m args below meth c H1 locs1 0 0 Q (F0 m 80 ls1 [])) → W p l e R s m args below meth c H locs 0 0 Q (F0 m 41 ls []) := by
      intro n; induction n with
      | zero => intro x13 x14 s15 ow16 rs17 nu18 q19 o20 os21 oow22 ors23 onu24 oq25 H locs ls hf; rw [m9_runCommands_L41] at hf; cases hf
      | succ n ih =>
        intro x13 x14 s15 ow16 rs17 nu18 q19 o20 os21 oow22 ors23 onu24 oq25 H locs ls hf hP hS hl K
        rw [m9_runCommands_L41] at hf
        refine lv_iload_n hx hb dX9_runCommands_41 rfl (lv_at hl 2 rfl) ?_
        refine lv_if_eq (tgt := 80) hx hb dX9_runCommands_42 (by decide) (fun h26 => ?_) (fun h26 => ?_)
        · rw [if_pos h26] at hf
          have hf := Option.some.inj hf
          simp only [Prod.mk.injEq] at hf
          obtain ⟨rfl, rfl, rfl, rfl, rfl, rfl⟩ := hf
          exact K _ _ _ hP hS (lv_sub hl [1] rfl)
        · rw [if_neg h26] at hf
          refine lv_aload_n hx hb dX9_runCommands_45 rfl (lv_at hl 0 rfl) ?_
          refine w_get hx hb hts iX9_runCommands_X9 hown hP hK (by decide) emb_mm rfl 10 (by decide) hk_f220 rfl dX9_runCommands_46 ?_
          refine lv_aload_n hx hb dX9_runCommands_49 rfl (lv_at hl 0 rfl) ?_
          refine w_get hx hb hts iX9_runCommands_X9 hown hP hK (by decide) emb_mm rfl 6 (by decide) hk_f198 rfl dX9_runCommands_50 ?_
          refine lv_icmp_ge (tgt := 80) hx hb dX9_runCommands_53 (by decide) (fun h27 => ?_) (fun h27 => ?_)
          · rw [if_pos h27] at hf
            have hf := Option.some.inj hf
            simp only [Prod.mk.injEq] at hf
            obtain ⟨rfl, rfl, rfl, rfl, rfl, rfl⟩ := hf
            exact K _ _ _ hP hS (lv_sub hl [1] rfl)
          · rw [if_neg h27] at hf
            refine lv_aload_n hx hb dX9_runCommands_56 rfl (lv_at hl 0 rfl) ?_
            refine lv_aload_n hx hb dX9_runCommands_57 rfl (lv_at hl 0 rfl) ?_
            obtain ⟨x28, nu29, q30, hc31, hf⟩ := ob3_e hf
            refine w_ci ⟨hx, hb, hml, hown, hts⟩ hP hK hS (k9_readCommand l hX w hc31) hc_262 (w_recv hP hK (by decide) emb_mm rfl) rfl hl.1 rfl (Nat.le_of_ble_eq_true rfl) dX9_runCommands_58 ⟨Nat.zero_le _, Nat.zero_le _⟩ (fun H locs hP hS => ?_)
            obtain ⟨x32, s33, ow34, rs35, hc36, hf⟩ := ob4_e hf
            refine w_ci ⟨hx, hb, hml, hown, hts⟩ hP hK hS (k9_carryOut l hX w hc36) hc_268 (w_recv hP hK (by decide) emb_mm rfl) rfl hl.1 rfl (Nat.le_of_ble_eq_true rfl) dX9_runCommands_61 ⟨Nat.zero_le _, Nat.zero_le _⟩ (fun H locs hP hS => ?_)
            refine lv_istore_n (lv' := [(2, .int x32), (0, .ref (xa X 314)), (1, .int x13)]) hx hb dX9_runCommands_64 rfl hl (by decide) rfl (fun ls hl => ?_)
            refine lv_iload_n hx hb dX9_runCommands_65 rfl (lv_at hl 2 rfl) ?_
            refine lv_iload_n hx hb dX9_runCommands_66 rfl (lv_at hl 0 rfl) ?_
            obtain ⟨x38, ejK39, hf⟩ := lt1_e hf
            have K39 : ∀ (H : Heap) (locs : List Loc) (ls : Array Slot), HW X (pmm w s33 u0 sv6 tx0 ow34 rs35 rn0 nu29 q30) H → va_S (xF b0) s.heap H locs → lv_has ls 3 [(0, .ref (xa X 314)), (2, .int x32)] → W p l e R s m args below meth c H locs 0 0 Q (F0 m 75 ls [.int x38, .int x13]) := by
              intro H locs ls hP hS hl
              refine lv_iadd hx hb dX9_runCommands_75 ?_
              refine lv_topi (fun x40 ex40 => ?_)
              replace hf := ltn_s ex40 hf
              refine lv_istore_n (lv' := [(1, .int x40), (0, .ref (xa X 314)), (2, .int x32)]) hx hb dX9_runCommands_76 rfl hl (by decide) rfl (fun ls hl => ?_)
              refine lv_goto (tgt := 41) hx hb dX9_runCommands_77 (by decide) ?_
              exact ih x40 x32 s33 ow34 rs35 nu29 q30 o20 os21 oow22 ors23 onu24 oq25 _ _ _ hf hP hS (lv_sub hl [1, 0, 2] rfl) K
            clear hf
            refine lv_if_eq (tgt := 74) hx hb dX9_runCommands_67 (by decide) (fun h37 => ?_) (fun h37 => ?_)
            · rw [if_pos h37] at ejK39
              refine lv_iconst (v := 0) hx hb dX9_runCommands_74 (by decide) ?_
              obtain rfl := ejK39
              exact K39 _ _ _ hP hS (lv_sub hl [1, 0] rfl)
            · rw [if_neg h37] at ejK39
              refine lv_iconst (v := 1) hx hb dX9_runCommands_70 (by decide) ?_
              refine lv_goto (tgt := 75) hx hb dX9_runCommands_71 (by decide) ?_
              obtain rfl := ejK39
              exact K39 _ _ _ hP hS (lv_sub hl [1, 0] rfl)
    obtain ⟨x41, s42, ow43, rs44, nu45, q46, hc47, hf⟩ := ob6_e hf
    refine L41 N 0 1 s0 ow0 rs0 nu2 q10 x41 s42 ow43 rs44 nu45 q46 _ _ _ hc47 hP hS (lv_sub hl [2, 1, 0] rfl) (fun H locs ls hP hS hl => ?_)
    refine lv_iload_n hx hb dX9_runCommands_80 rfl (lv_at hl 0 rfl) ?_
    have hf := Option.some.inj hf
    simp only [Prod.mk.injEq] at hf
    obtain ⟨rfl, rfl, rfl, rfl, rfl, rfl, rfl⟩ := hf
    rw [hQ]
    exact w_iret hx hb hr hlocks hP hK hS dX9_runCommands_81 rfl rfl
  · rw [if_neg h5] at hf
    refine lv_bipush (v := (-10)) hx hb dX9_runCommands_16 (by decide) ?_
    refine lv_aload_n hx hb dX9_runCommands_18 rfl (lv_at hl 0 rfl) ?_
    refine w_get hx hb hts iX9_runCommands_X9 hown hP hK (by decide) emb_mm rfl 11 (by decide) hk_f233 rfl dX9_runCommands_19 ?_
    refine lv_isub hx hb dX9_runCommands_22 ?_
    have hf := Option.some.inj hf
    simp only [Prod.mk.injEq] at hf
    obtain ⟨rfl, rfl, rfl, rfl, rfl, rfl, rfl⟩ := hf
    rw [hQ]
    exact w_iret hx hb hr hlocks hP hK hS dX9_runCommands_23 rfl rfl
abbrev rmX9_undo : Room := { frames := 0, cells := 0, slots := 0, locals := 0 }
theorem iX9_undo_X9 : ∀ w ∈ wsX90, w ∈ wsX9_undo := by decide +kernel
set_option maxHeartbeats 4000000 in
set_option maxRecDepth 100000 in
theorem k9_undo (l : Launch) {X : bkX} {b0 : Nat} (hX : XO X b0) (w : bkW) {N : Nat} {s0 : Nat → Int32} {u0 : Nat → Int32} {sv0 : Nat → Int32} {tx0 : Nat → Int32} {ow0 : Nat → Int32} {rs0 : Nat → Int64} {rn0 : Nat → Int32} {nu0 : Nat → Int32} {q0 : Nat → Int32} {res9 : Int32} {s9 : Nat → Int32} {q9 : Nat → Int32} (hf : m9_undo N s0 sv0 q0 = some (res9, s9, q9)) : cI l yX9_undo wsX9_undo rmX9_undo X b0 [.ref (xa X 314)] (pmm w s0 u0 sv0 tx0 ow0 rs0 rn0 nu0 q0) res9 (pmm w s9 u0 sv0 tx0 ow0 rs0 rn0 nu0 q9) := by
  refine Met.ofW (cc := cX9_undo) (maxL := 2) (ret := (some .int)) (by decide) rfl ?_
  intro p e s m args below meth c s₁ B hml hv
  obtain ⟨ha, hP, hK⟩ := hv
  have hx := B.exec
  have hb := B.bytes
  have hr := B.returns
  have hts := atoms_spec (ws := wsX9_undo) B.pre
  have hown : s.vm.findClass RX9 = some m.cls := findClass_of_methodNamed B.named
  have hlocks := B.notSynchronized
  obtain ⟨R, hR⟩ : ∃ R, R = (headSpec wsX9_undo rmX9_undo).room := ⟨_, rfl⟩
  rw [← hR]
  have hR1 : R.frames = 0 := by rw [hR]; rfl
  have hR2 : R.locals = 0 := by rw [hR]; rfl
  obtain ⟨Q, hQ⟩ : ∃ Q : State → Prop, Q = MQ below (va_Qi (fun r' (_ : Unit) => r' = res9) (fun _ t => WU X (pmm w s9 u0 sv0 tx0 ow0 rs0 rn0 nu0 q9) t) (xF b0)) args s 0 0 (xF b0) := ⟨_, rfl⟩
  rw [← hQ]
  have hS : va_S (xF b0) s.heap s.heap [] := va_S.rf
  have hl := lv_entry ([.ref (xa X 314)]) (n := 2) (Nat.le_of_ble_eq_true rfl)
  refine W.eq ((congrArg (fun z => entryFrame m z 2) ha).trans (lg_entry_eq m _ 2)) ?_
  generalize (lg_sl ([.ref (xa X 314)]) ++ List.replicate (2 - (lg_sl ([.ref (xa X 314)])).length) Slot.unset).toArray = ls at hl ⊢
  have hl : lv_has ls 2 [(0, .ref (xa X 314))] := hl
  have hk_f39 := hts (.fieldLink RX9 39 "BakeTurnsModel" "savedMany" "I") (by decide +kernel)
  have hk_f35 := hts (.fieldLink RX9 35 "BakeTurnsModel" "thrown" "I") (by decide +kernel)
  have hk_f7 := hts (.fieldLink RX9 7 "BakeTurnsModel" "s" "[I") (by decide +kernel)
  have hk_f16 := hts (.fieldLink RX9 16 "BakeTurnsModel" "saved" "[I") (by decide +kernel)
  unfold m9_undo at hf
  refine lv_aload_n hx hb dX9_undo_0 rfl (lv_at hl 0 rfl) ?_
  refine lv_aload_n hx hb dX9_undo_1 rfl (lv_at hl 0 rfl) ?_
  refine w_get hx hb hts iX9_undo_X9 hown hP hK (by decide) emb_mm rfl 4 (by decide) hk_f39 rfl dX9_undo_2 ?_
  obtain ⟨x2, ejK3, hf⟩ := lt1_e hf
  have K3 : ∀ (H : Heap) (locs : List Loc) (ls : Array Slot), HW X (pmm w s0 u0 sv0 tx0 ow0 rs0 rn0 nu0 q0) H → va_S (xF b0) s.heap H locs → lv_has ls 2 [(0, .ref (xa X 314))] → W p l e R s m args below meth c H locs 0 0 Q (F0 m 13 ls [.int x2, .ref (xa X 314)]) := by
    intro H locs ls hP hS hl
    refine mm_put hx hb hts iX9_undo_X9 hown hX hP hK hS 0 (by decide) hk_f35 rfl rfl (Nat.le_of_ble_eq_true rfl) (mm_es0 _) dX9_undo_13 (fun q4 eq4 H locs hP hS => ?_)
    replace hf := ltn_s eq4 hf
    refine lv_aload_n hx hb dX9_undo_16 rfl (lv_at hl 0 rfl) ?_
    refine w_get hx hb hts iX9_undo_X9 hown hP hK (by decide) emb_mm rfl 0 (by decide) hk_f35 rfl dX9_undo_17 ?_
    refine lv_if_le (tgt := 25) hx hb dX9_undo_20 (by decide) (fun h5 => ?_) (fun h5 => ?_)
    · rw [if_pos h5] at hf
      refine lv_aload_n hx hb dX9_undo_25 rfl (lv_at hl 0 rfl) ?_
      refine lv_dup hx hb dX9_undo_26 rfl ?_
      refine w_get hx hb hts iX9_undo_X9 hown hP hK (by decide) emb_mm rfl 4 (by decide) hk_f39 rfl dX9_undo_27 ?_
      refine lv_iconst (v := 1) hx hb dX9_undo_30 (by decide) ?_
      refine lv_isub hx hb dX9_undo_31 ?_
      refine mm_put hx hb hts iX9_undo_X9 hown hX hP hK hS 4 (by decide) hk_f39 rfl rfl (Nat.le_of_ble_eq_true rfl) (mm_es1 _) dX9_undo_32 (fun q6 eq6 H locs hP hS => ?_)
      replace hf := ltn_s eq6 hf
      refine lv_iconst (v := 0) hx hb dX9_undo_35 (by decide) ?_
      refine lv_istore_n (lv' := [(1, .int 0), (0, .ref (xa X 314))]) hx hb dX9_undo_36 rfl hl (by decide) rfl (fun ls hl => ?_)
      have L37 : ∀ (n : Nat) (x8 : Int32) (s9 : Nat → Int32) (os10 : Nat → Int32) (H : Heap) (locs : List Loc) (ls : Array Slot), m9_undo_L37 N n x8 s9 sv0 q6 = some os10 → HW X (pmm w s9 u0 sv0 tx0 ow0 rs0 rn0 nu0 q6) H → va_S (xF b0) s.heap H locs → lv_has ls 2 [(0, .ref (xa X 314)), (1, .int x8)] → (∀ (H1 : Heap) (locs1 : List Loc) (ls1 : Array Slot), HW X (pmm w os10 u0 sv0 tx0 ow0 rs0 rn0 nu0 q6) H1 → va_S (xF b0) s.heap H1 locs1 → lv_has ls1 2 [(0, .ref (xa X 314))] → W p l e R s m args below meth c H1 locs1 0 0 Q (F0 m 71 ls1 [])) → W p l e R s m args below meth c H locs 0 0 Q (F0 m 37 ls []) := by
        intro n; induction n with
        | zero => intro x8 s9 os10 H locs ls hf; rw [m9_undo_L37] at hf; cases hf
        | succ n ih =>
          intro x8 s9 os10 H locs ls hf hP hS hl K
          rw [m9_undo_L37] at hf
          refine lv_iload_n hx hb dX9_undo_37 rfl (lv_at hl 1 rfl) ?_
          refine lv_sipush (v := 265) hx hb dX9_undo_38 (by decide) ?_
          refine lv_icmp_ge (tgt := 71) hx hb dX9_undo_41 (by decide) (fun h11 => ?_) (fun h11 => ?_)
          · rw [if_pos h11] at hf
            have hf := Option.some.inj hf
            obtain rfl := hf
            exact K _ _ _ hP hS (lv_sub hl [0] rfl)
          · rw [if_neg h11] at hf
            refine lv_aload_n hx hb dX9_undo_44 rfl (lv_at hl 0 rfl) ?_
            refine w_get hx hb hts iX9_undo_X9 hown hP hK (by decide) emb_mm rfl 1 (by decide) hk_f7 rfl dX9_undo_45 ?_
            refine lv_iload_n hx hb dX9_undo_48 rfl (lv_at hl 1 rfl) ?_
            refine lv_aload_n hx hb dX9_undo_49 rfl (lv_at hl 0 rfl) ?_
            refine w_get hx hb hts iX9_undo_X9 hown hP hK (by decide) emb_mm rfl 3 (by decide) hk_f16 rfl dX9_undo_50 ?_
            refine lv_sipush (v := 265) hx hb dX9_undo_53 (by decide) ?_
            refine lv_aload_n hx hb dX9_undo_56 rfl (lv_at hl 0 rfl) ?_
            refine w_get hx hb hts iX9_undo_X9 hown hP hK (by decide) emb_mm rfl 4 (by decide) hk_f39 rfl dX9_undo_57 ?_
            refine lv_imul hx hb dX9_undo_60 ?_
            refine lv_iload_n hx hb dX9_undo_61 rfl (lv_at hl 1 rfl) ?_
            refine lv_iadd hx hb dX9_undo_62 ?_
            obtain ⟨hin12, hf⟩ := ck_e hf
            refine ar_ald (g := sv0) hx hb AR_sv rfl hP hK hin12 dX9_undo_63 ?_
            obtain ⟨hin13, hf⟩ := ck_e hf
            refine ar_ast (g := s9) hx hb hX AR_s rfl (fun z => pmm w z u0 sv0 tx0 ow0 rs0 rn0 nu0 q6) (fun z => pmm_s) hP hK hS hin13 dX9_undo_64 (fun s14 es14 H locs hP hS => ?_)
            replace hf := ltn_s es14 hf
            obtain ⟨x15, ex15⟩ : ∃ y : Int32, y = x8 + 1 := ⟨_, rfl⟩
            replace hf := ltn_s ex15 hf
            refine lv_iinc (v := x15) (lv' := [(1, .int x15), (0, .ref (xa X 314))]) hx hb dX9_undo_65 hl (k := 1) rfl (by rw [ex15]; rfl) (by decide) rfl (fun ls hl => ?_)
            refine lv_goto (tgt := 37) hx hb dX9_undo_68 (by decide) ?_
            exact ih x15 s14 os10 _ _ _ hf hP hS (lv_sub hl [1, 0] rfl) K
      obtain ⟨s16, hc17, hf⟩ := ob1_e hf
      refine L37 N 0 s0 s16 _ _ _ hc17 hP hS (lv_sub hl [1, 0] rfl) (fun H locs ls hP hS hl => ?_)
      refine lv_aload_n hx hb dX9_undo_71 rfl (lv_at hl 0 rfl) ?_
      refine w_get hx hb hts iX9_undo_X9 hown hP hK (by decide) emb_mm rfl 4 (by decide) hk_f39 rfl dX9_undo_72 ?_
      have hf := Option.some.inj hf
      simp only [Prod.mk.injEq] at hf
      obtain ⟨rfl, rfl, rfl⟩ := hf
      rw [hQ]
      exact w_iret hx hb hr hlocks hP hK hS dX9_undo_75 rfl rfl
    · rw [if_neg h5] at hf
      refine lv_iconst (v := 0) hx hb dX9_undo_23 (by decide) ?_
      have hf := Option.some.inj hf
      simp only [Prod.mk.injEq] at hf
      obtain ⟨rfl, rfl, rfl⟩ := hf
      rw [hQ]
      exact w_iret hx hb hr hlocks hP hK hS dX9_undo_24 rfl rfl
  clear hf
  refine lv_if_ne (tgt := 12) hx hb dX9_undo_5 (by decide) (fun h1 => ?_) (fun h1 => ?_)
  · rw [if_neg h1] at ejK3
    refine lv_iconst (v := 0) hx hb dX9_undo_12 (by decide) ?_
    obtain rfl := ejK3
    exact K3 _ _ _ hP hS (lv_sub hl [0] rfl)
  · rw [if_pos h1] at ejK3
    refine lv_iconst (v := 1) hx hb dX9_undo_8 (by decide) ?_
    refine lv_goto (tgt := 13) hx hb dX9_undo_9 (by decide) ?_
    obtain rfl := ejK3
    exact K3 _ _ _ hP hS (lv_sub hl [0] rfl)
abbrev rmX9_digest : Room := { frames := 8, cells := 0, slots := 0, locals := 183 }
theorem iX9_digest_X9 : ∀ w ∈ wsX90, w ∈ wsX9_digest := by decide +kernel
set_option maxHeartbeats 4000000 in
set_option maxRecDepth 100000 in
theorem k9_digest (l : Launch) {X : bkX} {b0 : Nat} (hX : XO X b0) (w : bkW) {N : Nat} {s0 : Nat → Int32} {u0 : Nat → Int32} {sv0 : Nat → Int32} {tx0 : Nat → Int32} {ow0 : Nat → Int32} {rs0 : Nat → Int64} {rn0 : Nat → Int32} {nu0 : Nat → Int32} {q0 : Nat → Int32} {res9 : Int64} {u9 : Nat → Int32} {ow9 : Nat → Int32} {rs9 : Nat → Int64} {q9 : Nat → Int32} (hf : m9_digest N s0 u0 ow0 rs0 q0 = some (res9, u9, ow9, rs9, q9)) : cJ l yX9_digest wsX9_digest rmX9_digest X b0 [.ref (xa X 314)] (pmm w s0 u0 sv0 tx0 ow0 rs0 rn0 nu0 q0) res9 (pmm w s0 u9 sv0 tx0 ow9 rs9 rn0 nu0 q9) := by
  refine Met.ofW (cc := cX9_digest) (maxL := 5) (ret := (some .long)) (by decide) rfl ?_
  intro p e s m args below meth c s₁ B hml hv
  obtain ⟨ha, hP, hK⟩ := hv
  have hx := B.exec
  have hb := B.bytes
  have hr := B.returns
  have hts := atoms_spec (ws := wsX9_digest) B.pre
  have hown : s.vm.findClass RX9 = some m.cls := findClass_of_methodNamed B.named
  have hlocks := B.notSynchronized
  obtain ⟨R, hR⟩ : ∃ R, R = (headSpec wsX9_digest rmX9_digest).room := ⟨_, rfl⟩
  rw [← hR]
  have hR1 : R.frames = 8 := by rw [hR]; rfl
  have hR2 : R.locals = 183 := by rw [hR]; rfl
  obtain ⟨Q, hQ⟩ : ∃ Q : State → Prop, Q = MQ below (va_Ql (fun r' (_ : Unit) => r' = res9) (fun _ t => WU X (pmm w s0 u9 sv0 tx0 ow9 rs9 rn0 nu0 q9) t) (xF b0)) args s 0 0 (xF b0) := ⟨_, rfl⟩
  rw [← hQ]
  have hS : va_S (xF b0) s.heap s.heap [] := va_S.rf
  have hl := lv_entry ([.ref (xa X 314)]) (n := 5) (Nat.le_of_ble_eq_true rfl)
  refine W.eq ((congrArg (fun z => entryFrame m z 5) ha).trans (lg_entry_eq m _ 5)) ?_
  generalize (lg_sl ([.ref (xa X 314)]) ++ List.replicate (5 - (lg_sl ([.ref (xa X 314)])).length) Slot.unset).toArray = ls at hl ⊢
  have hl : lv_has ls 5 [(0, .ref (xa X 314))] := hl
  have hk_f35 := hts (.fieldLink RX9 35 "BakeTurnsModel" "thrown" "I") (by decide +kernel)
  have hk_c271 := hts (.constantLong RX9 271 1343850) (by decide +kernel)
  have hk_f39 := hts (.fieldLink RX9 39 "BakeTurnsModel" "savedMany" "I") (by decide +kernel)
  have hk_c273 := hts (.constantLong RX9 273 31) (by decide +kernel)
  have hc_201 := (cwV 1 hts gX9_digest_X9_wholeValue rfl rfl rfl (by decide +kernel) ⟨by rw [hR1]; exact Nat.le_of_ble_eq_true rfl, by rw [hR2]; exact Nat.le_of_ble_eq_true rfl⟩ : CallW R s args RX9 RX9 201 yX9_wholeValue cX9_wholeValue 2 (some .int) wsX9_wholeValue rmX9_wholeValue 0 0 1)
  have hk_f7 := hts (.fieldLink RX9 7 "BakeTurnsModel" "s" "[I") (by decide +kernel)
  have hc_46 := (cwS 3 hts gX9_digest_X9_kindOf rfl rfl rfl (by decide +kernel) ⟨by rw [hR1]; exact Nat.le_of_ble_eq_true rfl, by rw [hR2]; exact Nat.le_of_ble_eq_true rfl⟩ : CallB R s args RX9 46 yX9_kindOf cX9_kindOf 3 (some .int) wsX9_kindOf rmX9_kindOf 0 0 3 ∧ (Cond.static yX9_kindOf).before args s = true)
  have hc_186 := (cwV 2 hts gX9_digest_X9_houseValue rfl rfl rfl (by decide +kernel) ⟨by rw [hR1]; exact Nat.le_of_ble_eq_true rfl, by rw [hR2]; exact Nat.le_of_ble_eq_true rfl⟩ : CallW R s args RX9 RX9 186 yX9_houseValue cX9_houseValue 3 (some .int) wsX9_houseValue rmX9_houseValue 0 0 2)
  have hc_217 := (cwV 1 hts gX9_digest_X9_owesNow rfl rfl rfl (by decide +kernel) ⟨by rw [hR1]; exact Nat.le_of_ble_eq_true rfl, by rw [hR2]; exact Nat.le_of_ble_eq_true rfl⟩ : CallW R s args RX9 RX9 217 yX9_owesNow cX9_owesNow 2 (some .int) wsX9_owesNow rmX9_owesNow 0 0 1)
  have hc_192 := (cwV 2 hts gX9_digest_X9_doughValue rfl rfl rfl (by decide +kernel) ⟨by rw [hR1]; exact Nat.le_of_ble_eq_true rfl, by rw [hR2]; exact Nat.le_of_ble_eq_true rfl⟩ : CallW R s args RX9 RX9 192 yX9_doughValue cX9_doughValue 3 (some .int) wsX9_doughValue rmX9_doughValue 0 0 2)
  have hc_204 := (cwV 1 hts gX9_digest_X9_reasonNow rfl rfl rfl (by decide +kernel) ⟨by rw [hR1]; exact Nat.le_of_ble_eq_true rfl, by rw [hR2]; exact Nat.le_of_ble_eq_true rfl⟩ : CallW R s args RX9 RX9 204 yX9_reasonNow cX9_reasonNow 2 (some .int) wsX9_reasonNow rmX9_reasonNow 0 0 1)
  have hc_195 := (cwV 2 hts gX9_digest_X9_placeValue rfl rfl rfl (by decide +kernel) ⟨by rw [hR1]; exact Nat.le_of_ble_eq_true rfl, by rw [hR2]; exact Nat.le_of_ble_eq_true rfl⟩ : CallW R s args RX9 RX9 195 yX9_placeValue cX9_placeValue 3 (some .int) wsX9_placeValue rmX9_placeValue 0 0 2)
  have hc_214 := (cwV 1 hts gX9_digest_X9_heatBehind rfl rfl rfl (by decide +kernel) ⟨by rw [hR1]; exact Nat.le_of_ble_eq_true rfl, by rw [hR2]; exact Nat.le_of_ble_eq_true rfl⟩ : CallW R s args RX9 RX9 214 yX9_heatBehind cX9_heatBehind 2 (some .int) wsX9_heatBehind rmX9_heatBehind 0 0 1)
  unfold m9_digest at hf
  refine lv_aload_n hx hb dX9_digest_0 rfl (lv_at hl 0 rfl) ?_
  refine lv_iconst (v := 0) hx hb dX9_digest_1 (by decide) ?_
  refine mm_put hx hb hts iX9_digest_X9 hown hX hP hK hS 0 (by decide) hk_f35 rfl rfl (Nat.le_of_ble_eq_true rfl) (mm_es0 _) dX9_digest_2 (fun q1 eq1 H locs hP hS => ?_)
  replace hf := ltn_s eq1 hf
  refine lv_ldc2 (v := 1343850) hx hb hown hk_c271 dX9_digest_5 ?_
  refine lv_aload_n hx hb dX9_digest_8 rfl (lv_at hl 0 rfl) ?_
  refine w_get hx hb hts iX9_digest_X9 hown hP hK (by decide) emb_mm rfl 4 (by decide) hk_f39 rfl dX9_digest_9 ?_
  refine lv_i2l hx hb dX9_digest_12 rfl ?_
  refine lv_ladd hx hb dX9_digest_13 ?_
  refine lv_topl (fun x2 ex2 => ?_)
  replace hf := ltn_s ex2 hf
  refine lv_lstore_n (lv' := [(1, .long x2), (0, .ref (xa X 314))]) hx hb dX9_digest_14 rfl hl (by decide) rfl (fun ls hl => ?_)
  refine lv_iconst (v := 0) hx hb dX9_digest_15 (by decide) ?_
  refine lv_istore_n (lv' := [(3, .int 0), (1, .long x2), (0, .ref (xa X 314))]) hx hb dX9_digest_16 rfl hl (by decide) rfl (fun ls hl => ?_)
  have L17 : ∀ (n : Nat) (x4 : Int64) (x5 : Int32)  (o6 : Int64) (H : Heap) (locs : List Loc) (ls : Array Slot), m9_digest_L17 N n x4 x5 s0 q1 = some o6 → HW X (pmm w s0 u0 sv0 tx0 ow0 rs0 rn0 nu0 q1) H → va_S (xF b0) s.heap H locs → lv_has ls 5 [(0, .ref (xa X 314)), (1, .long x4), (3, .int x5)] → (∀ (H1 : Heap) (locs1 : List Loc) (ls1 : Array Slot), HW X (pmm w s0 u0 sv0 tx0 ow0 rs0 rn0 nu0 q1) H1 → va_S (xF b0) s.heap H1 locs1 → lv_has ls1 5 [(0, .ref (xa X 314)), (1, .long o6)] → W p l e R s m args below meth c H1 locs1 0 0 Q (F0 m 42 ls1 [])) → W p l e R s m args below meth c H locs 0 0 Q (F0 m 17 ls []) := by
    intro n; induction n with
    | zero => intro x4 x5 o6 H locs ls hf; rw [m9_digest_L17] at hf; cases hf
    | succ n ih =>
      intro x4 x5 o6 H locs ls hf hP hS hl K
      rw [m9_digest_L17] at hf
      refine lv_iload_n hx hb dX9_digest_17 rfl (lv_at hl 2 rfl) ?_
      refine lv_bipush (v := 15) hx hb dX9_digest_18 (by decide) ?_
      refine lv_icmp_ge (tgt := 42) hx hb dX9_digest_20 (by decide) (fun h7 => ?_) (fun h7 => ?_)
      · rw [if_pos h7] at hf
        have hf := Option.some.inj hf
        obtain rfl := hf
        exact K _ _ _ hP hS (lv_sub hl [0, 1] rfl)
      · rw [if_neg h7] at hf
        refine lv_ldc2 (v := 31) hx hb hown hk_c273 dX9_digest_23 ?_
        refine lv_lload_n hx hb dX9_digest_26 rfl (lv_at hl 1 rfl) ?_
        refine lv_lmul hx hb dX9_digest_27 ?_
        refine lv_aload_n hx hb dX9_digest_28 rfl (lv_at hl 0 rfl) ?_
        refine lv_iload_n hx hb dX9_digest_29 rfl (lv_at hl 2 rfl) ?_
        obtain ⟨x8, hc9, hf⟩ := ob1_e hf
        refine w_ci ⟨hx, hb, hml, hown, hts⟩ hP hK hS (k9_wholeValue l hX w hc9) hc_201 (w_recv hP hK (by decide) emb_mm rfl) rfl hl.1 rfl (Nat.le_of_ble_eq_true rfl) dX9_digest_30 ⟨Nat.zero_le _, Nat.zero_le _⟩ (fun H locs hP hS => ?_)
        refine lv_i2l hx hb dX9_digest_33 rfl ?_
        refine lv_ladd hx hb dX9_digest_34 ?_
        refine lv_topl (fun x10 ex10 => ?_)
        replace hf := ltn_s ex10 hf
        refine lv_lstore_n (lv' := [(1, .long x10), (0, .ref (xa X 314)), (3, .int x5)]) hx hb dX9_digest_35 rfl hl (by decide) rfl (fun ls hl => ?_)
        obtain ⟨x11, ex11⟩ : ∃ y : Int32, y = x5 + 1 := ⟨_, rfl⟩
        replace hf := ltn_s ex11 hf
        refine lv_iinc (v := x11) (lv' := [(3, .int x11), (1, .long x10), (0, .ref (xa X 314))]) hx hb dX9_digest_36 hl (k := 2) rfl (by rw [ex11]; rfl) (by decide) rfl (fun ls hl => ?_)
        refine lv_goto (tgt := 17) hx hb dX9_digest_39 (by decide) ?_
        exact ih x10 x11 o6 _ _ _ hf hP hS (lv_sub hl [2, 1, 0] rfl) K
  obtain ⟨x12, hc13, hf⟩ := ob1_e hf
  refine L17 N x2 0  x12 _ _ _ hc13 hP hS (lv_sub hl [2, 1, 0] rfl) (fun H locs ls hP hS hl => ?_)
  refine lv_iconst (v := 0) hx hb dX9_digest_42 (by decide) ?_
  refine lv_istore_n (lv' := [(3, .int 0), (0, .ref (xa X 314)), (1, .long x12)]) hx hb dX9_digest_43 rfl hl (by decide) rfl (fun ls hl => ?_)
  have L44 : ∀ (n : Nat) (x15 : Int64) (x16 : Int32)  (o17 : Int64) (H : Heap) (locs : List Loc) (ls : Array Slot), m9_digest_L44 N n x15 x16 s0 = some o17 → HW X (pmm w s0 u0 sv0 tx0 ow0 rs0 rn0 nu0 q1) H → va_S (xF b0) s.heap H locs → lv_has ls 5 [(0, .ref (xa X 314)), (1, .long x15), (3, .int x16)] → (∀ (H1 : Heap) (locs1 : List Loc) (ls1 : Array Slot), HW X (pmm w s0 u0 sv0 tx0 ow0 rs0 rn0 nu0 q1) H1 → va_S (xF b0) s.heap H1 locs1 → lv_has ls1 5 [(0, .ref (xa X 314)), (1, .long o17)] → W p l e R s m args below meth c H1 locs1 0 0 Q (F0 m 93 ls1 [])) → W p l e R s m args below meth c H locs 0 0 Q (F0 m 44 ls []) := by
    intro n; induction n with
    | zero => intro x15 x16 o17 H locs ls hf; rw [m9_digest_L44] at hf; cases hf
    | succ n ih =>
      intro x15 x16 o17 H locs ls hf hP hS hl K
      rw [m9_digest_L44] at hf
      refine lv_iload_n hx hb dX9_digest_44 rfl (lv_at hl 2 rfl) ?_
      refine lv_aload_n hx hb dX9_digest_45 rfl (lv_at hl 0 rfl) ?_
      refine w_get hx hb hts iX9_digest_X9 hown hP hK (by decide) emb_mm rfl 1 (by decide) hk_f7 rfl dX9_digest_46 ?_
      refine lv_iconst (v := 2) hx hb dX9_digest_49 (by decide) ?_
      obtain ⟨hin18, hf⟩ := ck_e hf
      refine ar_ald (g := s0) hx hb AR_s rfl hP hK hin18 dX9_digest_50 ?_
      refine lv_icmp_ge (tgt := 93) hx hb dX9_digest_51 (by decide) (fun h19 => ?_) (fun h19 => ?_)
      · rw [if_pos h19] at hf
        have hf := Option.some.inj hf
        obtain rfl := hf
        exact K _ _ _ hP hS (lv_sub hl [0, 1] rfl)
      · rw [if_neg h19] at hf
        refine lv_iconst (v := 0) hx hb dX9_digest_54 (by decide) ?_
        refine lv_istore (lv' := [(4, .int 0), (0, .ref (xa X 314)), (1, .long x15), (3, .int x16)]) hx hb dX9_digest_55 hl (by decide) rfl (fun ls hl => ?_)
        have L57 : ∀ (n : Nat) (x21 : Int64) (x22 : Int32) (x23 : Int32)  (o24 : Int64) (H : Heap) (locs : List Loc) (ls : Array Slot), m9_digest_L57 N n x21 x22 x23 s0 = some o24 → HW X (pmm w s0 u0 sv0 tx0 ow0 rs0 rn0 nu0 q1) H → va_S (xF b0) s.heap H locs → lv_has ls 5 [(0, .ref (xa X 314)), (1, .long x21), (3, .int x22), (4, .int x23)] → (∀ (H1 : Heap) (locs1 : List Loc) (ls1 : Array Slot), HW X (pmm w s0 u0 sv0 tx0 ow0 rs0 rn0 nu0 q1) H1 → va_S (xF b0) s.heap H1 locs1 → lv_has ls1 5 [(0, .ref (xa X 314)), (1, .long o24), (3, .int x22)] → W p l e R s m args below meth c H1 locs1 0 0 Q (F0 m 87 ls1 [])) → W p l e R s m args below meth c H locs 0 0 Q (F0 m 57 ls []) := by
          intro n; induction n with
          | zero => intro x21 x22 x23 o24 H locs ls hf; rw [m9_digest_L57] at hf; cases hf
          | succ n ih =>
            intro x21 x22 x23 o24 H locs ls hf hP hS hl K
            rw [m9_digest_L57] at hf
            refine lv_iload hx hb dX9_digest_57 (lv_at hl 3 rfl) ?_
            refine lv_iconst (v := 5) hx hb dX9_digest_59 (by decide) ?_
            refine lv_icmp_ge (tgt := 87) hx hb dX9_digest_60 (by decide) (fun h25 => ?_) (fun h25 => ?_)
            · rw [if_pos h25] at hf
              have hf := Option.some.inj hf
              obtain rfl := hf
              exact K _ _ _ hP hS (lv_sub hl [0, 1, 2] rfl)
            · rw [if_neg h25] at hf
              refine lv_ldc2 (v := 31) hx hb hown hk_c273 dX9_digest_63 ?_
              refine lv_lload_n hx hb dX9_digest_66 rfl (lv_at hl 1 rfl) ?_
              refine lv_lmul hx hb dX9_digest_67 ?_
              refine lv_aload_n hx hb dX9_digest_68 rfl (lv_at hl 0 rfl) ?_
              refine w_get hx hb hts iX9_digest_X9 hown hP hK (by decide) emb_mm rfl 1 (by decide) hk_f7 rfl dX9_digest_69 ?_
              refine lv_iload_n hx hb dX9_digest_72 rfl (lv_at hl 2 rfl) ?_
              refine lv_iload hx hb dX9_digest_73 (lv_at hl 3 rfl) ?_
              obtain ⟨x26, hc27, hf⟩ := ob1_e hf
              refine w_csi ⟨hx, hb, hml, hown, hts⟩ hP hK hS (by have hM := k9_kindOf l hX AR_s (pmm w s0 u0 sv0 tx0 ow0 rs0 rn0 nu0 q1) hc27; simp only [pmm_s] at hM; exact hM) hc_46 rfl hl.1 rfl (Nat.le_of_ble_eq_true rfl) dX9_digest_75 ⟨Nat.zero_le _, Nat.zero_le _⟩ (fun H locs hP hS => ?_)
              refine lv_i2l hx hb dX9_digest_78 rfl ?_
              refine lv_ladd hx hb dX9_digest_79 ?_
              refine lv_topl (fun x28 ex28 => ?_)
              replace hf := ltn_s ex28 hf
              refine lv_lstore_n (lv' := [(1, .long x28), (0, .ref (xa X 314)), (3, .int x22), (4, .int x23)]) hx hb dX9_digest_80 rfl hl (by decide) rfl (fun ls hl => ?_)
              obtain ⟨x29, ex29⟩ : ∃ y : Int32, y = x23 + 1 := ⟨_, rfl⟩
              replace hf := ltn_s ex29 hf
              refine lv_iinc (v := x29) (lv' := [(4, .int x29), (1, .long x28), (0, .ref (xa X 314)), (3, .int x22)]) hx hb dX9_digest_81 hl (k := 3) rfl (by rw [ex29]; rfl) (by decide) rfl (fun ls hl => ?_)
              refine lv_goto (tgt := 57) hx hb dX9_digest_84 (by decide) ?_
              exact ih x28 x22 x29 o24 _ _ _ hf hP hS (lv_sub hl [2, 1, 3, 0] rfl) K
        obtain ⟨x30, hc31, hf⟩ := ob1_e hf
        refine L57 N x15 x16 0  x30 _ _ _ hc31 hP hS (lv_sub hl [1, 2, 3, 0] rfl) (fun H locs ls hP hS hl => ?_)
        obtain ⟨x32, ex32⟩ : ∃ y : Int32, y = x16 + 1 := ⟨_, rfl⟩
        replace hf := ltn_s ex32 hf
        refine lv_iinc (v := x32) (lv' := [(3, .int x32), (0, .ref (xa X 314)), (1, .long x30)]) hx hb dX9_digest_87 hl (k := 2) rfl (by rw [ex32]; rfl) (by decide) rfl (fun ls hl => ?_)
        refine lv_goto (tgt := 44) hx hb dX9_digest_90 (by decide) ?_
        exact ih x30 x32 o17 _ _ _ hf hP hS (lv_sub hl [1, 2, 0] rfl) K
  obtain ⟨x33, hc34, hf⟩ := ob1_e hf
  refine L44 N x12 0  x33 _ _ _ hc34 hP hS (lv_sub hl [1, 2, 0] rfl) (fun H locs ls hP hS hl => ?_)
  refine lv_iconst (v := 0) hx hb dX9_digest_93 (by decide) ?_
  refine lv_istore_n (lv' := [(3, .int 0), (0, .ref (xa X 314)), (1, .long x33)]) hx hb dX9_digest_94 rfl hl (by decide) rfl (fun ls hl => ?_)
  have L95 : ∀ (n : Nat) (x36 : Int64) (x37 : Int32) (ow38 : Nat → Int32) (rs39 : Nat → Int64) (o40 : Int64) (oow41 : Nat → Int32) (ors42 : Nat → Int64) (H : Heap) (locs : List Loc) (ls : Array Slot), m9_digest_L95 N n x36 x37 s0 ow38 rs39 = some (o40, oow41, ors42) → HW X (pmm w s0 u0 sv0 tx0 ow38 rs39 rn0 nu0 q1) H → va_S (xF b0) s.heap H locs → lv_has ls 5 [(0, .ref (xa X 314)), (1, .long x36), (3, .int x37)] → (∀ (H1 : Heap) (locs1 : List Loc) (ls1 : Array Slot), HW X (pmm w s0 u0 sv0 tx0 oow41 ors42 rn0 nu0 q1) H1 → va_S (xF b0) s.heap H1 locs1 → lv_has ls1 5 [(0, .ref (xa X 314)), (1, .long o40)] → W p l e R s m args below meth c H1 locs1 0 0 Q (F0 m 155 ls1 [])) → W p l e R s m args below meth c H locs 0 0 Q (F0 m 95 ls []) := by
    intro n; induction n with
    | zero => intro x36 x37 ow38 rs39 o40 oow41 ors42 H locs ls hf; rw [m9_digest_L95] at hf; cases hf
    | succ n ih =>
      intro x36 x37 ow38 rs39 o40 oow41 ors42 H locs ls hf hP hS hl K
      rw [m9_digest_L95] at hf
      refine lv_iload_n hx hb dX9_digest_95 rfl (lv_at hl 2 rfl) ?_
      refine lv_aload_n hx hb dX9_digest_96 rfl (lv_at hl 0 rfl) ?_
      refine w_get hx hb hts iX9_digest_X9 hown hP hK (by decide) emb_mm rfl 1 (by decide) hk_f7 rfl dX9_digest_97 ?_
      refine lv_iconst (v := 3) hx hb dX9_digest_100 (by decide) ?_
      obtain ⟨hin43, hf⟩ := ck_e hf
      refine ar_ald (g := s0) hx hb AR_s rfl hP hK hin43 dX9_digest_101 ?_
      refine lv_icmp_ge (tgt := 155) hx hb dX9_digest_102 (by decide) (fun h44 => ?_) (fun h44 => ?_)
      · rw [if_pos h44] at hf
        have hf := Option.some.inj hf
        simp only [Prod.mk.injEq] at hf
        obtain ⟨rfl, rfl, rfl⟩ := hf
        exact K _ _ _ hP hS (lv_sub hl [0, 1] rfl)
      · rw [if_neg h44] at hf
        refine lv_iconst (v := 0) hx hb dX9_digest_105 (by decide) ?_
        refine lv_istore (lv' := [(4, .int 0), (0, .ref (xa X 314)), (1, .long x36), (3, .int x37)]) hx hb dX9_digest_106 hl (by decide) rfl (fun ls hl => ?_)
        have L108 : ∀ (n : Nat) (x46 : Int64) (x47 : Int32) (x48 : Int32)  (o49 : Int64) (H : Heap) (locs : List Loc) (ls : Array Slot), m9_digest_L108 N n x46 x47 x48 s0 = some o49 → HW X (pmm w s0 u0 sv0 tx0 ow38 rs39 rn0 nu0 q1) H → va_S (xF b0) s.heap H locs → lv_has ls 5 [(0, .ref (xa X 314)), (1, .long x46), (3, .int x47), (4, .int x48)] → (∀ (H1 : Heap) (locs1 : List Loc) (ls1 : Array Slot), HW X (pmm w s0 u0 sv0 tx0 ow38 rs39 rn0 nu0 q1) H1 → va_S (xF b0) s.heap H1 locs1 → lv_has ls1 5 [(0, .ref (xa X 314)), (1, .long o49), (3, .int x47)] → W p l e R s m args below meth c H1 locs1 0 0 Q (F0 m 136 ls1 [])) → W p l e R s m args below meth c H locs 0 0 Q (F0 m 108 ls []) := by
          intro n; induction n with
          | zero => intro x46 x47 x48 o49 H locs ls hf; rw [m9_digest_L108] at hf; cases hf
          | succ n ih =>
            intro x46 x47 x48 o49 H locs ls hf hP hS hl K
            rw [m9_digest_L108] at hf
            refine lv_iload hx hb dX9_digest_108 (lv_at hl 3 rfl) ?_
            refine lv_bipush (v := 7) hx hb dX9_digest_110 (by decide) ?_
            refine lv_icmp_ge (tgt := 136) hx hb dX9_digest_112 (by decide) (fun h50 => ?_) (fun h50 => ?_)
            · rw [if_pos h50] at hf
              have hf := Option.some.inj hf
              obtain rfl := hf
              exact K _ _ _ hP hS (lv_sub hl [0, 1, 2] rfl)
            · rw [if_neg h50] at hf
              refine lv_ldc2 (v := 31) hx hb hown hk_c273 dX9_digest_115 ?_
              refine lv_lload_n hx hb dX9_digest_118 rfl (lv_at hl 1 rfl) ?_
              refine lv_lmul hx hb dX9_digest_119 ?_
              refine lv_aload_n hx hb dX9_digest_120 rfl (lv_at hl 0 rfl) ?_
              refine lv_iload_n hx hb dX9_digest_121 rfl (lv_at hl 2 rfl) ?_
              refine lv_iload hx hb dX9_digest_122 (lv_at hl 3 rfl) ?_
              obtain ⟨x51, hc52, hf⟩ := ob1_e hf
              refine w_ci ⟨hx, hb, hml, hown, hts⟩ hP hK hS (k9_houseValue l hX w hc52) hc_186 (w_recv hP hK (by decide) emb_mm rfl) rfl hl.1 rfl (Nat.le_of_ble_eq_true rfl) dX9_digest_124 ⟨Nat.zero_le _, Nat.zero_le _⟩ (fun H locs hP hS => ?_)
              refine lv_i2l hx hb dX9_digest_127 rfl ?_
              refine lv_ladd hx hb dX9_digest_128 ?_
              refine lv_topl (fun x53 ex53 => ?_)
              replace hf := ltn_s ex53 hf
              refine lv_lstore_n (lv' := [(1, .long x53), (0, .ref (xa X 314)), (3, .int x47), (4, .int x48)]) hx hb dX9_digest_129 rfl hl (by decide) rfl (fun ls hl => ?_)
              obtain ⟨x54, ex54⟩ : ∃ y : Int32, y = x48 + 1 := ⟨_, rfl⟩
              replace hf := ltn_s ex54 hf
              refine lv_iinc (v := x54) (lv' := [(4, .int x54), (1, .long x53), (0, .ref (xa X 314)), (3, .int x47)]) hx hb dX9_digest_130 hl (k := 3) rfl (by rw [ex54]; rfl) (by decide) rfl (fun ls hl => ?_)
              refine lv_goto (tgt := 108) hx hb dX9_digest_133 (by decide) ?_
              exact ih x53 x47 x54 o49 _ _ _ hf hP hS (lv_sub hl [2, 1, 3, 0] rfl) K
        obtain ⟨x55, hc56, hf⟩ := ob1_e hf
        refine L108 N x36 x37 0  x55 _ _ _ hc56 hP hS (lv_sub hl [1, 2, 3, 0] rfl) (fun H locs ls hP hS hl => ?_)
        refine lv_ldc2 (v := 31) hx hb hown hk_c273 dX9_digest_136 ?_
        refine lv_lload_n hx hb dX9_digest_139 rfl (lv_at hl 1 rfl) ?_
        refine lv_lmul hx hb dX9_digest_140 ?_
        refine lv_aload_n hx hb dX9_digest_141 rfl (lv_at hl 0 rfl) ?_
        refine lv_iload_n hx hb dX9_digest_142 rfl (lv_at hl 2 rfl) ?_
        obtain ⟨x57, ow58, rs59, hc60, hf⟩ := ob3_e hf
        refine w_ci ⟨hx, hb, hml, hown, hts⟩ hP hK hS (k9_owesNow l hX w hc60) hc_217 (w_recv hP hK (by decide) emb_mm rfl) rfl hl.1 rfl (Nat.le_of_ble_eq_true rfl) dX9_digest_143 ⟨Nat.zero_le _, Nat.zero_le _⟩ (fun H locs hP hS => ?_)
        refine lv_i2l hx hb dX9_digest_146 rfl ?_
        refine lv_ladd hx hb dX9_digest_147 ?_
        refine lv_topl (fun x61 ex61 => ?_)
        replace hf := ltn_s ex61 hf
        refine lv_lstore_n (lv' := [(1, .long x61), (0, .ref (xa X 314)), (3, .int x37)]) hx hb dX9_digest_148 rfl hl (by decide) rfl (fun ls hl => ?_)
        obtain ⟨x62, ex62⟩ : ∃ y : Int32, y = x37 + 1 := ⟨_, rfl⟩
        replace hf := ltn_s ex62 hf
        refine lv_iinc (v := x62) (lv' := [(3, .int x62), (1, .long x61), (0, .ref (xa X 314))]) hx hb dX9_digest_149 hl (k := 2) rfl (by rw [ex62]; rfl) (by decide) rfl (fun ls hl => ?_)
        refine lv_goto (tgt := 95) hx hb dX9_digest_152 (by decide) ?_
        exact ih x61 x62 ow58 rs59 o40 oow41 ors42 _ _ _ hf hP hS (lv_sub hl [2, 1, 0] rfl) K
  obtain ⟨x63, ow64, rs65, hc66, hf⟩ := ob3_e hf
  refine L95 N x33 0 ow0 rs0 x63 ow64 rs65 _ _ _ hc66 hP hS (lv_sub hl [1, 2, 0] rfl) (fun H locs ls hP hS hl => ?_)
  refine lv_iconst (v := 0) hx hb dX9_digest_155 (by decide) ?_
  refine lv_istore_n (lv' := [(3, .int 0), (0, .ref (xa X 314)), (1, .long x63)]) hx hb dX9_digest_156 rfl hl (by decide) rfl (fun ls hl => ?_)
  have L157 : ∀ (n : Nat) (x68 : Int64) (x69 : Int32)  (o70 : Int64) (H : Heap) (locs : List Loc) (ls : Array Slot), m9_digest_L157 N n x68 x69 s0 = some o70 → HW X (pmm w s0 u0 sv0 tx0 ow64 rs65 rn0 nu0 q1) H → va_S (xF b0) s.heap H locs → lv_has ls 5 [(0, .ref (xa X 314)), (1, .long x68), (3, .int x69)] → (∀ (H1 : Heap) (locs1 : List Loc) (ls1 : Array Slot), HW X (pmm w s0 u0 sv0 tx0 ow64 rs65 rn0 nu0 q1) H1 → va_S (xF b0) s.heap H1 locs1 → lv_has ls1 5 [(0, .ref (xa X 314)), (1, .long o70)] → W p l e R s m args below meth c H1 locs1 0 0 Q (F0 m 217 ls1 [])) → W p l e R s m args below meth c H locs 0 0 Q (F0 m 157 ls []) := by
    intro n; induction n with
    | zero => intro x68 x69 o70 H locs ls hf; rw [m9_digest_L157] at hf; cases hf
    | succ n ih =>
      intro x68 x69 o70 H locs ls hf hP hS hl K
      rw [m9_digest_L157] at hf
      refine lv_iload_n hx hb dX9_digest_157 rfl (lv_at hl 2 rfl) ?_
      refine lv_aload_n hx hb dX9_digest_158 rfl (lv_at hl 0 rfl) ?_
      refine w_get hx hb hts iX9_digest_X9 hown hP hK (by decide) emb_mm rfl 1 (by decide) hk_f7 rfl dX9_digest_159 ?_
      refine lv_iconst (v := 4) hx hb dX9_digest_162 (by decide) ?_
      obtain ⟨hin71, hf⟩ := ck_e hf
      refine ar_ald (g := s0) hx hb AR_s rfl hP hK hin71 dX9_digest_163 ?_
      refine lv_icmp_ge (tgt := 217) hx hb dX9_digest_164 (by decide) (fun h72 => ?_) (fun h72 => ?_)
      · rw [if_pos h72] at hf
        have hf := Option.some.inj hf
        obtain rfl := hf
        exact K _ _ _ hP hS (lv_sub hl [0, 1] rfl)
      · rw [if_neg h72] at hf
        refine lv_iconst (v := 0) hx hb dX9_digest_167 (by decide) ?_
        refine lv_istore (lv' := [(4, .int 0), (0, .ref (xa X 314)), (1, .long x68), (3, .int x69)]) hx hb dX9_digest_168 hl (by decide) rfl (fun ls hl => ?_)
        have L170 : ∀ (n : Nat) (x74 : Int64) (x75 : Int32) (x76 : Int32)  (o77 : Int64) (H : Heap) (locs : List Loc) (ls : Array Slot), m9_digest_L170 N n x74 x75 x76 s0 = some o77 → HW X (pmm w s0 u0 sv0 tx0 ow64 rs65 rn0 nu0 q1) H → va_S (xF b0) s.heap H locs → lv_has ls 5 [(0, .ref (xa X 314)), (1, .long x74), (3, .int x75), (4, .int x76)] → (∀ (H1 : Heap) (locs1 : List Loc) (ls1 : Array Slot), HW X (pmm w s0 u0 sv0 tx0 ow64 rs65 rn0 nu0 q1) H1 → va_S (xF b0) s.heap H1 locs1 → lv_has ls1 5 [(0, .ref (xa X 314)), (1, .long o77), (3, .int x75)] → W p l e R s m args below meth c H1 locs1 0 0 Q (F0 m 198 ls1 [])) → W p l e R s m args below meth c H locs 0 0 Q (F0 m 170 ls []) := by
          intro n; induction n with
          | zero => intro x74 x75 x76 o77 H locs ls hf; rw [m9_digest_L170] at hf; cases hf
          | succ n ih =>
            intro x74 x75 x76 o77 H locs ls hf hP hS hl K
            rw [m9_digest_L170] at hf
            refine lv_iload hx hb dX9_digest_170 (lv_at hl 3 rfl) ?_
            refine lv_bipush (v := 10) hx hb dX9_digest_172 (by decide) ?_
            refine lv_icmp_ge (tgt := 198) hx hb dX9_digest_174 (by decide) (fun h78 => ?_) (fun h78 => ?_)
            · rw [if_pos h78] at hf
              have hf := Option.some.inj hf
              obtain rfl := hf
              exact K _ _ _ hP hS (lv_sub hl [0, 1, 2] rfl)
            · rw [if_neg h78] at hf
              refine lv_ldc2 (v := 31) hx hb hown hk_c273 dX9_digest_177 ?_
              refine lv_lload_n hx hb dX9_digest_180 rfl (lv_at hl 1 rfl) ?_
              refine lv_lmul hx hb dX9_digest_181 ?_
              refine lv_aload_n hx hb dX9_digest_182 rfl (lv_at hl 0 rfl) ?_
              refine lv_iload_n hx hb dX9_digest_183 rfl (lv_at hl 2 rfl) ?_
              refine lv_iload hx hb dX9_digest_184 (lv_at hl 3 rfl) ?_
              obtain ⟨x79, hc80, hf⟩ := ob1_e hf
              refine w_ci ⟨hx, hb, hml, hown, hts⟩ hP hK hS (k9_doughValue l hX w hc80) hc_192 (w_recv hP hK (by decide) emb_mm rfl) rfl hl.1 rfl (Nat.le_of_ble_eq_true rfl) dX9_digest_186 ⟨Nat.zero_le _, Nat.zero_le _⟩ (fun H locs hP hS => ?_)
              refine lv_i2l hx hb dX9_digest_189 rfl ?_
              refine lv_ladd hx hb dX9_digest_190 ?_
              refine lv_topl (fun x81 ex81 => ?_)
              replace hf := ltn_s ex81 hf
              refine lv_lstore_n (lv' := [(1, .long x81), (0, .ref (xa X 314)), (3, .int x75), (4, .int x76)]) hx hb dX9_digest_191 rfl hl (by decide) rfl (fun ls hl => ?_)
              obtain ⟨x82, ex82⟩ : ∃ y : Int32, y = x76 + 1 := ⟨_, rfl⟩
              replace hf := ltn_s ex82 hf
              refine lv_iinc (v := x82) (lv' := [(4, .int x82), (1, .long x81), (0, .ref (xa X 314)), (3, .int x75)]) hx hb dX9_digest_192 hl (k := 3) rfl (by rw [ex82]; rfl) (by decide) rfl (fun ls hl => ?_)
              refine lv_goto (tgt := 170) hx hb dX9_digest_195 (by decide) ?_
              exact ih x81 x75 x82 o77 _ _ _ hf hP hS (lv_sub hl [2, 1, 3, 0] rfl) K
        obtain ⟨x83, hc84, hf⟩ := ob1_e hf
        refine L170 N x68 x69 0  x83 _ _ _ hc84 hP hS (lv_sub hl [1, 2, 3, 0] rfl) (fun H locs ls hP hS hl => ?_)
        refine lv_ldc2 (v := 31) hx hb hown hk_c273 dX9_digest_198 ?_
        refine lv_lload_n hx hb dX9_digest_201 rfl (lv_at hl 1 rfl) ?_
        refine lv_lmul hx hb dX9_digest_202 ?_
        refine lv_aload_n hx hb dX9_digest_203 rfl (lv_at hl 0 rfl) ?_
        refine lv_iload_n hx hb dX9_digest_204 rfl (lv_at hl 2 rfl) ?_
        obtain ⟨x85, hc86, hf⟩ := ob1_e hf
        refine w_ci ⟨hx, hb, hml, hown, hts⟩ hP hK hS (k9_reasonNow l hX w hc86) hc_204 (w_recv hP hK (by decide) emb_mm rfl) rfl hl.1 rfl (Nat.le_of_ble_eq_true rfl) dX9_digest_205 ⟨Nat.zero_le _, Nat.zero_le _⟩ (fun H locs hP hS => ?_)
        refine lv_i2l hx hb dX9_digest_208 rfl ?_
        refine lv_ladd hx hb dX9_digest_209 ?_
        refine lv_topl (fun x87 ex87 => ?_)
        replace hf := ltn_s ex87 hf
        refine lv_lstore_n (lv' := [(1, .long x87), (0, .ref (xa X 314)), (3, .int x69)]) hx hb dX9_digest_210 rfl hl (by decide) rfl (fun ls hl => ?_)
        obtain ⟨x88, ex88⟩ : ∃ y : Int32, y = x69 + 1 := ⟨_, rfl⟩
        replace hf := ltn_s ex88 hf
        refine lv_iinc (v := x88) (lv' := [(3, .int x88), (1, .long x87), (0, .ref (xa X 314))]) hx hb dX9_digest_211 hl (k := 2) rfl (by rw [ex88]; rfl) (by decide) rfl (fun ls hl => ?_)
        refine lv_goto (tgt := 157) hx hb dX9_digest_214 (by decide) ?_
        exact ih x87 x88 o70 _ _ _ hf hP hS (lv_sub hl [2, 1, 0] rfl) K
  obtain ⟨x89, hc90, hf⟩ := ob1_e hf
  refine L157 N x63 0  x89 _ _ _ hc90 hP hS (lv_sub hl [1, 2, 0] rfl) (fun H locs ls hP hS hl => ?_)
  refine lv_iconst (v := 0) hx hb dX9_digest_217 (by decide) ?_
  refine lv_istore_n (lv' := [(3, .int 0), (0, .ref (xa X 314)), (1, .long x89)]) hx hb dX9_digest_218 rfl hl (by decide) rfl (fun ls hl => ?_)
  have L219 : ∀ (n : Nat) (x92 : Int64) (x93 : Int32)  (o94 : Int64) (H : Heap) (locs : List Loc) (ls : Array Slot), m9_digest_L219 N n x92 x93 s0 = some o94 → HW X (pmm w s0 u0 sv0 tx0 ow64 rs65 rn0 nu0 q1) H → va_S (xF b0) s.heap H locs → lv_has ls 5 [(0, .ref (xa X 314)), (1, .long x92), (3, .int x93)] → (∀ (H1 : Heap) (locs1 : List Loc) (ls1 : Array Slot), HW X (pmm w s0 u0 sv0 tx0 ow64 rs65 rn0 nu0 q1) H1 → va_S (xF b0) s.heap H1 locs1 → lv_has ls1 5 [(0, .ref (xa X 314)), (1, .long o94)] → W p l e R s m args below meth c H1 locs1 0 0 Q (F0 m 261 ls1 [])) → W p l e R s m args below meth c H locs 0 0 Q (F0 m 219 ls []) := by
    intro n; induction n with
    | zero => intro x92 x93 o94 H locs ls hf; rw [m9_digest_L219] at hf; cases hf
    | succ n ih =>
      intro x92 x93 o94 H locs ls hf hP hS hl K
      rw [m9_digest_L219] at hf
      refine lv_iload_n hx hb dX9_digest_219 rfl (lv_at hl 2 rfl) ?_
      refine lv_bipush (v := 12) hx hb dX9_digest_220 (by decide) ?_
      refine lv_icmp_ge (tgt := 261) hx hb dX9_digest_222 (by decide) (fun h95 => ?_) (fun h95 => ?_)
      · rw [if_pos h95] at hf
        have hf := Option.some.inj hf
        obtain rfl := hf
        exact K _ _ _ hP hS (lv_sub hl [0, 1] rfl)
      · rw [if_neg h95] at hf
        refine lv_iconst (v := 0) hx hb dX9_digest_225 (by decide) ?_
        refine lv_istore (lv' := [(4, .int 0), (0, .ref (xa X 314)), (1, .long x92), (3, .int x93)]) hx hb dX9_digest_226 hl (by decide) rfl (fun ls hl => ?_)
        have L228 : ∀ (n : Nat) (x97 : Int64) (x98 : Int32) (x99 : Int32)  (o100 : Int64) (H : Heap) (locs : List Loc) (ls : Array Slot), m9_digest_L228 N n x97 x98 x99 s0 = some o100 → HW X (pmm w s0 u0 sv0 tx0 ow64 rs65 rn0 nu0 q1) H → va_S (xF b0) s.heap H locs → lv_has ls 5 [(0, .ref (xa X 314)), (1, .long x97), (3, .int x98), (4, .int x99)] → (∀ (H1 : Heap) (locs1 : List Loc) (ls1 : Array Slot), HW X (pmm w s0 u0 sv0 tx0 ow64 rs65 rn0 nu0 q1) H1 → va_S (xF b0) s.heap H1 locs1 → lv_has ls1 5 [(0, .ref (xa X 314)), (1, .long o100), (3, .int x98)] → W p l e R s m args below meth c H1 locs1 0 0 Q (F0 m 255 ls1 [])) → W p l e R s m args below meth c H locs 0 0 Q (F0 m 228 ls []) := by
          intro n; induction n with
          | zero => intro x97 x98 x99 o100 H locs ls hf; rw [m9_digest_L228] at hf; cases hf
          | succ n ih =>
            intro x97 x98 x99 o100 H locs ls hf hP hS hl K
            rw [m9_digest_L228] at hf
            refine lv_iload hx hb dX9_digest_228 (lv_at hl 3 rfl) ?_
            refine lv_iconst (v := 4) hx hb dX9_digest_230 (by decide) ?_
            refine lv_icmp_ge (tgt := 255) hx hb dX9_digest_231 (by decide) (fun h101 => ?_) (fun h101 => ?_)
            · rw [if_pos h101] at hf
              have hf := Option.some.inj hf
              obtain rfl := hf
              exact K _ _ _ hP hS (lv_sub hl [0, 1, 2] rfl)
            · rw [if_neg h101] at hf
              refine lv_ldc2 (v := 31) hx hb hown hk_c273 dX9_digest_234 ?_
              refine lv_lload_n hx hb dX9_digest_237 rfl (lv_at hl 1 rfl) ?_
              refine lv_lmul hx hb dX9_digest_238 ?_
              refine lv_aload_n hx hb dX9_digest_239 rfl (lv_at hl 0 rfl) ?_
              refine lv_iload_n hx hb dX9_digest_240 rfl (lv_at hl 2 rfl) ?_
              refine lv_iload hx hb dX9_digest_241 (lv_at hl 3 rfl) ?_
              obtain ⟨x102, hc103, hf⟩ := ob1_e hf
              refine w_ci ⟨hx, hb, hml, hown, hts⟩ hP hK hS (k9_placeValue l hX w hc103) hc_195 (w_recv hP hK (by decide) emb_mm rfl) rfl hl.1 rfl (Nat.le_of_ble_eq_true rfl) dX9_digest_243 ⟨Nat.zero_le _, Nat.zero_le _⟩ (fun H locs hP hS => ?_)
              refine lv_i2l hx hb dX9_digest_246 rfl ?_
              refine lv_ladd hx hb dX9_digest_247 ?_
              refine lv_topl (fun x104 ex104 => ?_)
              replace hf := ltn_s ex104 hf
              refine lv_lstore_n (lv' := [(1, .long x104), (0, .ref (xa X 314)), (3, .int x98), (4, .int x99)]) hx hb dX9_digest_248 rfl hl (by decide) rfl (fun ls hl => ?_)
              obtain ⟨x105, ex105⟩ : ∃ y : Int32, y = x99 + 1 := ⟨_, rfl⟩
              replace hf := ltn_s ex105 hf
              refine lv_iinc (v := x105) (lv' := [(4, .int x105), (1, .long x104), (0, .ref (xa X 314)), (3, .int x98)]) hx hb dX9_digest_249 hl (k := 3) rfl (by rw [ex105]; rfl) (by decide) rfl (fun ls hl => ?_)
              refine lv_goto (tgt := 228) hx hb dX9_digest_252 (by decide) ?_
              exact ih x104 x98 x105 o100 _ _ _ hf hP hS (lv_sub hl [2, 1, 3, 0] rfl) K
        obtain ⟨x106, hc107, hf⟩ := ob1_e hf
        refine L228 N x92 x93 0  x106 _ _ _ hc107 hP hS (lv_sub hl [1, 2, 3, 0] rfl) (fun H locs ls hP hS hl => ?_)
        obtain ⟨x108, ex108⟩ : ∃ y : Int32, y = x93 + 1 := ⟨_, rfl⟩
        replace hf := ltn_s ex108 hf
        refine lv_iinc (v := x108) (lv' := [(3, .int x108), (0, .ref (xa X 314)), (1, .long x106)]) hx hb dX9_digest_255 hl (k := 2) rfl (by rw [ex108]; rfl) (by decide) rfl (fun ls hl => ?_)
        refine lv_goto (tgt := 219) hx hb dX9_digest_258 (by decide) ?_
        exact ih x106 x108 o94 _ _ _ hf hP hS (lv_sub hl [1, 2, 0] rfl) K
  obtain ⟨x109, hc110, hf⟩ := ob1_e hf
  refine L219 N x89 0  x109 _ _ _ hc110 hP hS (lv_sub hl [1, 2, 0] rfl) (fun H locs ls hP hS hl => ?_)
  refine lv_iconst (v := 0) hx hb dX9_digest_261 (by decide) ?_
  refine lv_istore_n (lv' := [(3, .int 0), (0, .ref (xa X 314)), (1, .long x109)]) hx hb dX9_digest_262 rfl hl (by decide) rfl (fun ls hl => ?_)
  have L263 : ∀ (n : Nat) (x112 : Int64) (x113 : Int32)  (o114 : Int64) (H : Heap) (locs : List Loc) (ls : Array Slot), m9_digest_L263 N n x112 x113 s0 = some o114 → HW X (pmm w s0 u0 sv0 tx0 ow64 rs65 rn0 nu0 q1) H → va_S (xF b0) s.heap H locs → lv_has ls 5 [(0, .ref (xa X 314)), (1, .long x112), (3, .int x113)] → (∀ (H1 : Heap) (locs1 : List Loc) (ls1 : Array Slot), HW X (pmm w s0 u0 sv0 tx0 ow64 rs65 rn0 nu0 q1) H1 → va_S (xF b0) s.heap H1 locs1 → lv_has ls1 5 [(0, .ref (xa X 314)), (1, .long o114)] → W p l e R s m args below meth c H1 locs1 0 0 Q (F0 m 297 ls1 [])) → W p l e R s m args below meth c H locs 0 0 Q (F0 m 263 ls []) := by
    intro n; induction n with
    | zero => intro x112 x113 o114 H locs ls hf; rw [m9_digest_L263] at hf; cases hf
    | succ n ih =>
      intro x112 x113 o114 H locs ls hf hP hS hl K
      rw [m9_digest_L263] at hf
      refine lv_iload_n hx hb dX9_digest_263 rfl (lv_at hl 2 rfl) ?_
      refine lv_aload_n hx hb dX9_digest_264 rfl (lv_at hl 0 rfl) ?_
      refine w_get hx hb hts iX9_digest_X9 hown hP hK (by decide) emb_mm rfl 1 (by decide) hk_f7 rfl dX9_digest_265 ?_
      refine lv_iconst (v := 5) hx hb dX9_digest_268 (by decide) ?_
      obtain ⟨hin115, hf⟩ := ck_e hf
      refine ar_ald (g := s0) hx hb AR_s rfl hP hK hin115 dX9_digest_269 ?_
      refine lv_icmp_ge (tgt := 297) hx hb dX9_digest_270 (by decide) (fun h116 => ?_) (fun h116 => ?_)
      · rw [if_pos h116] at hf
        have hf := Option.some.inj hf
        obtain rfl := hf
        exact K _ _ _ hP hS (lv_sub hl [0, 1] rfl)
      · rw [if_neg h116] at hf
        refine lv_ldc2 (v := 31) hx hb hown hk_c273 dX9_digest_273 ?_
        refine lv_lload_n hx hb dX9_digest_276 rfl (lv_at hl 1 rfl) ?_
        refine lv_lmul hx hb dX9_digest_277 ?_
        refine lv_aload_n hx hb dX9_digest_278 rfl (lv_at hl 0 rfl) ?_
        refine w_get hx hb hts iX9_digest_X9 hown hP hK (by decide) emb_mm rfl 1 (by decide) hk_f7 rfl dX9_digest_279 ?_
        refine lv_sipush (v := 213) hx hb dX9_digest_282 (by decide) ?_
        refine lv_iload_n hx hb dX9_digest_285 rfl (lv_at hl 2 rfl) ?_
        refine lv_iadd hx hb dX9_digest_286 ?_
        obtain ⟨hin117, hf⟩ := ck_e hf
        refine ar_ald (g := s0) hx hb AR_s rfl hP hK hin117 dX9_digest_287 ?_
        refine lv_i2l hx hb dX9_digest_288 rfl ?_
        refine lv_ladd hx hb dX9_digest_289 ?_
        refine lv_topl (fun x118 ex118 => ?_)
        replace hf := ltn_s ex118 hf
        refine lv_lstore_n (lv' := [(1, .long x118), (0, .ref (xa X 314)), (3, .int x113)]) hx hb dX9_digest_290 rfl hl (by decide) rfl (fun ls hl => ?_)
        obtain ⟨x119, ex119⟩ : ∃ y : Int32, y = x113 + 1 := ⟨_, rfl⟩
        replace hf := ltn_s ex119 hf
        refine lv_iinc (v := x119) (lv' := [(3, .int x119), (1, .long x118), (0, .ref (xa X 314))]) hx hb dX9_digest_291 hl (k := 2) rfl (by rw [ex119]; rfl) (by decide) rfl (fun ls hl => ?_)
        refine lv_goto (tgt := 263) hx hb dX9_digest_294 (by decide) ?_
        exact ih x118 x119 o114 _ _ _ hf hP hS (lv_sub hl [2, 1, 0] rfl) K
  obtain ⟨x120, hc121, hf⟩ := ob1_e hf
  refine L263 N x109 0  x120 _ _ _ hc121 hP hS (lv_sub hl [1, 2, 0] rfl) (fun H locs ls hP hS hl => ?_)
  refine lv_ldc2 (v := 31) hx hb hown hk_c273 dX9_digest_297 ?_
  refine lv_lload_n hx hb dX9_digest_300 rfl (lv_at hl 1 rfl) ?_
  refine lv_lmul hx hb dX9_digest_301 ?_
  refine lv_aload_n hx hb dX9_digest_302 rfl (lv_at hl 0 rfl) ?_
  refine lv_bipush (v := 10) hx hb dX9_digest_303 (by decide) ?_
  obtain ⟨x122, u123, hc124, hf⟩ := ob2_e hf
  refine w_ci ⟨hx, hb, hml, hown, hts⟩ hP hK hS (k9_heatBehind l hX w hc124) hc_214 (w_recv hP hK (by decide) emb_mm rfl) rfl hl.1 rfl (Nat.le_of_ble_eq_true rfl) dX9_digest_305 ⟨Nat.zero_le _, Nat.zero_le _⟩ (fun H locs hP hS => ?_)
  refine lv_i2l hx hb dX9_digest_308 rfl ?_
  refine lv_ladd hx hb dX9_digest_309 ?_
  have hf := Option.some.inj hf
  simp only [Prod.mk.injEq] at hf
  obtain ⟨rfl, rfl, rfl, rfl, rfl⟩ := hf
  rw [hQ]
  exact w_lret hx hb hr hlocks hP hK hS dX9_digest_310 rfl rfl
