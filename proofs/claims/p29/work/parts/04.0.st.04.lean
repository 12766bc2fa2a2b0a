abbrev rmX7_exchange : Room := { frames := 2, cells := 0, slots := 0, locals := 43 }
theorem iX7_exchange_X7 : ∀ w ∈ wsX70, w ∈ wsX7_exchange := by decide +kernel
set_option maxHeartbeats 4000000 in
set_option maxRecDepth 100000 in
theorem k7_exchange (l : Launch) {X : bkX} {b0 : Nat} (hX : XO X b0) {k : Nat} (hk : k < 6) (w : bkW) {N : Nat} {f0 : bkA} {a1 : Int32} {a2 : Int32} {res9 : Int32} {f9 : bkA} (hf : m7_exchange N f0 a1 a2 = some (res9, f9)) : cI l yX7_exchange wsX7_exchange rmX7_exchange X b0 [.ref (xa X (51*k+0)), .int a1, .int a2] (pk w k f0) res9 (pk w k f9) := by
  refine Met.ofW (cc := cX7_exchange) (maxL := 5) (ret := (some .int)) (by decide) rfl ?_
  intro p e s m args below meth c s₁ B hml hv
  obtain ⟨ha, hP, hK⟩ := hv
  have hx := B.exec
  have hb := B.bytes
  have hr := B.returns
  have hts := atoms_spec (ws := wsX7_exchange) B.pre
  have hown : s.vm.findClass RX7 = some m.cls := findClass_of_methodNamed B.named
  have hlocks := B.notSynchronized
  obtain ⟨R, hR⟩ : ∃ R, R = (headSpec wsX7_exchange rmX7_exchange).room := ⟨_, rfl⟩
  rw [← hR]
  have hR1 : R.frames = 2 := by rw [hR]; rfl
  have hR2 : R.locals = 43 := by rw [hR]; rfl
  obtain ⟨Q, hQ⟩ : ∃ Q : State → Prop, Q = MQ below (va_Qi (fun r' (_ : Unit) => r' = res9) (fun _ t => WU X (pk w k f9) t) (xF b0)) args s 0 0 (xF b0) := ⟨_, rfl⟩
  rw [← hQ]
  have hS : va_S (xF b0) s.heap s.heap [] := va_S.rf
  have hl := lv_entry ([.ref (xa X (51*k+0)), .int a1, .int a2]) (n := 5) (Nat.le_of_ble_eq_true rfl)
  refine W.eq ((congrArg (fun z => entryFrame m z 5) ha).trans (lg_entry_eq m _ 5)) ?_
  generalize (lg_sl ([.ref (xa X (51*k+0)), .int a1, .int a2]) ++ List.replicate (5 - (lg_sl ([.ref (xa X (51*k+0)), .int a1, .int a2])).length) Slot.unset).toArray = ls at hl ⊢
  have hl : lv_has ls 5 [(0, .ref (xa X (51*k+0))), (1, .int a1), (2, .int a2)] := hl
  have hc_170 := (cwV 1 hts gX7_exchange_X7_placeInLine rfl rfl rfl (by decide +kernel) ⟨by rw [hR1]; exact Nat.le_of_ble_eq_true rfl, by rw [hR2]; exact Nat.le_of_ble_eq_true rfl⟩ : CallW R s args RX7 RX7 170 yX7_placeInLine cX7_placeInLine 3 (some .int) wsX7_placeInLine rmX7_placeInLine 0 0 1)
  have hk_f44 := hts (.fieldLink RX7 44 "BakeTurns$State" "inLine" "LBakeTurns$Row;") (by decide +kernel)
  have hc_127 := (cwV 2 hts gX7_exchange_X6_put rfl rfl rfl (by decide +kernel) ⟨by rw [hR1]; exact Nat.le_of_ble_eq_true rfl, by rw [hR2]; exact Nat.le_of_ble_eq_true rfl⟩ : CallW R s args RX7 RX6 127 yX6_put cX6_put 3 none wsX6_put rmX6_put 0 0 2)
  unfold m7_exchange at hf
  refine lv_aload_n hx hb dX7_exchange_0 rfl (lv_at hl 0 rfl) ?_
  refine lv_iload_n hx hb dX7_exchange_1 rfl (lv_at hl 1 rfl) ?_
  obtain ⟨x1, hc2, hf⟩ := ob1_e hf
  refine w_ci ⟨hx, hb, hml, hown, hts⟩ hP hK hS (k7_placeInLine l hX hk w hc2) hc_170 (st_recv (i0 := 0) hP hK hk (by decide) rfl rfl) rfl hl.1 rfl (Nat.le_of_ble_eq_true rfl) dX7_exchange_2 ⟨Nat.zero_le _, Nat.zero_le _⟩ (fun H locs hP hS => ?_)
  refine lv_istore_n (lv' := [(3, .int x1), (0, .ref (xa X (51*k+0))), (1, .int a1), (2, .int a2)]) hx hb dX7_exchange_5 rfl hl (by decide) rfl (fun ls hl => ?_)
  refine lv_aload_n hx hb dX7_exchange_6 rfl (lv_at hl 1 rfl) ?_
  refine lv_iload_n hx hb dX7_exchange_7 rfl (lv_at hl 3 rfl) ?_
  obtain ⟨x3, hc4, hf⟩ := ob1_e hf
  refine w_ci ⟨hx, hb, hml, hown, hts⟩ hP hK hS (k7_placeInLine l hX hk w hc4) hc_170 (st_recv (i0 := 0) hP hK hk (by decide) rfl rfl) rfl hl.1 rfl (Nat.le_of_ble_eq_true rfl) dX7_exchange_8 ⟨Nat.zero_le _, Nat.zero_le _⟩ (fun H locs hP hS => ?_)
  refine lv_istore (lv' := [(4, .int x3), (3, .int x1), (0, .ref (xa X (51*k+0))), (1, .int a1), (2, .int a2)]) hx hb dX7_exchange_11 hl (by decide) rfl (fun ls hl => ?_)
  refine lv_aload_n hx hb dX7_exchange_13 rfl (lv_at hl 2 rfl) ?_
  refine st_get (i0 := 0) hx hb hts iX7_exchange_X7 hown hP hK hk (by decide) rfl rfl 4 (by decide) hk_f44 rfl dX7_exchange_14 ?_
  refine lv_iload_n hx hb dX7_exchange_17 rfl (lv_at hl 1 rfl) ?_
  refine lv_iload_n hx hb dX7_exchange_18 rfl (lv_at hl 4 rfl) ?_
  refine st_putr hX (j := 22) (n := 16) ⟨hx, hb, hml, hown, hts⟩ hP hK hS hk (by decide) rfl hc_127 hl.1 (Nat.le_of_ble_eq_true rfl) dX7_exchange_19 (fun f5 ef5 H locs hP hS => ?_)
  replace hf := ltn_s ef5 hf
  refine lv_aload_n hx hb dX7_exchange_22 rfl (lv_at hl 2 rfl) ?_
  refine st_get (i0 := 0) hx hb hts iX7_exchange_X7 hown hP hK hk (by decide) rfl rfl 4 (by decide) hk_f44 rfl dX7_exchange_23 ?_
  refine lv_iload hx hb dX7_exchange_26 (lv_at hl 0 rfl) ?_
  refine lv_iload_n hx hb dX7_exchange_28 rfl (lv_at hl 3 rfl) ?_
  refine st_putr hX (j := 22) (n := 16) ⟨hx, hb, hml, hown, hts⟩ hP hK hS hk (by decide) rfl hc_127 hl.1 (Nat.le_of_ble_eq_true rfl) dX7_exchange_29 (fun f6 ef6 H locs hP hS => ?_)
  replace hf := ltn_s ef6 hf
  refine lv_iload hx hb dX7_exchange_32 (lv_at hl 0 rfl) ?_
  have hf := Option.some.inj hf
  simp only [Prod.mk.injEq] at hf
  obtain ⟨rfl, rfl⟩ := hf
  rw [hQ]
  exact w_iret hx hb hr hlocks hP hK hS dX7_exchange_34 rfl rfl
abbrev rmX7_settleLogs : Room := { frames := 3, cells := 0, slots := 0, locals := 78 }
theorem iX7_settleLogs_X3 : ∀ w ∈ wsX30, w ∈ wsX7_settleLogs := by decide +kernel
theorem iX7_settleLogs_X7 : ∀ w ∈ wsX70, w ∈ wsX7_settleLogs := by decide +kernel
set_option maxHeartbeats 4000000 in
set_option maxRecDepth 100000 in
theorem k7_settleLogs (l : Launch) {X : bkX} {b0 : Nat} (hX : XO X b0) {k : Nat} (hk : k < 6) (w : bkW) {N : Nat} {f0 : bkA} {res9 : Int32} {f9 : bkA} (hf : m7_settleLogs N f0 = some (res9, f9)) : cI l yX7_settleLogs wsX7_settleLogs rmX7_settleLogs X b0 [.ref (xa X (51*k+0))] (pk w k f0) res9 (pk w k f9) := by
  refine Met.ofW (cc := cX7_settleLogs) (maxL := 3) (ret := (some .int)) (by decide) rfl ?_
  intro p e s m args below meth c s₁ B hml hv
  obtain ⟨ha, hP, hK⟩ := hv
  have hx := B.exec
  have hb := B.bytes
  have hr := B.returns
  have hts := atoms_spec (ws := wsX7_settleLogs) B.pre
  have hown : s.vm.findClass RX7 = some m.cls := findClass_of_methodNamed B.named
  have hlocks := B.notSynchronized
  obtain ⟨R, hR⟩ : ∃ R, R = (headSpec wsX7_settleLogs rmX7_settleLogs).room := ⟨_, rfl⟩
  rw [← hR]
  have hR1 : R.frames = 3 := by rw [hR]; rfl
  have hR2 : R.locals = 78 := by rw [hR]; rfl
  obtain ⟨Q, hQ⟩ : ∃ Q : State → Prop, Q = MQ below (va_Qi (fun r' (_ : Unit) => r' = res9) (fun _ t => WU X (pk w k f9) t) (xF b0)) args s 0 0 (xF b0) := ⟨_, rfl⟩
  rw [← hQ]
  have hS : va_S (xF b0) s.heap s.heap [] := va_S.rf
  have hl := lv_entry ([.ref (xa X (51*k+0))]) (n := 3) (Nat.le_of_ble_eq_true rfl)
  refine W.eq ((congrArg (fun z => entryFrame m z 3) ha).trans (lg_entry_eq m _ 3)) ?_
  generalize (lg_sl ([.ref (xa X (51*k+0))]) ++ List.replicate (3 - (lg_sl ([.ref (xa X (51*k+0))])).length) Slot.unset).toArray = ls at hl ⊢
  have hl : lv_has ls 3 [(0, .ref (xa X (51*k+0)))] := hl
  have hc_182 := (cwV 0 hts gX7_settleLogs_X7_useOfAll rfl rfl rfl (by decide +kernel) ⟨by rw [hR1]; exact Nat.le_of_ble_eq_true rfl, by rw [hR2]; exact Nat.le_of_ble_eq_true rfl⟩ : CallW R s args RX7 RX7 182 yX7_useOfAll cX7_useOfAll 3 (some .int) wsX7_useOfAll rmX7_useOfAll 0 0 0)
  have hk_f74 := hts (.fieldLink RX7 74 "BakeTurns$State" "unsettled" "I") (by decide +kernel)
  have hk_f21 := hts (.fieldLink RX7 21 "BakeTurns$State" "houses" "LBakeTurns$Houses;") (by decide +kernel)
  have hk_f95 := hts (.fieldLink RX7 95 "BakeTurns$Houses" "count" "I") (by decide +kernel)
  have hk_f120 := hts (.fieldLink RX7 120 "BakeTurns$Houses" "balance" "LBakeTurns$Row;") (by decide +kernel)
  have hk_f179 := hts (.fieldLink RX7 179 "BakeTurns$Houses" "paid" "LBakeTurns$Row;") (by decide +kernel)
  have hc_104 := (cwV 1 hts gX7_settleLogs_X6_at rfl rfl rfl (by decide +kernel) ⟨by rw [hR1]; exact Nat.le_of_ble_eq_true rfl, by rw [hR2]; exact Nat.le_of_ble_eq_true rfl⟩ : CallW R s args RX7 RX6 104 yX6_at cX6_at 2 (some .int) wsX6_at rmX6_at 0 0 1)
  have hc_186 := (cwV 1 hts gX7_settleLogs_X7_owedBy rfl rfl rfl (by decide +kernel) ⟨by rw [hR1]; exact Nat.le_of_ble_eq_true rfl, by rw [hR2]; exact Nat.le_of_ble_eq_true rfl⟩ : CallW R s args RX7 RX7 186 yX7_owedBy cX7_owedBy 16 (some .int) wsX7_owedBy rmX7_owedBy 0 0 1)
  have hc_173 := (cwV 2 hts gX7_settleLogs_X6_increase rfl rfl rfl (by decide +kernel) ⟨by rw [hR1]; exact Nat.le_of_ble_eq_true rfl, by rw [hR2]; exact Nat.le_of_ble_eq_true rfl⟩ : CallW R s args RX7 RX6 173 yX6_increase cX6_increase 3 none wsX6_increase rmX6_increase 0 0 2)
  have hk_f189 := hts (.fieldLink RX7 189 "BakeTurns$Houses" "use" "LBakeTurns$Row;") (by decide +kernel)
  have hc_192 := (cwV 1 hts gX7_settleLogs_X6_fill rfl rfl rfl (by decide +kernel) ⟨by rw [hR1]; exact Nat.le_of_ble_eq_true rfl, by rw [hR2]; exact Nat.le_of_ble_eq_true rfl⟩ : CallW R s args RX7 RX6 192 yX6_fill cX6_fill 3 none wsX6_fill rmX6_fill 0 0 1)
  unfold m7_settleLogs at hf
  refine lv_aload_n hx hb dX7_settleLogs_0 rfl (lv_at hl 0 rfl) ?_
  obtain ⟨x1, hc2, hf⟩ := ob1_e hf
  refine w_ci ⟨hx, hb, hml, hown, hts⟩ hP hK hS (k7_useOfAll l hX hk w hc2) hc_182 (st_recv (i0 := 0) hP hK hk (by decide) rfl rfl) rfl hl.1 rfl (Nat.le_of_ble_eq_true rfl) dX7_settleLogs_1 ⟨Nat.zero_le _, Nat.zero_le _⟩ (fun H locs hP hS => ?_)
  refine lv_if_ne (tgt := 9) hx hb dX7_settleLogs_4 (by decide) (fun h3 => ?_) (fun h3 => ?_)
  · rw [if_neg h3] at hf
    refine lv_aload_n hx hb dX7_settleLogs_9 rfl (lv_at hl 0 rfl) ?_
    refine st_get (i0 := 0) hx hb hts iX7_settleLogs_X7 hown hP hK hk (by decide) rfl rfl 8 (by decide) hk_f74 rfl dX7_settleLogs_10 ?_
    refine lv_topi (fun x4 ex4 => ?_)
    replace hf := ltn_s ex4 hf
    refine lv_istore_n (lv' := [(1, .int x4), (0, .ref (xa X (51*k+0)))]) hx hb dX7_settleLogs_13 rfl hl (by decide) rfl (fun ls hl => ?_)
    refine lv_iconst (v := 0) hx hb dX7_settleLogs_14 (by decide) ?_
    refine lv_istore_n (lv' := [(2, .int 0), (1, .int x4), (0, .ref (xa X (51*k+0)))]) hx hb dX7_settleLogs_15 rfl hl (by decide) rfl (fun ls hl => ?_)
    have L16 : ∀ (n : Nat) (x6 : Int32) (x7 : Int32) (f8 : bkA) (of9 : bkA) (H : Heap) (locs : List Loc) (ls : Array Slot), m7_settleLogs_L16 N n x6 x7 f8 = some of9 → HW X (pk w k f8) H → va_S (xF b0) s.heap H locs → lv_has ls 3 [(0, .ref (xa X (51*k+0))), (1, .int x6), (2, .int x7)] → (∀ (H1 : Heap) (locs1 : List Loc) (ls1 : Array Slot), HW X (pk w k of9) H1 → va_S (xF b0) s.heap H1 locs1 → lv_has ls1 3 [(0, .ref (xa X (51*k+0))), (1, .int x6)] → W p l e R s m args below meth c H1 locs1 0 0 Q (F0 m 61 ls1 [])) → W p l e R s m args below meth c H locs 0 0 Q (F0 m 16 ls []) := by
      intro n; induction n with
      | zero => intro x6 x7 f8 of9 H locs ls hf; rw [m7_settleLogs_L16] at hf; cases hf
      | succ n ih =>
        intro x6 x7 f8 of9 H locs ls hf hP hS hl K
        rw [m7_settleLogs_L16] at hf
        refine lv_iload_n hx hb dX7_settleLogs_16 rfl (lv_at hl 2 rfl) ?_
        refine lv_aload_n hx hb dX7_settleLogs_17 rfl (lv_at hl 0 rfl) ?_
        refine st_get (i0 := 0) hx hb hts iX7_settleLogs_X7 hown hP hK hk (by decide) rfl rfl 1 (by decide) hk_f21 rfl dX7_settleLogs_18 ?_
        refine st_get (i0 := 2) hx hb hts iX7_settleLogs_X3 hown hP hK hk (by decide) rfl rfl 0 (by decide) hk_f95 rfl dX7_settleLogs_21 ?_
        refine lv_icmp_ge (tgt := 61) hx hb dX7_settleLogs_24 (by decide) (fun h10 => ?_) (fun h10 => ?_)
        · rw [if_pos h10] at hf
          have hf := Option.some.inj hf
          obtain rfl := hf
          exact K _ _ _ hP hS (lv_sub hl [0, 1] rfl)
        · rw [if_neg h10] at hf
          refine lv_aload_n hx hb dX7_settleLogs_27 rfl (lv_at hl 0 rfl) ?_
          refine st_get (i0 := 0) hx hb hts iX7_settleLogs_X7 hown hP hK hk (by decide) rfl rfl 1 (by decide) hk_f21 rfl dX7_settleLogs_28 ?_
          refine st_get (i0 := 2) hx hb hts iX7_settleLogs_X3 hown hP hK hk (by decide) rfl rfl 1 (by decide) hk_f120 rfl dX7_settleLogs_31 ?_
          refine lv_iload_n hx hb dX7_settleLogs_34 rfl (lv_at hl 2 rfl) ?_
          refine lv_aload_n hx hb dX7_settleLogs_35 rfl (lv_at hl 0 rfl) ?_
          refine st_get (i0 := 0) hx hb hts iX7_settleLogs_X7 hown hP hK hk (by decide) rfl rfl 1 (by decide) hk_f21 rfl dX7_settleLogs_36 ?_
          refine st_get (i0 := 2) hx hb hts iX7_settleLogs_X3 hown hP hK hk (by decide) rfl rfl 3 (by decide) hk_f179 rfl dX7_settleLogs_39 ?_
          refine lv_iload_n hx hb dX7_settleLogs_42 rfl (lv_at hl 2 rfl) ?_
          refine st_at (j := 7) (n := 8) ⟨hx, hb, hml, hown, hts⟩ hP hK hS hk (by decide) rfl hc_104 hl.1 (Nat.le_of_ble_eq_true rfl) dX7_settleLogs_43 (fun H locs hP hS => ?_)
          refine lv_aload_n hx hb dX7_settleLogs_46 rfl (lv_at hl 0 rfl) ?_
          refine lv_iload_n hx hb dX7_settleLogs_47 rfl (lv_at hl 2 rfl) ?_
          obtain ⟨x11, hc12, hf⟩ := ob1_e hf
          refine w_ci ⟨hx, hb, hml, hown, hts⟩ hP hK hS (k7_owedBy l hX hk w hc12) hc_186 (st_recv (i0 := 0) hP hK hk (by decide) rfl rfl) rfl hl.1 rfl (Nat.le_of_ble_eq_true rfl) dX7_settleLogs_48 ⟨Nat.zero_le _, Nat.zero_le _⟩ (fun H locs hP hS => ?_)
          refine lv_isub hx hb dX7_settleLogs_51 ?_
          refine st_incr hX (j := 5) (n := 8) ⟨hx, hb, hml, hown, hts⟩ hP hK hS hk (by decide) rfl hc_173 hl.1 (Nat.le_of_ble_eq_true rfl) dX7_settleLogs_52 (fun f13 ef13 H locs hP hS => ?_)
          replace hf := ltn_s ef13 hf
          obtain ⟨x14, ex14⟩ : ∃ y : Int32, y = x7 + 1 := ⟨_, rfl⟩
          replace hf := ltn_s ex14 hf
          refine lv_iinc (v := x14) (lv' := [(2, .int x14), (0, .ref (xa X (51*k+0))), (1, .int x6)]) hx hb dX7_settleLogs_55 hl (k := 2) rfl (by rw [ex14]; rfl) (by decide) rfl (fun ls hl => ?_)
          refine lv_goto (tgt := 16) hx hb dX7_settleLogs_58 (by decide) ?_
          exact ih x6 x14 f13 of9 _ _ _ hf hP hS (lv_sub hl [1, 2, 0] rfl) K
    obtain ⟨f15, hc16, hf⟩ := ob1_e hf
    refine L16 N x4 0 f0 f15 _ _ _ hc16 hP hS (lv_sub hl [2, 1, 0] rfl) (fun H locs ls hP hS hl => ?_)
    refine lv_aload_n hx hb dX7_settleLogs_61 rfl (lv_at hl 0 rfl) ?_
    refine st_get (i0 := 0) hx hb hts iX7_settleLogs_X7 hown hP hK hk (by decide) rfl rfl 1 (by decide) hk_f21 rfl dX7_settleLogs_62 ?_
    refine st_get (i0 := 2) hx hb hts iX7_settleLogs_X3 hown hP hK hk (by decide) rfl rfl 2 (by decide) hk_f189 rfl dX7_settleLogs_65 ?_
    refine lv_iconst (v := 0) hx hb dX7_settleLogs_68 (by decide) ?_
    refine st_fill hX (j := 6) (n := 8) ⟨hx, hb, hml, hown, hts⟩ hP hK hS hk (by decide) rfl hc_192 hl.1 (Nat.le_of_ble_eq_true rfl) dX7_settleLogs_69 (fun f17 ef17 H locs hP hS => ?_)
    replace hf := ltn_s ef17 hf
    refine lv_aload_n hx hb dX7_settleLogs_72 rfl (lv_at hl 0 rfl) ?_
    refine st_get (i0 := 0) hx hb hts iX7_settleLogs_X7 hown hP hK hk (by decide) rfl rfl 1 (by decide) hk_f21 rfl dX7_settleLogs_73 ?_
    refine st_get (i0 := 2) hx hb hts iX7_settleLogs_X3 hown hP hK hk (by decide) rfl rfl 3 (by decide) hk_f179 rfl dX7_settleLogs_76 ?_
    refine lv_iconst (v := 0) hx hb dX7_settleLogs_79 (by decide) ?_
    refine st_fill hX (j := 7) (n := 8) ⟨hx, hb, hml, hown, hts⟩ hP hK hS hk (by decide) rfl hc_192 hl.1 (Nat.le_of_ble_eq_true rfl) dX7_settleLogs_80 (fun f18 ef18 H locs hP hS => ?_)
    replace hf := ltn_s ef18 hf
    refine lv_aload_n hx hb dX7_settleLogs_83 rfl (lv_at hl 0 rfl) ?_
    refine lv_iconst (v := 0) hx hb dX7_settleLogs_84 (by decide) ?_
    refine st_put (i0 := 0) hx hb hts iX7_settleLogs_X7 tyX7 tyX7_ok nmX7 hown hX hP hK hS hk (by decide) rfl rfl 8 (by decide) hk_f74 rfl rfl (Nat.le_of_ble_eq_true rfl) es_6 dX7_settleLogs_85 (fun f19 ef19 H locs hP hS => ?_)
    replace hf := ltn_s ef19 hf
    refine lv_iload_n hx hb dX7_settleLogs_88 rfl (lv_at hl 1 rfl) ?_
    have hf := Option.some.inj hf
    simp only [Prod.mk.injEq] at hf
    obtain ⟨rfl, rfl⟩ := hf
    rw [hQ]
    exact w_iret hx hb hr hlocks hP hK hS dX7_settleLogs_89 rfl rfl
  · rw [if_pos h3] at hf
    refine lv_iconst (v := 0) hx hb dX7_settleLogs_7 (by decide) ?_
    have hf := Option.some.inj hf
    simp only [Prod.mk.injEq] at hf
    obtain ⟨rfl, rfl⟩ := hf
    rw [hQ]
    exact w_iret hx hb hr hlocks hP hK hS dX7_settleLogs_8 rfl rfl
abbrev rmX7_load : Room := { frames := 2, cells := 0, slots := 0, locals := 44 }
theorem iX7_load_X1 : ∀ w ∈ wsX10, w ∈ wsX7_load := by decide +kernel
theorem iX7_load_X4 : ∀ w ∈ wsX40, w ∈ wsX7_load := by decide +kernel
theorem iX7_load_X7 : ∀ w ∈ wsX70, w ∈ wsX7_load := by decide +kernel
set_option maxHeartbeats 4000000 in
set_option maxRecDepth 100000 in
theorem k7_load (l : Launch) {X : bkX} {b0 : Nat} (hX : XO X b0) {k : Nat} (hk : k < 6) (w : bkW) {N : Nat} {f0 : bkA} {a1 : Int32} {f9 : bkA} (hf : m7_load N f0 a1 = some f9) : cV l yX7_load wsX7_load rmX7_load X b0 [.ref (xa X (51*k+0)), .int a1] (pk w k f0) (pk w k f9) := by
  refine Met.ofW (cc := cX7_load) (maxL := 6) (ret := none) (by decide) rfl ?_
  intro p e s m args below meth c s₁ B hml hv
  obtain ⟨ha, hP, hK⟩ := hv
  have hx := B.exec
  have hb := B.bytes
  have hr := B.returns
  have hts := atoms_spec (ws := wsX7_load) B.pre
  have hown : s.vm.findClass RX7 = some m.cls := findClass_of_methodNamed B.named
  have hlocks := B.notSynchronized
  obtain ⟨R, hR⟩ : ∃ R, R = (headSpec wsX7_load rmX7_load).room := ⟨_, rfl⟩
  rw [← hR]
  have hR1 : R.frames = 2 := by rw [hR]; rfl
  have hR2 : R.locals = 44 := by rw [hR]; rfl
  obtain ⟨Q, hQ⟩ : ∃ Q : State → Prop, Q = MQ below (va_Qv (fun (_ : Unit) => True) (fun _ t => WU X (pk w k f9) t) (xF b0)) args s 0 0 (xF b0) := ⟨_, rfl⟩
  rw [← hQ]
  have hS : va_S (xF b0) s.heap s.heap [] := va_S.rf
  have hl := lv_entry ([.ref (xa X (51*k+0)), .int a1]) (n := 6) (Nat.le_of_ble_eq_true rfl)
  refine W.eq ((congrArg (fun z => entryFrame m z 6) ha).trans (lg_entry_eq m _ 6)) ?_
  generalize (lg_sl ([.ref (xa X (51*k+0)), .int a1]) ++ List.replicate (6 - (lg_sl ([.ref (xa X (51*k+0)), .int a1])).length) Slot.unset).toArray = ls at hl ⊢
  have hl : lv_has ls 6 [(0, .ref (xa X (51*k+0))), (1, .int a1)] := hl
  have hk_f28 := hts (.fieldLink RX7 28 "BakeTurns$State" "doughs" "LBakeTurns$Doughs;") (by decide +kernel)
  have hk_f146 := hts (.fieldLink RX7 146 "BakeTurns$Doughs" "kindOf" "LBakeTurns$Row;") (by decide +kernel)
  have hc_104 := (cwV 1 hts gX7_load_X6_at rfl rfl rfl (by decide +kernel) ⟨by rw [hR1]; exact Nat.le_of_ble_eq_true rfl, by rw [hR2]; exact Nat.le_of_ble_eq_true rfl⟩ : CallW R s args RX7 RX6 104 yX6_at cX6_at 2 (some .int) wsX6_at rmX6_at 0 0 1)
  have hk_f149 := hts (.fieldLink RX7 149 "BakeTurns$Doughs" "loaves" "LBakeTurns$Row;") (by decide +kernel)
  have hk_f68 := hts (.fieldLink RX7 68 "BakeTurns$State" "heat" "I") (by decide +kernel)
  have hc_217 := (cwS 2 hts gX7_load_X7_warmthOf rfl rfl rfl (by decide +kernel) ⟨by rw [hR1]; exact Nat.le_of_ble_eq_true rfl, by rw [hR2]; exact Nat.le_of_ble_eq_true rfl⟩ : CallB R s args RX7 217 yX7_warmthOf cX7_warmthOf 2 (some .int) wsX7_warmthOf rmX7_warmthOf 0 0 2 ∧ (Cond.static yX7_warmthOf).before args s = true)
  have hk_f35 := hts (.fieldLink RX7 35 "BakeTurns$State" "places" "LBakeTurns$Places;") (by decide +kernel)
  have hc_220 := (cwV 1 hts gX7_load_X5_isFree rfl rfl rfl (by decide +kernel) ⟨by rw [hR1]; exact Nat.le_of_ble_eq_true rfl, by rw [hR2]; exact Nat.le_of_ble_eq_true rfl⟩ : CallW R s args RX7 RX5 220 yX5_isFree cX5_isFree 2 (some .boolean) wsX5_isFree rmX5_isFree 0 0 1)
  have hk_f12 := hts (.fieldLink RX7 12 "BakeTurns$State" "kinds" "LBakeTurns$Kinds;") (by decide +kernel)
  have hk_f124 := hts (.fieldLink RX7 124 "BakeTurns$Kinds" "least" "LBakeTurns$Row;") (by decide +kernel)
  have hk_f131 := hts (.fieldLink RX7 131 "BakeTurns$Kinds" "greatest" "LBakeTurns$Row;") (by decide +kernel)
  have hc_223 := (cwV 2 hts gX7_load_X5_putLoaf rfl rfl rfl (by decide +kernel) ⟨by rw [hR1]; exact Nat.le_of_ble_eq_true rfl, by rw [hR2]; exact Nat.le_of_ble_eq_true rfl⟩ : CallW R s args RX7 RX5 223 yX5_putLoaf cX5_putLoaf 3 none wsX5_putLoaf rmX5_putLoaf 0 0 2)
  have hk_f101 := hts (.fieldLink RX7 101 "BakeTurns$Doughs" "phase" "LBakeTurns$Row;") (by decide +kernel)
  have hc_127 := (cwV 2 hts gX7_load_X6_put rfl rfl rfl (by decide +kernel) ⟨by rw [hR1]; exact Nat.le_of_ble_eq_true rfl, by rw [hR2]; exact Nat.le_of_ble_eq_true rfl⟩ : CallW R s args RX7 RX6 127 yX6_put cX6_put 3 none wsX6_put rmX6_put 0 0 2)
  have hk_f108 := hts (.fieldLink RX7 108 "BakeTurns$Doughs" "loadedAt" "LBakeTurns$Row;") (by decide +kernel)
  have hk_f71 := hts (.fieldLink RX7 71 "BakeTurns$State" "ticks" "I") (by decide +kernel)
  unfold m7_load at hf
  refine lv_aload_n hx hb dX7_load_0 rfl (lv_at hl 0 rfl) ?_
  refine st_get (i0 := 0) hx hb hts iX7_load_X7 hown hP hK hk (by decide) rfl rfl 2 (by decide) hk_f28 rfl dX7_load_1 ?_
  refine st_get (i0 := 3) hx hb hts iX7_load_X1 hown hP hK hk (by decide) rfl rfl 2 (by decide) hk_f146 rfl dX7_load_4 ?_
  refine lv_iload_n hx hb dX7_load_7 rfl (lv_at hl 1 rfl) ?_
  refine st_at (j := 12) (n := 16) ⟨hx, hb, hml, hown, hts⟩ hP hK hS hk (by decide) rfl hc_104 hl.1 (Nat.le_of_ble_eq_true rfl) dX7_load_8 (fun H locs hP hS => ?_)
  refine lv_topi (fun x1 ex1 => ?_)
  replace hf := ltn_s ex1 hf
  refine lv_istore_n (lv' := [(2, .int x1), (0, .ref (xa X (51*k+0))), (1, .int a1)]) hx hb dX7_load_11 rfl hl (by decide) rfl (fun ls hl => ?_)
  refine lv_aload_n hx hb dX7_load_12 rfl (lv_at hl 1 rfl) ?_
  refine st_get (i0 := 0) hx hb hts iX7_load_X7 hown hP hK hk (by decide) rfl rfl 2 (by decide) hk_f28 rfl dX7_load_13 ?_
  refine st_get (i0 := 3) hx hb hts iX7_load_X1 hown hP hK hk (by decide) rfl rfl 3 (by decide) hk_f149 rfl dX7_load_16 ?_
  refine lv_iload_n hx hb dX7_load_19 rfl (lv_at hl 2 rfl) ?_
  refine st_at (j := 13) (n := 16) ⟨hx, hb, hml, hown, hts⟩ hP hK hS hk (by decide) rfl hc_104 hl.1 (Nat.le_of_ble_eq_true rfl) dX7_load_20 (fun H locs hP hS => ?_)
  refine lv_topi (fun x2 ex2 => ?_)
  replace hf := ltn_s ex2 hf
  refine lv_istore_n (lv' := [(3, .int x2), (2, .int x1), (0, .ref (xa X (51*k+0))), (1, .int a1)]) hx hb dX7_load_23 rfl hl (by decide) rfl (fun ls hl => ?_)
  refine lv_iconst (v := 0) hx hb dX7_load_24 (by decide) ?_
  refine lv_istore (lv' := [(4, .int 0), (3, .int x2), (2, .int x1), (0, .ref (xa X (51*k+0))), (1, .int a1)]) hx hb dX7_load_25 hl (by decide) rfl (fun ls hl => ?_)
  have L27 : ∀ (n : Nat) (x4 : Int32) (x5 : Int32) (x6 : Int32) (x7 : Int32) (f8 : bkA) (of9 : bkA) (H : Heap) (locs : List Loc) (ls : Array Slot), m7_load_L27 N n x4 x5 x6 x7 f8 = some of9 → HW X (pk w k f8) H → va_S (xF b0) s.heap H locs → lv_has ls 6 [(0, .ref (xa X (51*k+0))), (1, .int x4), (2, .int x5), (3, .int x6), (4, .int x7)] → (∀ (H1 : Heap) (locs1 : List Loc) (ls1 : Array Slot), HW X (pk w k of9) H1 → va_S (xF b0) s.heap H1 locs1 → lv_has ls1 6 [(0, .ref (xa X (51*k+0))), (1, .int x4)] → W p l e R s m args below meth c H1 locs1 0 0 Q (F0 m 112 ls1 [])) → W p l e R s m args below meth c H locs 0 0 Q (F0 m 27 ls []) := by
    intro n; induction n with
    | zero => intro x4 x5 x6 x7 f8 of9 H locs ls hf; rw [m7_load_L27] at hf; cases hf
    | succ n ih =>
      intro x4 x5 x6 x7 f8 of9 H locs ls hf hP hS hl K
      rw [m7_load_L27] at hf
      refine lv_iload hx hb dX7_load_27 (lv_at hl 4 rfl) ?_
      refine lv_bipush (v := 12) hx hb dX7_load_29 (by decide) ?_
      refine lv_icmp_ge (tgt := 112) hx hb dX7_load_31 (by decide) (fun h10 => ?_) (fun h10 => ?_)
      · rw [if_pos h10] at hf
        have hf := Option.some.inj hf
        obtain rfl := hf
        exact K _ _ _ hP hS (lv_sub hl [0, 1] rfl)
      · rw [if_neg h10] at hf
        refine lv_iload_n hx hb dX7_load_34 rfl (lv_at hl 3 rfl) ?_
        refine lv_if_le (tgt := 112) hx hb dX7_load_35 (by decide) (fun h11 => ?_) (fun h11 => ?_)
        · rw [if_pos h11] at hf
          have hf := Option.some.inj hf
          obtain rfl := hf
          exact K _ _ _ hP hS (lv_sub hl [0, 1] rfl)
        · rw [if_neg h11] at hf
          refine lv_iload hx hb dX7_load_38 (lv_at hl 4 rfl) ?_
          refine lv_aload_n hx hb dX7_load_40 rfl (lv_at hl 0 rfl) ?_
          refine st_get (i0 := 0) hx hb hts iX7_load_X7 hown hP hK hk (by decide) rfl rfl 6 (by decide) hk_f68 rfl dX7_load_41 ?_
          obtain ⟨x12, hc13, hf⟩ := lt1_e hf
          refine w_csi ⟨hx, hb, hml, hown, hts⟩ hP hK hS (k7_warmthOf l hX hk w hc13) hc_217 rfl hl.1 rfl (Nat.le_of_ble_eq_true rfl) dX7_load_44 ⟨Nat.zero_le _, Nat.zero_le _⟩ (fun H locs hP hS => ?_)
          refine lv_istore (lv' := [(5, .int x12), (0, .ref (xa X (51*k+0))), (1, .int x4), (2, .int x5), (3, .int x6), (4, .int x7)]) hx hb dX7_load_47 hl (by decide) rfl (fun ls hl => ?_)
          refine lv_aload_n hx hb dX7_load_49 rfl (lv_at hl 1 rfl) ?_
          refine st_get (i0 := 0) hx hb hts iX7_load_X7 hown hP hK hk (by decide) rfl rfl 3 (by decide) hk_f35 rfl dX7_load_50 ?_
          refine lv_iload hx hb dX7_load_53 (lv_at hl 5 rfl) ?_
          obtain ⟨x14, hc15, hf⟩ := lt1_e hf
          refine w_ci ⟨hx, hb, hml, hown, hts⟩ hP hK hS (k5_isFree l hX hk w hc15) hc_220 (st_recv (i0 := 4) hP hK hk (by decide) rfl rfl) rfl hl.1 rfl (Nat.le_of_ble_eq_true rfl) dX7_load_55 ⟨Nat.zero_le _, Nat.zero_le _⟩ (fun H locs hP hS => ?_)
          obtain ⟨x22, f23, ejK24, hf⟩ := lt2_e hf
          have K24 : ∀ (H : Heap) (locs : List Loc) (ls : Array Slot), HW X (pk w k f23) H → va_S (xF b0) s.heap H locs → lv_has ls 6 [(0, .ref (xa X (51*k+0))), (1, .int x4), (2, .int x5), (3, .int x22), (4, .int x7)] → W p l e R s m args below meth c H locs 0 0 Q (F0 m 106 ls []) := by
            intro H locs ls hP hS hl
            obtain ⟨x30, ex30⟩ : ∃ y : Int32, y = x7 + 1 := ⟨_, rfl⟩
            replace hf := ltn_s ex30 hf
            refine lv_iinc (v := x30) (lv' := [(4, .int x30), (0, .ref (xa X (51*k+0))), (1, .int x4), (2, .int x5), (3, .int x22)]) hx hb dX7_load_106 hl (k := 4) rfl (by rw [ex30]; rfl) (by decide) rfl (fun ls hl => ?_)
            refine lv_goto (tgt := 27) hx hb dX7_load_109 (by decide) ?_
            exact ih x4 x5 x22 x30 f23 of9 _ _ _ hf hP hS (lv_sub hl [1, 2, 3, 4, 0] rfl) K
          clear hf
          refine lv_if_eq (tgt := 106) hx hb dX7_load_58 (by decide) (fun h16 => ?_) (fun h16 => ?_)
          · rw [if_pos h16] at ejK24
            simp only [Prod.mk.injEq] at ejK24
            obtain ⟨rfl, rfl⟩ := ejK24
            exact K24 _ _ _ hP hS (lv_sub hl [1, 2, 3, 4, 5] rfl)
          · rw [if_neg h16] at ejK24
            refine lv_iload hx hb dX7_load_61 (lv_at hl 0 rfl) ?_
            refine lv_aload_n hx hb dX7_load_63 rfl (lv_at hl 1 rfl) ?_
            refine st_get (i0 := 0) hx hb hts iX7_load_X7 hown hP hK hk (by decide) rfl rfl 0 (by decide) hk_f12 rfl dX7_load_64 ?_
            refine st_get (i0 := 1) hx hb hts iX7_load_X4 hown hP hK hk (by decide) rfl rfl 1 (by decide) hk_f124 rfl dX7_load_67 ?_
            refine lv_iload_n hx hb dX7_load_70 rfl (lv_at hl 3 rfl) ?_
            refine st_at (j := 0) (n := 5) ⟨hx, hb, hml, hown, hts⟩ hP hK hS hk (by decide) rfl hc_104 hl.1 (Nat.le_of_ble_eq_true rfl) dX7_load_71 (fun H locs hP hS => ?_)
            refine lv_icmp_lt (tgt := 106) hx hb dX7_load_74 (by decide) (fun h25 => ?_) (fun h25 => ?_)
            · rw [if_pos h25] at ejK24
              simp only [Prod.mk.injEq] at ejK24
              obtain ⟨rfl, rfl⟩ := ejK24
              exact K24 _ _ _ hP hS (lv_sub hl [1, 2, 3, 4, 5] rfl)
            · rw [if_neg h25] at ejK24
              refine lv_iload hx hb dX7_load_77 (lv_at hl 0 rfl) ?_
              refine lv_aload_n hx hb dX7_load_79 rfl (lv_at hl 1 rfl) ?_
              refine st_get (i0 := 0) hx hb hts iX7_load_X7 hown hP hK hk (by decide) rfl rfl 0 (by decide) hk_f12 rfl dX7_load_80 ?_
              refine st_get (i0 := 1) hx hb hts iX7_load_X4 hown hP hK hk (by decide) rfl rfl 2 (by decide) hk_f131 rfl dX7_load_83 ?_
              refine lv_iload_n hx hb dX7_load_86 rfl (lv_at hl 3 rfl) ?_
              refine st_at (j := 1) (n := 5) ⟨hx, hb, hml, hown, hts⟩ hP hK hS hk (by decide) rfl hc_104 hl.1 (Nat.le_of_ble_eq_true rfl) dX7_load_87 (fun H locs hP hS => ?_)
              refine lv_icmp_gt (tgt := 106) hx hb dX7_load_90 (by decide) (fun h26 => ?_) (fun h26 => ?_)
              · rw [if_pos h26] at ejK24
                simp only [Prod.mk.injEq] at ejK24
                obtain ⟨rfl, rfl⟩ := ejK24
                exact K24 _ _ _ hP hS (lv_sub hl [1, 2, 3, 4, 5] rfl)
              · rw [if_neg h26] at ejK24
                refine lv_aload_n hx hb dX7_load_93 rfl (lv_at hl 1 rfl) ?_
                refine st_get (i0 := 0) hx hb hts iX7_load_X7 hown hP hK hk (by decide) rfl rfl 3 (by decide) hk_f35 rfl dX7_load_94 ?_
                refine lv_iload hx hb dX7_load_97 (lv_at hl 5 rfl) ?_
                refine lv_iload_n hx hb dX7_load_99 rfl (lv_at hl 2 rfl) ?_
                obtain ⟨f27, hc28, ejK24⟩ := lt1_e ejK24
                refine w_cv ⟨hx, hb, hml, hown, hts⟩ hP hK hS (k5_putLoaf l hX hk w hc28) hc_223 (st_recv (i0 := 4) hP hK hk (by decide) rfl rfl) rfl hl.1 rfl (Nat.le_of_ble_eq_true rfl) dX7_load_100 ⟨Nat.zero_le _, Nat.zero_le _⟩ (fun H locs hP hS => ?_)
                obtain ⟨x29, ex29⟩ : ∃ y : Int32, y = x6 + (-1) := ⟨_, rfl⟩
                replace ejK24 := ltn_s ex29 ejK24
                refine lv_iinc (v := x29) (lv' := [(3, .int x29), (5, .int x12), (0, .ref (xa X (51*k+0))), (1, .int x4), (2, .int x5), (4, .int x7)]) hx hb dX7_load_103 hl (k := 4) rfl (by rw [ex29]; rfl) (by decide) rfl (fun ls hl => ?_)
                simp only [Prod.mk.injEq] at ejK24
                obtain ⟨rfl, rfl⟩ := ejK24
                exact K24 _ _ _ hP hS (lv_sub hl [2, 3, 4, 0, 5] rfl)
  obtain ⟨f31, hc32, hf⟩ := ob1_e hf
  refine L27 N a1 x1 x2 0 f0 f31 _ _ _ hc32 hP hS (lv_sub hl [3, 4, 2, 1, 0] rfl) (fun H locs ls hP hS hl => ?_)
  refine lv_aload_n hx hb dX7_load_112 rfl (lv_at hl 0 rfl) ?_
  refine st_get (i0 := 0) hx hb hts iX7_load_X7 hown hP hK hk (by decide) rfl rfl 2 (by decide) hk_f28 rfl dX7_load_113 ?_
  refine st_get (i0 := 3) hx hb hts iX7_load_X1 hown hP hK hk (by decide) rfl rfl 5 (by decide) hk_f101 rfl dX7_load_116 ?_
  refine lv_iload_n hx hb dX7_load_119 rfl (lv_at hl 1 rfl) ?_
  refine lv_iconst (v := 1) hx hb dX7_load_120 (by decide) ?_
  refine st_putr hX (j := 15) (n := 16) ⟨hx, hb, hml, hown, hts⟩ hP hK hS hk (by decide) rfl hc_127 hl.1 (Nat.le_of_ble_eq_true rfl) dX7_load_121 (fun f33 ef33 H locs hP hS => ?_)
  replace hf := ltn_s ef33 hf
  refine lv_aload_n hx hb dX7_load_124 rfl (lv_at hl 0 rfl) ?_
  refine st_get (i0 := 0) hx hb hts iX7_load_X7 hown hP hK hk (by decide) rfl rfl 2 (by decide) hk_f28 rfl dX7_load_125 ?_
  refine st_get (i0 := 3) hx hb hts iX7_load_X1 hown hP hK hk (by decide) rfl rfl 7 (by decide) hk_f108 rfl dX7_load_128 ?_
  refine lv_iload_n hx hb dX7_load_131 rfl (lv_at hl 1 rfl) ?_
  refine lv_aload_n hx hb dX7_load_132 rfl (lv_at hl 0 rfl) ?_
  refine st_get (i0 := 0) hx hb hts iX7_load_X7 hown hP hK hk (by decide) rfl rfl 7 (by decide) hk_f71 rfl dX7_load_133 ?_
  refine st_putr hX (j := 17) (n := 16) ⟨hx, hb, hml, hown, hts⟩ hP hK hS hk (by decide) rfl hc_127 hl.1 (Nat.le_of_ble_eq_true rfl) dX7_load_136 (fun f34 ef34 H locs hP hS => ?_)
  replace hf := ltn_s ef34 hf
  have hf := Option.some.inj hf
  obtain rfl := hf
  rw [hQ]
  exact w_vret hx hb hr hlocks hP hK hS dX7_load_139 rfl
abbrev rmX7_heatLoaves : Room := { frames := 2, cells := 0, slots := 0, locals := 44 }
theorem iX7_heatLoaves_X1 : ∀ w ∈ wsX10, w ∈ wsX7_heatLoaves := by decide +kernel
theorem iX7_heatLoaves_X3 : ∀ w ∈ wsX30, w ∈ wsX7_heatLoaves := by decide +kernel
theorem iX7_heatLoaves_X4 : ∀ w ∈ wsX40, w ∈ wsX7_heatLoaves := by decide +kernel
theorem iX7_heatLoaves_X5 : ∀ w ∈ wsX50, w ∈ wsX7_heatLoaves := by decide +kernel
theorem iX7_heatLoaves_X7 : ∀ w ∈ wsX70, w ∈ wsX7_heatLoaves := by decide +kernel
set_option maxHeartbeats 4000000 in
set_option maxRecDepth 100000 in
theorem k7_heatLoaves (l : Launch) {X : bkX} {b0 : Nat} (hX : XO X b0) {k : Nat} (hk : k < 6) (w : bkW) {N : Nat} {f0 : bkA} {f9 : bkA} (hf : m7_heatLoaves N f0 = some f9) : cV l yX7_heatLoaves wsX7_heatLoaves rmX7_heatLoaves X b0 [.ref (xa X (51*k+0))] (pk w k f0) (pk w k f9) := by
  refine Met.ofW (cc := cX7_heatLoaves) (maxL := 5) (ret := none) (by decide) rfl ?_
  intro p e s m args below meth c s₁ B hml hv
  obtain ⟨ha, hP, hK⟩ := hv
  have hx := B.exec
  have hb := B.bytes
  have hr := B.returns
  have hts := atoms_spec (ws := wsX7_heatLoaves) B.pre
  have hown : s.vm.findClass RX7 = some m.cls := findClass_of_methodNamed B.named
  have hlocks := B.notSynchronized
  obtain ⟨R, hR⟩ : ∃ R, R = (headSpec wsX7_heatLoaves rmX7_heatLoaves).room := ⟨_, rfl⟩
  rw [← hR]
  have hR1 : R.frames = 2 := by rw [hR]; rfl
  have hR2 : R.locals = 44 := by rw [hR]; rfl
  obtain ⟨Q, hQ⟩ : ∃ Q : State → Prop, Q = MQ below (va_Qv (fun (_ : Unit) => True) (fun _ t => WU X (pk w k f9) t) (xF b0)) args s 0 0 (xF b0) := ⟨_, rfl⟩
  rw [← hQ]
  have hS : va_S (xF b0) s.heap s.heap [] := va_S.rf
  have hl := lv_entry ([.ref (xa X (51*k+0))]) (n := 5) (Nat.le_of_ble_eq_true rfl)
  refine W.eq ((congrArg (fun z => entryFrame m z 5) ha).trans (lg_entry_eq m _ 5)) ?_
  generalize (lg_sl ([.ref (xa X (51*k+0))]) ++ List.replicate (5 - (lg_sl ([.ref (xa X (51*k+0))])).length) Slot.unset).toArray = ls at hl ⊢
  have hl : lv_has ls 5 [(0, .ref (xa X (51*k+0)))] := hl
  have hk_f35 := hts (.fieldLink RX7 35 "BakeTurns$State" "places" "LBakeTurns$Places;") (by decide +kernel)
  have hc_220 := (cwV 1 hts gX7_heatLoaves_X5_isFree rfl rfl rfl (by decide +kernel) ⟨by rw [hR1]; exact Nat.le_of_ble_eq_true rfl, by rw [hR2]; exact Nat.le_of_ble_eq_true rfl⟩ : CallW R s args RX7 RX5 220 yX5_isFree cX5_isFree 2 (some .boolean) wsX5_isFree rmX5_isFree 0 0 1)
  have hk_f167 := hts (.fieldLink RX7 167 "BakeTurns$Places" "doughOn" "LBakeTurns$Row;") (by decide +kernel)
  have hc_104 := (cwV 1 hts gX7_heatLoaves_X6_at rfl rfl rfl (by decide +kernel) ⟨by rw [hR1]; exact Nat.le_of_ble_eq_true rfl, by rw [hR2]; exact Nat.le_of_ble_eq_true rfl⟩ : CallW R s args RX7 RX6 104 yX6_at cX6_at 2 (some .int) wsX6_at rmX6_at 0 0 1)
  have hk_f28 := hts (.fieldLink RX7 28 "BakeTurns$State" "doughs" "LBakeTurns$Doughs;") (by decide +kernel)
  have hk_f146 := hts (.fieldLink RX7 146 "BakeTurns$Doughs" "kindOf" "LBakeTurns$Row;") (by decide +kernel)
  have hk_f68 := hts (.fieldLink RX7 68 "BakeTurns$State" "heat" "I") (by decide +kernel)
  have hc_217 := (cwS 2 hts gX7_heatLoaves_X7_warmthOf rfl rfl rfl (by decide +kernel) ⟨by rw [hR1]; exact Nat.le_of_ble_eq_true rfl, by rw [hR2]; exact Nat.le_of_ble_eq_true rfl⟩ : CallB R s args RX7 217 yX7_warmthOf cX7_warmthOf 2 (some .int) wsX7_warmthOf rmX7_warmthOf 0 0 2 ∧ (Cond.static yX7_warmthOf).before args s = true)
  have hk_f12 := hts (.fieldLink RX7 12 "BakeTurns$State" "kinds" "LBakeTurns$Kinds;") (by decide +kernel)
  have hk_f124 := hts (.fieldLink RX7 124 "BakeTurns$Kinds" "least" "LBakeTurns$Row;") (by decide +kernel)
  have hk_f226 := hts (.fieldLink RX7 226 "BakeTurns$Places" "baked" "LBakeTurns$Row;") (by decide +kernel)
  have hc_173 := (cwV 2 hts gX7_heatLoaves_X6_increase rfl rfl rfl (by decide +kernel) ⟨by rw [hR1]; exact Nat.le_of_ble_eq_true rfl, by rw [hR2]; exact Nat.le_of_ble_eq_true rfl⟩ : CallW R s args RX7 RX6 173 yX6_increase cX6_increase 3 none wsX6_increase rmX6_increase 0 0 2)
  have hk_f131 := hts (.fieldLink RX7 131 "BakeTurns$Kinds" "greatest" "LBakeTurns$Row;") (by decide +kernel)
  have hk_f229 := hts (.fieldLink RX7 229 "BakeTurns$Places" "scorched" "LBakeTurns$Row;") (by decide +kernel)
  have hk_f21 := hts (.fieldLink RX7 21 "BakeTurns$State" "houses" "LBakeTurns$Houses;") (by decide +kernel)
  have hk_f189 := hts (.fieldLink RX7 189 "BakeTurns$Houses" "use" "LBakeTurns$Row;") (by decide +kernel)
  have hk_f143 := hts (.fieldLink RX7 143 "BakeTurns$Doughs" "houseOf" "LBakeTurns$Row;") (by decide +kernel)
  unfold m7_heatLoaves at hf
  refine lv_iconst (v := 0) hx hb dX7_heatLoaves_0 (by decide) ?_
  refine lv_istore_n (lv' := [(1, .int 0), (0, .ref (xa X (51*k+0)))]) hx hb dX7_heatLoaves_1 rfl hl (by decide) rfl (fun ls hl => ?_)
  have L2 : ∀ (n : Nat) (x2 : Int32) (f3 : bkA) (of4 : bkA) (H : Heap) (locs : List Loc) (ls : Array Slot), m7_heatLoaves_L2 N n x2 f3 = some of4 → HW X (pk w k f3) H → va_S (xF b0) s.heap H locs → lv_has ls 5 [(0, .ref (xa X (51*k+0))), (1, .int x2)] → (∀ (H1 : Heap) (locs1 : List Loc) (ls1 : Array Slot), HW X (pk w k of4) H1 → va_S (xF b0) s.heap H1 locs1 → lv_has ls1 5 [] → W p l e R s m args below meth c H1 locs1 0 0 Q (F0 m 137 ls1 [])) → W p l e R s m args below meth c H locs 0 0 Q (F0 m 2 ls []) := by
    intro n; induction n with
    | zero => intro x2 f3 of4 H locs ls hf; rw [m7_heatLoaves_L2] at hf; cases hf
    | succ n ih =>
      intro x2 f3 of4 H locs ls hf hP hS hl K
      rw [m7_heatLoaves_L2] at hf
      refine lv_iload_n hx hb dX7_heatLoaves_2 rfl (lv_at hl 1 rfl) ?_
      refine lv_bipush (v := 12) hx hb dX7_heatLoaves_3 (by decide) ?_
      refine lv_icmp_ge (tgt := 137) hx hb dX7_heatLoaves_5 (by decide) (fun h5 => ?_) (fun h5 => ?_)
      · rw [if_pos h5] at hf
        have hf := Option.some.inj hf
        obtain rfl := hf
        exact K _ _ _ hP hS (lv_sub hl [] rfl)
      · rw [if_neg h5] at hf
        refine lv_aload_n hx hb dX7_heatLoaves_8 rfl (lv_at hl 0 rfl) ?_
        refine st_get (i0 := 0) hx hb hts iX7_heatLoaves_X7 hown hP hK hk (by decide) rfl rfl 3 (by decide) hk_f35 rfl dX7_heatLoaves_9 ?_
        refine lv_iload_n hx hb dX7_heatLoaves_12 rfl (lv_at hl 1 rfl) ?_
        obtain ⟨x6, hc7, hf⟩ := lt1_e hf
        refine w_ci ⟨hx, hb, hml, hown, hts⟩ hP hK hS (k5_isFree l hX hk w hc7) hc_220 (st_recv (i0 := 4) hP hK hk (by decide) rfl rfl) rfl hl.1 rfl (Nat.le_of_ble_eq_true rfl) dX7_heatLoaves_13 ⟨Nat.zero_le _, Nat.zero_le _⟩ (fun H locs hP hS => ?_)
        obtain ⟨f24, ejK25, hf⟩ := lt1_e hf
        have K25 : ∀ (H : Heap) (locs : List Loc) (ls : Array Slot), HW X (pk w k f24) H → va_S (xF b0) s.heap H locs → lv_has ls 5 [(0, .ref (xa X (51*k+0))), (1, .int x2)] → W p l e R s m args below meth c H locs 0 0 Q (F0 m 131 ls []) := by
          intro H locs ls hP hS hl
          obtain ⟨x41, ex41⟩ : ∃ y : Int32, y = x2 + 1 := ⟨_, rfl⟩
          replace hf := ltn_s ex41 hf
          refine lv_iinc (v := x41) (lv' := [(1, .int x41), (0, .ref (xa X (51*k+0)))]) hx hb dX7_heatLoaves_131 hl (k := 1) rfl (by rw [ex41]; rfl) (by decide) rfl (fun ls hl => ?_)
          refine lv_goto (tgt := 2) hx hb dX7_heatLoaves_134 (by decide) ?_
          exact ih x41 f24 of4 _ _ _ hf hP hS (lv_sub hl [1, 0] rfl) K
        clear hf
        refine lv_if_ne (tgt := 131) hx hb dX7_heatLoaves_16 (by decide) (fun h8 => ?_) (fun h8 => ?_)
        · rw [if_neg h8] at ejK25
          obtain rfl := ejK25
          exact K25 _ _ _ hP hS (lv_sub hl [0, 1] rfl)
        · rw [if_pos h8] at ejK25
          refine lv_aload_n hx hb dX7_heatLoaves_19 rfl (lv_at hl 0 rfl) ?_
          refine st_get (i0 := 0) hx hb hts iX7_heatLoaves_X7 hown hP hK hk (by decide) rfl rfl 3 (by decide) hk_f35 rfl dX7_heatLoaves_20 ?_
          refine st_get (i0 := 4) hx hb hts iX7_heatLoaves_X5 hown hP hK hk (by decide) rfl rfl 0 (by decide) hk_f167 rfl dX7_heatLoaves_23 ?_
          refine lv_iload_n hx hb dX7_heatLoaves_26 rfl (lv_at hl 1 rfl) ?_
          refine st_at (j := 19) (n := 12) ⟨hx, hb, hml, hown, hts⟩ hP hK hS hk (by decide) rfl hc_104 hl.1 (Nat.le_of_ble_eq_true rfl) dX7_heatLoaves_27 (fun H locs hP hS => ?_)
          refine lv_topi (fun x26 ex26 => ?_)
          replace ejK25 := ltn_s ex26 ejK25
          refine lv_istore_n (lv' := [(2, .int x26), (0, .ref (xa X (51*k+0))), (1, .int x2)]) hx hb dX7_heatLoaves_30 rfl hl (by decide) rfl (fun ls hl => ?_)
          refine lv_aload_n hx hb dX7_heatLoaves_31 rfl (lv_at hl 1 rfl) ?_
          refine st_get (i0 := 0) hx hb hts iX7_heatLoaves_X7 hown hP hK hk (by decide) rfl rfl 2 (by decide) hk_f28 rfl dX7_heatLoaves_32 ?_
          refine st_get (i0 := 3) hx hb hts iX7_heatLoaves_X1 hown hP hK hk (by decide) rfl rfl 2 (by decide) hk_f146 rfl dX7_heatLoaves_35 ?_
          refine lv_iload_n hx hb dX7_heatLoaves_38 rfl (lv_at hl 0 rfl) ?_
          refine st_at (j := 12) (n := 16) ⟨hx, hb, hml, hown, hts⟩ hP hK hS hk (by decide) rfl hc_104 hl.1 (Nat.le_of_ble_eq_true rfl) dX7_heatLoaves_39 (fun H locs hP hS => ?_)
          refine lv_topi (fun x27 ex27 => ?_)
          replace ejK25 := ltn_s ex27 ejK25
          refine lv_istore_n (lv' := [(3, .int x27), (2, .int x26), (0, .ref (xa X (51*k+0))), (1, .int x2)]) hx hb dX7_heatLoaves_42 rfl hl (by decide) rfl (fun ls hl => ?_)
          refine lv_iload_n hx hb dX7_heatLoaves_43 rfl (lv_at hl 3 rfl) ?_
          refine lv_aload_n hx hb dX7_heatLoaves_44 rfl (lv_at hl 2 rfl) ?_
          refine st_get (i0 := 0) hx hb hts iX7_heatLoaves_X7 hown hP hK hk (by decide) rfl rfl 6 (by decide) hk_f68 rfl dX7_heatLoaves_45 ?_
          obtain ⟨x28, hc29, ejK25⟩ := lt1_e ejK25
          refine w_csi ⟨hx, hb, hml, hown, hts⟩ hP hK hS (k7_warmthOf l hX hk w hc29) hc_217 rfl hl.1 rfl (Nat.le_of_ble_eq_true rfl) dX7_heatLoaves_48 ⟨Nat.zero_le _, Nat.zero_le _⟩ (fun H locs hP hS => ?_)
          refine lv_istore (lv' := [(4, .int x28), (3, .int x27), (2, .int x26), (0, .ref (xa X (51*k+0))), (1, .int x2)]) hx hb dX7_heatLoaves_51 hl (by decide) rfl (fun ls hl => ?_)
          refine lv_iload hx hb dX7_heatLoaves_53 (lv_at hl 0 rfl) ?_
          refine lv_aload_n hx hb dX7_heatLoaves_55 rfl (lv_at hl 3 rfl) ?_
          refine st_get (i0 := 0) hx hb hts iX7_heatLoaves_X7 hown hP hK hk (by decide) rfl rfl 0 (by decide) hk_f12 rfl dX7_heatLoaves_56 ?_
          refine st_get (i0 := 1) hx hb hts iX7_heatLoaves_X4 hown hP hK hk (by decide) rfl rfl 1 (by decide) hk_f124 rfl dX7_heatLoaves_59 ?_
          refine lv_iload_n hx hb dX7_heatLoaves_62 rfl (lv_at hl 1 rfl) ?_
          refine st_at (j := 0) (n := 5) ⟨hx, hb, hml, hown, hts⟩ hP hK hS hk (by decide) rfl hc_104 hl.1 (Nat.le_of_ble_eq_true rfl) dX7_heatLoaves_63 (fun H locs hP hS => ?_)
          obtain ⟨f32, ejK33, ejK25⟩ := lt1_e ejK25
          have K33 : ∀ (H : Heap) (locs : List Loc) (ls : Array Slot), HW X (pk w k f32) H → va_S (xF b0) s.heap H locs → lv_has ls 5 [(0, .ref (xa X (51*k+0))), (1, .int x2), (2, .int x26), (3, .int x27), (4, .int x28)] → W p l e R s m args below meth c H locs 0 0 Q (F0 m 81 ls []) := by
            intro H locs ls hP hS hl
            refine lv_iload hx hb dX7_heatLoaves_81 (lv_at hl 4 rfl) ?_
            refine lv_aload_n hx hb dX7_heatLoaves_83 rfl (lv_at hl 0 rfl) ?_
            refine st_get (i0 := 0) hx hb hts iX7_heatLoaves_X7 hown hP hK hk (by decide) rfl rfl 0 (by decide) hk_f12 rfl dX7_heatLoaves_84 ?_
            refine st_get (i0 := 1) hx hb hts iX7_heatLoaves_X4 hown hP hK hk (by decide) rfl rfl 2 (by decide) hk_f131 rfl dX7_heatLoaves_87 ?_
            refine lv_iload_n hx hb dX7_heatLoaves_90 rfl (lv_at hl 3 rfl) ?_
            refine st_at (j := 1) (n := 5) ⟨hx, hb, hml, hown, hts⟩ hP hK hS hk (by decide) rfl hc_104 hl.1 (Nat.le_of_ble_eq_true rfl) dX7_heatLoaves_91 (fun H locs hP hS => ?_)
            obtain ⟨f37, ejK38, ejK25⟩ := lt1_e ejK25
            have K38 : ∀ (H : Heap) (locs : List Loc) (ls : Array Slot), HW X (pk w k f37) H → va_S (xF b0) s.heap H locs → lv_has ls 5 [(0, .ref (xa X (51*k+0))), (1, .int x2), (2, .int x26)] → W p l e R s m args below meth c H locs 0 0 Q (F0 m 109 ls []) := by
              intro H locs ls hP hS hl
              refine lv_aload_n hx hb dX7_heatLoaves_109 rfl (lv_at hl 0 rfl) ?_
              refine st_get (i0 := 0) hx hb hts iX7_heatLoaves_X7 hown hP hK hk (by decide) rfl rfl 1 (by decide) hk_f21 rfl dX7_heatLoaves_110 ?_
              refine st_get (i0 := 2) hx hb hts iX7_heatLoaves_X3 hown hP hK hk (by decide) rfl rfl 2 (by decide) hk_f189 rfl dX7_heatLoaves_113 ?_
              refine lv_aload_n hx hb dX7_heatLoaves_116 rfl (lv_at hl 0 rfl) ?_
              refine st_get (i0 := 0) hx hb hts iX7_heatLoaves_X7 hown hP hK hk (by decide) rfl rfl 2 (by decide) hk_f28 rfl dX7_heatLoaves_117 ?_
              refine st_get (i0 := 3) hx hb hts iX7_heatLoaves_X1 hown hP hK hk (by decide) rfl rfl 1 (by decide) hk_f143 rfl dX7_heatLoaves_120 ?_
              refine lv_iload_n hx hb dX7_heatLoaves_123 rfl (lv_at hl 2 rfl) ?_
              refine st_at (j := 11) (n := 16) ⟨hx, hb, hml, hown, hts⟩ hP hK hS hk (by decide) rfl hc_104 hl.1 (Nat.le_of_ble_eq_true rfl) dX7_heatLoaves_124 (fun H locs hP hS => ?_)
              refine lv_iconst (v := 1) hx hb dX7_heatLoaves_127 (by decide) ?_
              refine st_incr hX (j := 6) (n := 8) ⟨hx, hb, hml, hown, hts⟩ hP hK hS hk (by decide) rfl hc_173 hl.1 (Nat.le_of_ble_eq_true rfl) dX7_heatLoaves_128 (fun f40 ef40 H locs hP hS => ?_)
              replace ejK25 := ltn_s ef40 ejK25
              obtain rfl := ejK25
              exact K25 _ _ _ hP hS (lv_sub hl [0, 1] rfl)
            clear ejK25
            refine lv_icmp_le (tgt := 109) hx hb dX7_heatLoaves_94 (by decide) (fun h35 => ?_) (fun h35 => ?_)
            · rw [if_pos h35] at ejK38
              obtain rfl := ejK38
              exact K38 _ _ _ hP hS (lv_sub hl [0, 1, 2] rfl)
            · rw [if_neg h35] at ejK38
              refine lv_aload_n hx hb dX7_heatLoaves_97 rfl (lv_at hl 0 rfl) ?_
              refine st_get (i0 := 0) hx hb hts iX7_heatLoaves_X7 hown hP hK hk (by decide) rfl rfl 3 (by decide) hk_f35 rfl dX7_heatLoaves_98 ?_
              refine st_get (i0 := 4) hx hb hts iX7_heatLoaves_X5 hown hP hK hk (by decide) rfl rfl 2 (by decide) hk_f229 rfl dX7_heatLoaves_101 ?_
              refine lv_iload_n hx hb dX7_heatLoaves_104 rfl (lv_at hl 1 rfl) ?_
              refine lv_iconst (v := 1) hx hb dX7_heatLoaves_105 (by decide) ?_
              refine st_incr hX (j := 21) (n := 12) ⟨hx, hb, hml, hown, hts⟩ hP hK hS hk (by decide) rfl hc_173 hl.1 (Nat.le_of_ble_eq_true rfl) dX7_heatLoaves_106 (fun f39 ef39 H locs hP hS => ?_)
              replace ejK38 := ltn_s ef39 ejK38
              obtain rfl := ejK38
              exact K38 _ _ _ hP hS (lv_sub hl [0, 1, 2] rfl)
          clear ejK25
          refine lv_icmp_lt (tgt := 81) hx hb dX7_heatLoaves_66 (by decide) (fun h30 => ?_) (fun h30 => ?_)
          · rw [if_pos h30] at ejK33
            obtain rfl := ejK33
            exact K33 _ _ _ hP hS (lv_sub hl [3, 4, 2, 1, 0] rfl)
          · rw [if_neg h30] at ejK33
            refine lv_aload_n hx hb dX7_heatLoaves_69 rfl (lv_at hl 3 rfl) ?_
            refine st_get (i0 := 0) hx hb hts iX7_heatLoaves_X7 hown hP hK hk (by decide) rfl rfl 3 (by decide) hk_f35 rfl dX7_heatLoaves_70 ?_
            refine st_get (i0 := 4) hx hb hts iX7_heatLoaves_X5 hown hP hK hk (by decide) rfl rfl 1 (by decide) hk_f226 rfl dX7_heatLoaves_73 ?_
            refine lv_iload_n hx hb dX7_heatLoaves_76 rfl (lv_at hl 4 rfl) ?_
            refine lv_iconst (v := 1) hx hb dX7_heatLoaves_77 (by decide) ?_
            refine st_incr hX (j := 20) (n := 12) ⟨hx, hb, hml, hown, hts⟩ hP hK hS hk (by decide) rfl hc_173 hl.1 (Nat.le_of_ble_eq_true rfl) dX7_heatLoaves_78 (fun f34 ef34 H locs hP hS => ?_)
            replace ejK33 := ltn_s ef34 ejK33
            obtain rfl := ejK33
            exact K33 _ _ _ hP hS (lv_sub hl [3, 4, 2, 1, 0] rfl)
  obtain ⟨f42, hc43, hf⟩ := ob1_e hf
  refine L2 N 0 f0 f42 _ _ _ hc43 hP hS (lv_sub hl [1, 0] rfl) (fun H locs ls hP hS hl => ?_)
  have hf := Option.some.inj hf
  obtain rfl := hf
  rw [hQ]
  exact w_vret hx hb hr hlocks hP hK hS dX7_heatLoaves_137 rfl
abbrev rmX7_takeOutDone : Room := { frames := 3, cells := 0, slots := 0, locals := 68 }
theorem iX7_takeOutDone_X1 : ∀ w ∈ wsX10, w ∈ wsX7_takeOutDone := by decide +kernel
theorem iX7_takeOutDone_X7 : ∀ w ∈ wsX70, w ∈ wsX7_takeOutDone := by decide +kernel
set_option maxHeartbeats 4000000 in
set_option maxRecDepth 100000 in
theorem k7_takeOutDone (l : Launch) {X : bkX} {b0 : Nat} (hX : XO X b0) {k : Nat} (hk : k < 6) (w : bkW) {N : Nat} {f0 : bkA} {res9 : Int32} {f9 : bkA} (hf : m7_takeOutDone N f0 = some (res9, f9)) : cI l yX7_takeOutDone wsX7_takeOutDone rmX7_takeOutDone X b0 [.ref (xa X (51*k+0))] (pk w k f0) res9 (pk w k f9) := by
  refine Met.ofW (cc := cX7_takeOutDone) (maxL := 3) (ret := (some .int)) (by decide) rfl ?_
  intro p e s m args below meth c s₁ B hml hv
  obtain ⟨ha, hP, hK⟩ := hv
  have hx := B.exec
  have hb := B.bytes
  have hr := B.returns
  have hts := atoms_spec (ws := wsX7_takeOutDone) B.pre
  have hown : s.vm.findClass RX7 = some m.cls := findClass_of_methodNamed B.named
  have hlocks := B.notSynchronized
  obtain ⟨R, hR⟩ : ∃ R, R = (headSpec wsX7_takeOutDone rmX7_takeOutDone).room := ⟨_, rfl⟩
  rw [← hR]
  have hR1 : R.frames = 3 := by rw [hR]; rfl
  have hR2 : R.locals = 68 := by rw [hR]; rfl
  obtain ⟨Q, hQ⟩ : ∃ Q : State → Prop, Q = MQ below (va_Qi (fun r' (_ : Unit) => r' = res9) (fun _ t => WU X (pk w k f9) t) (xF b0)) args s 0 0 (xF b0) := ⟨_, rfl⟩
  rw [← hQ]
  have hS : va_S (xF b0) s.heap s.heap [] := va_S.rf
  have hl := lv_entry ([.ref (xa X (51*k+0))]) (n := 3) (Nat.le_of_ble_eq_true rfl)
  refine W.eq ((congrArg (fun z => entryFrame m z 3) ha).trans (lg_entry_eq m _ 3)) ?_
  generalize (lg_sl ([.ref (xa X (51*k+0))]) ++ List.replicate (3 - (lg_sl ([.ref (xa X (51*k+0))])).length) Slot.unset).toArray = ls at hl ⊢
  have hl : lv_has ls 3 [(0, .ref (xa X (51*k+0)))] := hl
  have hk_f28 := hts (.fieldLink RX7 28 "BakeTurns$State" "doughs" "LBakeTurns$Doughs;") (by decide +kernel)
  have hk_f96 := hts (.fieldLink RX7 96 "BakeTurns$Doughs" "count" "I") (by decide +kernel)
  have hk_f101 := hts (.fieldLink RX7 101 "BakeTurns$Doughs" "phase" "LBakeTurns$Row;") (by decide +kernel)
  have hc_104 := (cwV 1 hts gX7_takeOutDone_X6_at rfl rfl rfl (by decide +kernel) ⟨by rw [hR1]; exact Nat.le_of_ble_eq_true rfl, by rw [hR2]; exact Nat.le_of_ble_eq_true rfl⟩ : CallW R s args RX7 RX6 104 yX6_at cX6_at 2 (some .int) wsX6_at rmX6_at 0 0 1)
  have hc_232 := (cwV 1 hts gX7_takeOutDone_X7_isBaked rfl rfl rfl (by decide +kernel) ⟨by rw [hR1]; exact Nat.le_of_ble_eq_true rfl, by rw [hR2]; exact Nat.le_of_ble_eq_true rfl⟩ : CallW R s args RX7 RX7 232 yX7_isBaked cX7_isBaked 4 (some .boolean) wsX7_isBaked rmX7_isBaked 0 0 1)
  have hc_235 := (cwV 1 hts gX7_takeOutDone_X7_takeOut rfl rfl rfl (by decide +kernel) ⟨by rw [hR1]; exact Nat.le_of_ble_eq_true rfl, by rw [hR2]; exact Nat.le_of_ble_eq_true rfl⟩ : CallW R s args RX7 RX7 235 yX7_takeOut cX7_takeOut 5 none wsX7_takeOut rmX7_takeOut 0 0 1)
  unfold m7_takeOutDone at hf
  refine lv_iconst (v := 0) hx hb dX7_takeOutDone_0 (by decide) ?_
  refine lv_istore_n (lv' := [(1, .int 0), (0, .ref (xa X (51*k+0)))]) hx hb dX7_takeOutDone_1 rfl hl (by decide) rfl (fun ls hl => ?_)
  refine lv_iconst (v := 0) hx hb dX7_takeOutDone_2 (by decide) ?_
  refine lv_istore_n (lv' := [(2, .int 0), (1, .int 0), (0, .ref (xa X (51*k+0)))]) hx hb dX7_takeOutDone_3 rfl hl (by decide) rfl (fun ls hl => ?_)
  have L4 : ∀ (n : Nat) (x2 : Int32) (x3 : Int32) (f4 : bkA) (o5 : Int32) (of6 : bkA) (H : Heap) (locs : List Loc) (ls : Array Slot), m7_takeOutDone_L4 N n x2 x3 f4 = some (o5, of6) → HW X (pk w k f4) H → va_S (xF b0) s.heap H locs → lv_has ls 3 [(0, .ref (xa X (51*k+0))), (1, .int x2), (2, .int x3)] → (∀ (H1 : Heap) (locs1 : List Loc) (ls1 : Array Slot), HW X (pk w k of6) H1 → va_S (xF b0) s.heap H1 locs1 → lv_has ls1 3 [(1, .int o5)] → W p l e R s m args below meth c H1 locs1 0 0 Q (F0 m 52 ls1 [])) → W p l e R s m args below meth c H locs 0 0 Q (F0 m 4 ls []) := by
    intro n; induction n with
    | zero => intro x2 x3 f4 o5 of6 H locs ls hf; rw [m7_takeOutDone_L4] at hf; cases hf
    | succ n ih =>
      intro x2 x3 f4 o5 of6 H locs ls hf hP hS hl K
      rw [m7_takeOutDone_L4] at hf
      refine lv_iload_n hx hb dX7_takeOutDone_4 rfl (lv_at hl 2 rfl) ?_
      refine lv_aload_n hx hb dX7_takeOutDone_5 rfl (lv_at hl 0 rfl) ?_
      refine st_get (i0 := 0) hx hb hts iX7_takeOutDone_X7 hown hP hK hk (by decide) rfl rfl 2 (by decide) hk_f28 rfl dX7_takeOutDone_6 ?_
      refine st_get (i0 := 3) hx hb hts iX7_takeOutDone_X1 hown hP hK hk (by decide) rfl rfl 0 (by decide) hk_f96 rfl dX7_takeOutDone_9 ?_
      refine lv_icmp_ge (tgt := 52) hx hb dX7_takeOutDone_12 (by decide) (fun h7 => ?_) (fun h7 => ?_)
      · rw [if_pos h7] at hf
        have hf := Option.some.inj hf
        simp only [Prod.mk.injEq] at hf
        obtain ⟨rfl, rfl⟩ := hf
        exact K _ _ _ hP hS (lv_sub hl [1] rfl)
      · rw [if_neg h7] at hf
        refine lv_aload_n hx hb dX7_takeOutDone_15 rfl (lv_at hl 0 rfl) ?_
        refine st_get (i0 := 0) hx hb hts iX7_takeOutDone_X7 hown hP hK hk (by decide) rfl rfl 2 (by decide) hk_f28 rfl dX7_takeOutDone_16 ?_
        refine st_get (i0 := 3) hx hb hts iX7_takeOutDone_X1 hown hP hK hk (by decide) rfl rfl 5 (by decide) hk_f101 rfl dX7_takeOutDone_19 ?_
        refine lv_iload_n hx hb dX7_takeOutDone_22 rfl (lv_at hl 2 rfl) ?_
        refine st_at (j := 15) (n := 16) ⟨hx, hb, hml, hown, hts⟩ hP hK hS hk (by decide) rfl hc_104 hl.1 (Nat.le_of_ble_eq_true rfl) dX7_takeOutDone_23 (fun H locs hP hS => ?_)
        refine lv_iconst (v := 1) hx hb dX7_takeOutDone_26 (by decide) ?_
        obtain ⟨x15, f16, ejK17, hf⟩ := ob2_e hf
        have K17 : ∀ (H : Heap) (locs : List Loc) (ls : Array Slot), HW X (pk w k f16) H → va_S (xF b0) s.heap H locs → lv_has ls 3 [(0, .ref (xa X (51*k+0))), (1, .int x15), (2, .int x3)] → W p l e R s m args below meth c H locs 0 0 Q (F0 m 46 ls []) := by
          intro H locs ls hP hS hl
          obtain ⟨x24, ex24⟩ : ∃ y : Int32, y = x3 + 1 := ⟨_, rfl⟩
          replace hf := ltn_s ex24 hf
          refine lv_iinc (v := x24) (lv' := [(2, .int x24), (0, .ref (xa X (51*k+0))), (1, .int x15)]) hx hb dX7_takeOutDone_46 hl (k := 2) rfl (by rw [ex24]; rfl) (by decide) rfl (fun ls hl => ?_)
          refine lv_goto (tgt := 4) hx hb dX7_takeOutDone_49 (by decide) ?_
          exact ih x15 x24 f16 o5 of6 _ _ _ hf hP hS (lv_sub hl [1, 2, 0] rfl) K
        clear hf
        refine lv_icmp_ne (tgt := 46) hx hb dX7_takeOutDone_27 (by decide) (fun h8 => ?_) (fun h8 => ?_)
        · rw [if_neg h8] at ejK17
          have ejK17 := Option.some.inj ejK17
          simp only [Prod.mk.injEq] at ejK17
          obtain ⟨rfl, rfl⟩ := ejK17
          exact K17 _ _ _ hP hS (lv_sub hl [0, 1, 2] rfl)
        · rw [if_pos h8] at ejK17
          refine lv_aload_n hx hb dX7_takeOutDone_30 rfl (lv_at hl 0 rfl) ?_
          refine lv_iload_n hx hb dX7_takeOutDone_31 rfl (lv_at hl 2 rfl) ?_
          obtain ⟨x18, hc19, ejK17⟩ := ob1_e ejK17
          refine w_ci ⟨hx, hb, hml, hown, hts⟩ hP hK hS (k7_isBaked l hX hk w hc19) hc_232 (st_recv (i0 := 0) hP hK hk (by decide) rfl rfl) rfl hl.1 rfl (Nat.le_of_ble_eq_true rfl) dX7_takeOutDone_32 ⟨Nat.zero_le _, Nat.zero_le _⟩ (fun H locs hP hS => ?_)
          refine lv_if_eq (tgt := 46) hx hb dX7_takeOutDone_35 (by decide) (fun h20 => ?_) (fun h20 => ?_)
          · rw [if_pos h20] at ejK17
            have ejK17 := Option.some.inj ejK17
            simp only [Prod.mk.injEq] at ejK17
            obtain ⟨rfl, rfl⟩ := ejK17
            exact K17 _ _ _ hP hS (lv_sub hl [0, 1, 2] rfl)
          · rw [if_neg h20] at ejK17
            refine lv_aload_n hx hb dX7_takeOutDone_38 rfl (lv_at hl 0 rfl) ?_
            refine lv_iload_n hx hb dX7_takeOutDone_39 rfl (lv_at hl 2 rfl) ?_
            obtain ⟨f21, hc22, ejK17⟩ := ob1_e ejK17
            refine w_cv ⟨hx, hb, hml, hown, hts⟩ hP hK hS (k7_takeOut l hX hk w hc22) hc_235 (st_recv (i0 := 0) hP hK hk (by decide) rfl rfl) rfl hl.1 rfl (Nat.le_of_ble_eq_true rfl) dX7_takeOutDone_40 ⟨Nat.zero_le _, Nat.zero_le _⟩ (fun H locs hP hS => ?_)
            obtain ⟨x23, ex23⟩ : ∃ y : Int32, y = x2 + 1 := ⟨_, rfl⟩
            replace ejK17 := ltn_s ex23 ejK17
            refine lv_iinc (v := x23) (lv' := [(1, .int x23), (0, .ref (xa X (51*k+0))), (2, .int x3)]) hx hb dX7_takeOutDone_43 hl (k := 1) rfl (by rw [ex23]; rfl) (by decide) rfl (fun ls hl => ?_)
            have ejK17 := Option.some.inj ejK17
            simp only [Prod.mk.injEq] at ejK17
            obtain ⟨rfl, rfl⟩ := ejK17
            exact K17 _ _ _ hP hS (lv_sub hl [1, 0, 2] rfl)
  obtain ⟨x25, f26, hc27, hf⟩ := ob2_e hf
  refine L4 N 0 0 f0 x25 f26 _ _ _ hc27 hP hS (lv_sub hl [2, 1, 0] rfl) (fun H locs ls hP hS hl => ?_)
  refine lv_iload_n hx hb dX7_takeOutDone_52 rfl (lv_at hl 0 rfl) ?_
  have hf := Option.some.inj hf
  simp only [Prod.mk.injEq] at hf
  obtain ⟨rfl, rfl⟩ := hf
  rw [hQ]
  exact w_iret hx hb hr hlocks hP hK hS dX7_takeOutDone_53 rfl rfl
abbrev rmX7_valueOfHouse : Room := { frames := 2, cells := 0, slots := 0, locals := 44 }
theorem iX7_valueOfHouse_X3 : ∀ w ∈ wsX30, w ∈ wsX7_valueOfHouse := by decide +kernel
theorem iX7_valueOfHouse_X7 : ∀ w ∈ wsX70, w ∈ wsX7_valueOfHouse := by decide +kernel
set_option maxHeartbeats 4000000 in
set_option maxRecDepth 100000 in
theorem k7_valueOfHouse (l : Launch) {X : bkX} {b0 : Nat} (hX : XO X b0) {k : Nat} (hk : k < 6) (w : bkW) {N : Nat} {f0 : bkA} {a1 : Int32} {a2 : Int32} {res9 : Int32} (hf : m7_valueOfHouse N f0 a1 a2 = some res9) : cI l yX7_valueOfHouse wsX7_valueOfHouse rmX7_valueOfHouse X b0 [.ref (xa X (51*k+0)), .int a1, .int a2] (pk w k f0) res9 (pk w k f0) := by
  refine Met.ofW (cc := cX7_valueOfHouse) (maxL := 3) (ret := (some .int)) (by decide) rfl ?_
  intro p e s m args below meth c s₁ B hml hv
  obtain ⟨ha, hP, hK⟩ := hv
  have hx := B.exec
  have hb := B.bytes
  have hr := B.returns
  have hts := atoms_spec (ws := wsX7_valueOfHouse) B.pre
  have hown : s.vm.findClass RX7 = some m.cls := findClass_of_methodNamed B.named
  have hlocks := B.notSynchronized
  obtain ⟨R, hR⟩ : ∃ R, R = (headSpec wsX7_valueOfHouse rmX7_valueOfHouse).room := ⟨_, rfl⟩
  rw [← hR]
  have hR1 : R.frames = 2 := by rw [hR]; rfl
  have hR2 : R.locals = 44 := by rw [hR]; rfl
  obtain ⟨Q, hQ⟩ : ∃ Q : State → Prop, Q = MQ below (va_Qi (fun r' (_ : Unit) => r' = res9) (fun _ t => WU X (pk w k f0) t) (xF b0)) args s 0 0 (xF b0) := ⟨_, rfl⟩
  rw [← hQ]
  have hS : va_S (xF b0) s.heap s.heap [] := va_S.rf
  have hl := lv_entry ([.ref (xa X (51*k+0)), .int a1, .int a2]) (n := 3) (Nat.le_of_ble_eq_true rfl)
  refine W.eq ((congrArg (fun z => entryFrame m z 3) ha).trans (lg_entry_eq m _ 3)) ?_
  generalize (lg_sl ([.ref (xa X (51*k+0)), .int a1, .int a2]) ++ List.replicate (3 - (lg_sl ([.ref (xa X (51*k+0)), .int a1, .int a2])).length) Slot.unset).toArray = ls at hl ⊢
  have hl : lv_has ls 3 [(0, .ref (xa X (51*k+0))), (1, .int a1), (2, .int a2)] := hl
  have hk_f21 := hts (.fieldLink RX7 21 "BakeTurns$State" "houses" "LBakeTurns$Houses;") (by decide +kernel)
  have hk_f120 := hts (.fieldLink RX7 120 "BakeTurns$Houses" "balance" "LBakeTurns$Row;") (by decide +kernel)
  have hc_104 := (cwV 1 hts gX7_valueOfHouse_X6_at rfl rfl rfl (by decide +kernel) ⟨by rw [hR1]; exact Nat.le_of_ble_eq_true rfl, by rw [hR2]; exact Nat.le_of_ble_eq_true rfl⟩ : CallW R s args RX7 RX6 104 yX6_at cX6_at 2 (some .int) wsX6_at rmX6_at 0 0 1)
  have hk_f189 := hts (.fieldLink RX7 189 "BakeTurns$Houses" "use" "LBakeTurns$Row;") (by decide +kernel)
  have hk_f179 := hts (.fieldLink RX7 179 "BakeTurns$Houses" "paid" "LBakeTurns$Row;") (by decide +kernel)
  have hk_f176 := hts (.fieldLink RX7 176 "BakeTurns$Houses" "brought" "LBakeTurns$Row;") (by decide +kernel)
  have hc_248 := (cwV 1 hts gX7_valueOfHouse_X7_countDoughsOf rfl rfl rfl (by decide +kernel) ⟨by rw [hR1]; exact Nat.le_of_ble_eq_true rfl, by rw [hR2]; exact Nat.le_of_ble_eq_true rfl⟩ : CallW R s args RX7 RX7 248 yX7_countDoughsOf cX7_countDoughsOf 4 (some .int) wsX7_countDoughsOf rmX7_countDoughsOf 0 0 1)
  have hk_f238 := hts (.fieldLink RX7 238 "BakeTurns$Houses" "loavesDone" "LBakeTurns$Row;") (by decide +kernel)
  have hk_f240 := hts (.fieldLink RX7 240 "BakeTurns$Houses" "loavesBurnt" "LBakeTurns$Row;") (by decide +kernel)
  unfold m7_valueOfHouse at hf
  refine lv_iload_n hx hb dX7_valueOfHouse_0 rfl (lv_at hl 2 rfl) ?_
  by_cases hsw3 : a2 = 0
  · rw [if_pos hsw3] at hf
    refine lv_tableIn (off := 39) (tgt := 40) hx hb dX7_valueOfHouse_1 (by rw [hsw3]; decide) (by rw [hsw3]; decide) (by rw [hsw3]; rfl) (by decide) ?_
    refine lv_aload_n hx hb dX7_valueOfHouse_40 rfl (lv_at hl 0 rfl) ?_
    refine st_get (i0 := 0) hx hb hts iX7_valueOfHouse_X7 hown hP hK hk (by decide) rfl rfl 1 (by decide) hk_f21 rfl dX7_valueOfHouse_41 ?_
    refine st_get (i0 := 2) hx hb hts iX7_valueOfHouse_X3 hown hP hK hk (by decide) rfl rfl 1 (by decide) hk_f120 rfl dX7_valueOfHouse_44 ?_
    refine lv_iload_n hx hb dX7_valueOfHouse_47 rfl (lv_at hl 1 rfl) ?_
    refine st_at (j := 5) (n := 8) ⟨hx, hb, hml, hown, hts⟩ hP hK hS hk (by decide) rfl hc_104 hl.1 (Nat.le_of_ble_eq_true rfl) dX7_valueOfHouse_48 (fun H locs hP hS => ?_)
    have hf := Option.some.inj hf
    obtain rfl := hf
    rw [hQ]
    exact w_iret hx hb hr hlocks hP hK hS dX7_valueOfHouse_51 rfl rfl
  rw [if_neg hsw3] at hf
  by_cases hsw4 : a2 = 1
  · rw [if_pos hsw4] at hf
    refine lv_tableIn (off := 51) (tgt := 52) hx hb dX7_valueOfHouse_1 (by rw [hsw4]; decide) (by rw [hsw4]; decide) (by rw [hsw4]; rfl) (by decide) ?_
    refine lv_aload_n hx hb dX7_valueOfHouse_52 rfl (lv_at hl 0 rfl) ?_
    refine st_get (i0 := 0) hx hb hts iX7_valueOfHouse_X7 hown hP hK hk (by decide) rfl rfl 1 (by decide) hk_f21 rfl dX7_valueOfHouse_53 ?_
    refine st_get (i0 := 2) hx hb hts iX7_valueOfHouse_X3 hown hP hK hk (by decide) rfl rfl 2 (by decide) hk_f189 rfl dX7_valueOfHouse_56 ?_
    refine lv_iload_n hx hb dX7_valueOfHouse_59 rfl (lv_at hl 1 rfl) ?_
    refine st_at (j := 6) (n := 8) ⟨hx, hb, hml, hown, hts⟩ hP hK hS hk (by decide) rfl hc_104 hl.1 (Nat.le_of_ble_eq_true rfl) dX7_valueOfHouse_60 (fun H locs hP hS => ?_)
    have hf := Option.some.inj hf
    obtain rfl := hf
    rw [hQ]
    exact w_iret hx hb hr hlocks hP hK hS dX7_valueOfHouse_63 rfl rfl
  rw [if_neg hsw4] at hf
  by_cases hsw5 : a2 = 2
  · rw [if_pos hsw5] at hf
    refine lv_tableIn (off := 63) (tgt := 64) hx hb dX7_valueOfHouse_1 (by rw [hsw5]; decide) (by rw [hsw5]; decide) (by rw [hsw5]; rfl) (by decide) ?_
    refine lv_aload_n hx hb dX7_valueOfHouse_64 rfl (lv_at hl 0 rfl) ?_
    refine st_get (i0 := 0) hx hb hts iX7_valueOfHouse_X7 hown hP hK hk (by decide) rfl rfl 1 (by decide) hk_f21 rfl dX7_valueOfHouse_65 ?_
    refine st_get (i0 := 2) hx hb hts iX7_valueOfHouse_X3 hown hP hK hk (by decide) rfl rfl 3 (by decide) hk_f179 rfl dX7_valueOfHouse_68 ?_
    refine lv_iload_n hx hb dX7_valueOfHouse_71 rfl (lv_at hl 1 rfl) ?_
    refine st_at (j := 7) (n := 8) ⟨hx, hb, hml, hown, hts⟩ hP hK hS hk (by decide) rfl hc_104 hl.1 (Nat.le_of_ble_eq_true rfl) dX7_valueOfHouse_72 (fun H locs hP hS => ?_)
    have hf := Option.some.inj hf
    obtain rfl := hf
    rw [hQ]
    exact w_iret hx hb hr hlocks hP hK hS dX7_valueOfHouse_75 rfl rfl
  rw [if_neg hsw5] at hf
  by_cases hsw6 : a2 = 3
  · rw [if_pos hsw6] at hf
    refine lv_tableIn (off := 75) (tgt := 76) hx hb dX7_valueOfHouse_1 (by rw [hsw6]; decide) (by rw [hsw6]; decide) (by rw [hsw6]; rfl) (by decide) ?_
    refine lv_aload_n hx hb dX7_valueOfHouse_76 rfl (lv_at hl 0 rfl) ?_
    refine st_get (i0 := 0) hx hb hts iX7_valueOfHouse_X7 hown hP hK hk (by decide) rfl rfl 1 (by decide) hk_f21 rfl dX7_valueOfHouse_77 ?_
    refine st_get (i0 := 2) hx hb hts iX7_valueOfHouse_X3 hown hP hK hk (by decide) rfl rfl 4 (by decide) hk_f176 rfl dX7_valueOfHouse_80 ?_
    refine lv_iload_n hx hb dX7_valueOfHouse_83 rfl (lv_at hl 1 rfl) ?_
    refine st_at (j := 8) (n := 8) ⟨hx, hb, hml, hown, hts⟩ hP hK hS hk (by decide) rfl hc_104 hl.1 (Nat.le_of_ble_eq_true rfl) dX7_valueOfHouse_84 (fun H locs hP hS => ?_)
    have hf := Option.some.inj hf
    obtain rfl := hf
    rw [hQ]
    exact w_iret hx hb hr hlocks hP hK hS dX7_valueOfHouse_87 rfl rfl
  rw [if_neg hsw6] at hf
  by_cases hsw7 : a2 = 4
  · rw [if_pos hsw7] at hf
    refine lv_tableIn (off := 87) (tgt := 88) hx hb dX7_valueOfHouse_1 (by rw [hsw7]; decide) (by rw [hsw7]; decide) (by rw [hsw7]; rfl) (by decide) ?_
    refine lv_aload_n hx hb dX7_valueOfHouse_88 rfl (lv_at hl 0 rfl) ?_
    refine lv_iload_n hx hb dX7_valueOfHouse_89 rfl (lv_at hl 1 rfl) ?_
    obtain ⟨x1, hc2, hf⟩ := ob1_e hf
    refine w_ci ⟨hx, hb, hml, hown, hts⟩ hP hK hS (k7_countDoughsOf l hX hk w hc2) hc_248 (st_recv (i0 := 0) hP hK hk (by decide) rfl rfl) rfl hl.1 rfl (Nat.le_of_ble_eq_true rfl) dX7_valueOfHouse_90 ⟨Nat.zero_le _, Nat.zero_le _⟩ (fun H locs hP hS => ?_)
    have hf := Option.some.inj hf
    obtain rfl := hf
    rw [hQ]
    exact w_iret hx hb hr hlocks hP hK hS dX7_valueOfHouse_93 rfl rfl
  rw [if_neg hsw7] at hf
  by_cases hsw8 : a2 = 5
  · rw [if_pos hsw8] at hf
    refine lv_tableIn (off := 93) (tgt := 94) hx hb dX7_valueOfHouse_1 (by rw [hsw8]; decide) (by rw [hsw8]; decide) (by rw [hsw8]; rfl) (by decide) ?_
    refine lv_aload_n hx hb dX7_valueOfHouse_94 rfl (lv_at hl 0 rfl) ?_
    refine st_get (i0 := 0) hx hb hts iX7_valueOfHouse_X7 hown hP hK hk (by decide) rfl rfl 1 (by decide) hk_f21 rfl dX7_valueOfHouse_95 ?_
    refine st_get (i0 := 2) hx hb hts iX7_valueOfHouse_X3 hown hP hK hk (by decide) rfl rfl 5 (by decide) hk_f238 rfl dX7_valueOfHouse_98 ?_
    refine lv_iload_n hx hb dX7_valueOfHouse_101 rfl (lv_at hl 1 rfl) ?_
    refine st_at (j := 9) (n := 8) ⟨hx, hb, hml, hown, hts⟩ hP hK hS hk (by decide) rfl hc_104 hl.1 (Nat.le_of_ble_eq_true rfl) dX7_valueOfHouse_102 (fun H locs hP hS => ?_)
    have hf := Option.some.inj hf
    obtain rfl := hf
    rw [hQ]
    exact w_iret hx hb hr hlocks hP hK hS dX7_valueOfHouse_105 rfl rfl
  rw [if_neg hsw8] at hf
  have hdf : (a2).toInt < 0 ∨ 5 < (a2).toInt := by
    have ghsw3 := ne_i (z := 0) hsw3 (by decide)
    have ghsw4 := ne_i (z := 1) hsw4 (by decide)
    have ghsw5 := ne_i (z := 2) hsw5 (by decide)
    have ghsw6 := ne_i (z := 3) hsw6 (by decide)
    have ghsw7 := ne_i (z := 4) hsw7 (by decide)
    have ghsw8 := ne_i (z := 5) hsw8 (by decide)
    omega
  refine lv_tableOut (tgt := 106) hx hb dX7_valueOfHouse_1 hdf (by decide) ?_
  refine lv_aload_n hx hb dX7_valueOfHouse_106 rfl (lv_at hl 0 rfl) ?_
  refine st_get (i0 := 0) hx hb hts iX7_valueOfHouse_X7 hown hP hK hk (by decide) rfl rfl 1 (by decide) hk_f21 rfl dX7_valueOfHouse_107 ?_
  refine st_get (i0 := 2) hx hb hts iX7_valueOfHouse_X3 hown hP hK hk (by decide) rfl rfl 6 (by decide) hk_f240 rfl dX7_valueOfHouse_110 ?_
  refine lv_iload_n hx hb dX7_valueOfHouse_113 rfl (lv_at hl 1 rfl) ?_
  refine st_at (j := 10) (n := 8) ⟨hx, hb, hml, hown, hts⟩ hP hK hS hk (by decide) rfl hc_104 hl.1 (Nat.le_of_ble_eq_true rfl) dX7_valueOfHouse_114 (fun H locs hP hS => ?_)
  have hf := Option.some.inj hf
  obtain rfl := hf
  rw [hQ]
  exact w_iret hx hb hr hlocks hP hK hS dX7_valueOfHouse_117 rfl rfl
abbrev rmX7_valueOfDough : Room := { frames := 2, cells := 0, slots := 0, locals := 44 }
theorem iX7_valueOfDough_X1 : ∀ w ∈ wsX10, w ∈ wsX7_valueOfDough := by decide +kernel
theorem iX7_valueOfDough_X7 : ∀ w ∈ wsX70, w ∈ wsX7_valueOfDough := by decide +kernel
set_option maxHeartbeats 4000000 in
set_option maxRecDepth 100000 in
theorem k7_valueOfDough (l : Launch) {X : bkX} {b0 : Nat} (hX : XO X b0) {k : Nat} (hk : k < 6) (w : bkW) {N : Nat} {f0 : bkA} {a1 : Int32} {a2 : Int32} {res9 : Int32} (hf : m7_valueOfDough N f0 a1 a2 = some res9) : cI l yX7_valueOfDough wsX7_valueOfDough rmX7_valueOfDough X b0 [.ref (xa X (51*k+0)), .int a1, .int a2] (pk w k f0) res9 (pk w k f0) := by
  refine Met.ofW (cc := cX7_valueOfDough) (maxL := 3) (ret := (some .int)) (by decide) rfl ?_
  intro p e s m args below meth c s₁ B hml hv
  obtain ⟨ha, hP, hK⟩ := hv
  have hx := B.exec
  have hb := B.bytes
  have hr := B.returns
  have hts := atoms_spec (ws := wsX7_valueOfDough) B.pre
  have hown : s.vm.findClass RX7 = some m.cls := findClass_of_methodNamed B.named
  have hlocks := B.notSynchronized
  obtain ⟨R, hR⟩ : ∃ R, R = (headSpec wsX7_valueOfDough rmX7_valueOfDough).room := ⟨_, rfl⟩
  rw [← hR]
  have hR1 : R.frames = 2 := by rw [hR]; rfl
  have hR2 : R.locals = 44 := by rw [hR]; rfl
  obtain ⟨Q, hQ⟩ : ∃ Q : State → Prop, Q = MQ below (va_Qi (fun r' (_ : Unit) => r' = res9) (fun _ t => WU X (pk w k f0) t) (xF b0)) args s 0 0 (xF b0) := ⟨_, rfl⟩
  rw [← hQ]
  have hS : va_S (xF b0) s.heap s.heap [] := va_S.rf
  have hl := lv_entry ([.ref (xa X (51*k+0)), .int a1, .int a2]) (n := 3) (Nat.le_of_ble_eq_true rfl)
  refine W.eq ((congrArg (fun z => entryFrame m z 3) ha).trans (lg_entry_eq m _ 3)) ?_
  generalize (lg_sl ([.ref (xa X (51*k+0)), .int a1, .int a2]) ++ List.replicate (3 - (lg_sl ([.ref (xa X (51*k+0)), .int a1, .int a2])).length) Slot.unset).toArray = ls at hl ⊢
  have hl : lv_has ls 3 [(0, .ref (xa X (51*k+0))), (1, .int a1), (2, .int a2)] := hl
  have hk_f28 := hts (.fieldLink RX7 28 "BakeTurns$State" "doughs" "LBakeTurns$Doughs;") (by decide +kernel)
  have hk_f143 := hts (.fieldLink RX7 143 "BakeTurns$Doughs" "houseOf" "LBakeTurns$Row;") (by decide +kernel)
  have hc_104 := (cwV 1 hts gX7_valueOfDough_X6_at rfl rfl rfl (by decide +kernel) ⟨by rw [hR1]; exact Nat.le_of_ble_eq_true rfl, by rw [hR2]; exact Nat.le_of_ble_eq_true rfl⟩ : CallW R s args RX7 RX6 104 yX6_at cX6_at 2 (some .int) wsX6_at rmX6_at 0 0 1)
  have hk_f146 := hts (.fieldLink RX7 146 "BakeTurns$Doughs" "kindOf" "LBakeTurns$Row;") (by decide +kernel)
  have hk_f149 := hts (.fieldLink RX7 149 "BakeTurns$Doughs" "loaves" "LBakeTurns$Row;") (by decide +kernel)
  have hk_f152 := hts (.fieldLink RX7 152 "BakeTurns$Doughs" "age" "LBakeTurns$Row;") (by decide +kernel)
  have hk_f101 := hts (.fieldLink RX7 101 "BakeTurns$Doughs" "phase" "LBakeTurns$Row;") (by decide +kernel)
  have hk_f155 := hts (.fieldLink RX7 155 "BakeTurns$Doughs" "lastReason" "LBakeTurns$Row;") (by decide +kernel)
  have hk_f108 := hts (.fieldLink RX7 108 "BakeTurns$Doughs" "loadedAt" "LBakeTurns$Row;") (by decide +kernel)
  have hc_170 := (cwV 1 hts gX7_valueOfDough_X7_placeInLine rfl rfl rfl (by decide +kernel) ⟨by rw [hR1]; exact Nat.le_of_ble_eq_true rfl, by rw [hR2]; exact Nat.le_of_ble_eq_true rfl⟩ : CallW R s args RX7 RX7 170 yX7_placeInLine cX7_placeInLine 3 (some .int) wsX7_placeInLine rmX7_placeInLine 0 0 1)
  have hc_251 := (cwV 1 hts gX7_valueOfDough_X7_setOfPlaces rfl rfl rfl (by decide +kernel) ⟨by rw [hR1]; exact Nat.le_of_ble_eq_true rfl, by rw [hR2]; exact Nat.le_of_ble_eq_true rfl⟩ : CallW R s args RX7 RX7 251 yX7_setOfPlaces cX7_setOfPlaces 4 (some .int) wsX7_setOfPlaces rmX7_setOfPlaces 0 0 1)
  have hk_f158 := hts (.fieldLink RX7 158 "BakeTurns$Doughs" "burnt" "LBakeTurns$Row;") (by decide +kernel)
  unfold m7_valueOfDough at hf
  refine lv_iload_n hx hb dX7_valueOfDough_0 rfl (lv_at hl 2 rfl) ?_
  by_cases hsw5 : a2 = 0
  · rw [if_pos hsw5] at hf
    refine lv_tableIn (off := 51) (tgt := 52) hx hb dX7_valueOfDough_1 (by rw [hsw5]; decide) (by rw [hsw5]; decide) (by rw [hsw5]; rfl) (by decide) ?_
    refine lv_aload_n hx hb dX7_valueOfDough_52 rfl (lv_at hl 0 rfl) ?_
    refine st_get (i0 := 0) hx hb hts iX7_valueOfDough_X7 hown hP hK hk (by decide) rfl rfl 2 (by decide) hk_f28 rfl dX7_valueOfDough_53 ?_
    refine st_get (i0 := 3) hx hb hts iX7_valueOfDough_X1 hown hP hK hk (by decide) rfl rfl 1 (by decide) hk_f143 rfl dX7_valueOfDough_56 ?_
    refine lv_iload_n hx hb dX7_valueOfDough_59 rfl (lv_at hl 1 rfl) ?_
    refine st_at (j := 11) (n := 16) ⟨hx, hb, hml, hown, hts⟩ hP hK hS hk (by decide) rfl hc_104 hl.1 (Nat.le_of_ble_eq_true rfl) dX7_valueOfDough_60 (fun H locs hP hS => ?_)
    have hf := Option.some.inj hf
    obtain rfl := hf
    rw [hQ]
    exact w_iret hx hb hr hlocks hP hK hS dX7_valueOfDough_63 rfl rfl
  rw [if_neg hsw5] at hf
  by_cases hsw6 : a2 = 1
  · rw [if_pos hsw6] at hf
    refine lv_tableIn (off := 63) (tgt := 64) hx hb dX7_valueOfDough_1 (by rw [hsw6]; decide) (by rw [hsw6]; decide) (by rw [hsw6]; rfl) (by decide) ?_
    refine lv_aload_n hx hb dX7_valueOfDough_64 rfl (lv_at hl 0 rfl) ?_
    refine st_get (i0 := 0) hx hb hts iX7_valueOfDough_X7 hown hP hK hk (by decide) rfl rfl 2 (by decide) hk_f28 rfl dX7_valueOfDough_65 ?_
    refine st_get (i0 := 3) hx hb hts iX7_valueOfDough_X1 hown hP hK hk (by decide) rfl rfl 2 (by decide) hk_f146 rfl dX7_valueOfDough_68 ?_
    refine lv_iload_n hx hb dX7_valueOfDough_71 rfl (lv_at hl 1 rfl) ?_
    refine st_at (j := 12) (n := 16) ⟨hx, hb, hml, hown, hts⟩ hP hK hS hk (by decide) rfl hc_104 hl.1 (Nat.le_of_ble_eq_true rfl) dX7_valueOfDough_72 (fun H locs hP hS => ?_)
    have hf := Option.some.inj hf
    obtain rfl := hf
    rw [hQ]
    exact w_iret hx hb hr hlocks hP hK hS dX7_valueOfDough_75 rfl rfl
  rw [if_neg hsw6] at hf
  by_cases hsw7 : a2 = 2
  · rw [if_pos hsw7] at hf
    refine lv_tableIn (off := 75) (tgt := 76) hx hb dX7_valueOfDough_1 (by rw [hsw7]; decide) (by rw [hsw7]; decide) (by rw [hsw7]; rfl) (by decide) ?_
    refine lv_aload_n hx hb dX7_valueOfDough_76 rfl (lv_at hl 0 rfl) ?_
    refine st_get (i0 := 0) hx hb hts iX7_valueOfDough_X7 hown hP hK hk (by decide) rfl rfl 2 (by decide) hk_f28 rfl dX7_valueOfDough_77 ?_
    refine st_get (i0 := 3) hx hb hts iX7_valueOfDough_X1 hown hP hK hk (by decide) rfl rfl 3 (by decide) hk_f149 rfl dX7_valueOfDough_80 ?_
    refine lv_iload_n hx hb dX7_valueOfDough_83 rfl (lv_at hl 1 rfl) ?_
    refine st_at (j := 13) (n := 16) ⟨hx, hb, hml, hown, hts⟩ hP hK hS hk (by decide) rfl hc_104 hl.1 (Nat.le_of_ble_eq_true rfl) dX7_valueOfDough_84 (fun H locs hP hS => ?_)
    have hf := Option.some.inj hf
    obtain rfl := hf
    rw [hQ]
    exact w_iret hx hb hr hlocks hP hK hS dX7_valueOfDough_87 rfl rfl
  rw [if_neg hsw7] at hf
  by_cases hsw8 : a2 = 3
  · rw [if_pos hsw8] at hf
    refine lv_tableIn (off := 87) (tgt := 88) hx hb dX7_valueOfDough_1 (by rw [hsw8]; decide) (by rw [hsw8]; decide) (by rw [hsw8]; rfl) (by decide) ?_
    refine lv_aload_n hx hb dX7_valueOfDough_88 rfl (lv_at hl 0 rfl) ?_
    refine st_get (i0 := 0) hx hb hts iX7_valueOfDough_X7 hown hP hK hk (by decide) rfl rfl 2 (by decide) hk_f28 rfl dX7_valueOfDough_89 ?_
    refine st_get (i0 := 3) hx hb hts iX7_valueOfDough_X1 hown hP hK hk (by decide) rfl rfl 4 (by decide) hk_f152 rfl dX7_valueOfDough_92 ?_
    refine lv_iload_n hx hb dX7_valueOfDough_95 rfl (lv_at hl 1 rfl) ?_
    refine st_at (j := 14) (n := 16) ⟨hx, hb, hml, hown, hts⟩ hP hK hS hk (by decide) rfl hc_104 hl.1 (Nat.le_of_ble_eq_true rfl) dX7_valueOfDough_96 (fun H locs hP hS => ?_)
    have hf := Option.some.inj hf
    obtain rfl := hf
    rw [hQ]
    exact w_iret hx hb hr hlocks hP hK hS dX7_valueOfDough_99 rfl rfl
  rw [if_neg hsw8] at hf
  by_cases hsw9 : a2 = 4
  · rw [if_pos hsw9] at hf
    refine lv_tableIn (off := 99) (tgt := 100) hx hb dX7_valueOfDough_1 (by rw [hsw9]; decide) (by rw [hsw9]; decide) (by rw [hsw9]; rfl) (by decide) ?_
    refine lv_aload_n hx hb dX7_valueOfDough_100 rfl (lv_at hl 0 rfl) ?_
    refine st_get (i0 := 0) hx hb hts iX7_valueOfDough_X7 hown hP hK hk (by decide) rfl rfl 2 (by decide) hk_f28 rfl dX7_valueOfDough_101 ?_
    refine st_get (i0 := 3) hx hb hts iX7_valueOfDough_X1 hown hP hK hk (by decide) rfl rfl 5 (by decide) hk_f101 rfl dX7_valueOfDough_104 ?_
    refine lv_iload_n hx hb dX7_valueOfDough_107 rfl (lv_at hl 1 rfl) ?_
    refine st_at (j := 15) (n := 16) ⟨hx, hb, hml, hown, hts⟩ hP hK hS hk (by decide) rfl hc_104 hl.1 (Nat.le_of_ble_eq_true rfl) dX7_valueOfDough_108 (fun H locs hP hS => ?_)
    have hf := Option.some.inj hf
    obtain rfl := hf
    rw [hQ]
    exact w_iret hx hb hr hlocks hP hK hS dX7_valueOfDough_111 rfl rfl
  rw [if_neg hsw9] at hf
  by_cases hsw10 : a2 = 5
  · rw [if_pos hsw10] at hf
    refine lv_tableIn (off := 111) (tgt := 112) hx hb dX7_valueOfDough_1 (by rw [hsw10]; decide) (by rw [hsw10]; decide) (by rw [hsw10]; rfl) (by decide) ?_
    refine lv_aload_n hx hb dX7_valueOfDough_112 rfl (lv_at hl 0 rfl) ?_
    refine st_get (i0 := 0) hx hb hts iX7_valueOfDough_X7 hown hP hK hk (by decide) rfl rfl 2 (by decide) hk_f28 rfl dX7_valueOfDough_113 ?_
    refine st_get (i0 := 3) hx hb hts iX7_valueOfDough_X1 hown hP hK hk (by decide) rfl rfl 6 (by decide) hk_f155 rfl dX7_valueOfDough_116 ?_
    refine lv_iload_n hx hb dX7_valueOfDough_119 rfl (lv_at hl 1 rfl) ?_
    refine st_at (j := 16) (n := 16) ⟨hx, hb, hml, hown, hts⟩ hP hK hS hk (by decide) rfl hc_104 hl.1 (Nat.le_of_ble_eq_true rfl) dX7_valueOfDough_120 (fun H locs hP hS => ?_)
    have hf := Option.some.inj hf
    obtain rfl := hf
    rw [hQ]
    exact w_iret hx hb hr hlocks hP hK hS dX7_valueOfDough_123 rfl rfl
  rw [if_neg hsw10] at hf
  by_cases hsw11 : a2 = 6
  · rw [if_pos hsw11] at hf
    refine lv_tableIn (off := 123) (tgt := 124) hx hb dX7_valueOfDough_1 (by rw [hsw11]; decide) (by rw [hsw11]; decide) (by rw [hsw11]; rfl) (by decide) ?_
    refine lv_aload_n hx hb dX7_valueOfDough_124 rfl (lv_at hl 0 rfl) ?_
    refine st_get (i0 := 0) hx hb hts iX7_valueOfDough_X7 hown hP hK hk (by decide) rfl rfl 2 (by decide) hk_f28 rfl dX7_valueOfDough_125 ?_
    refine st_get (i0 := 3) hx hb hts iX7_valueOfDough_X1 hown hP hK hk (by decide) rfl rfl 7 (by decide) hk_f108 rfl dX7_valueOfDough_128 ?_
    refine lv_iload_n hx hb dX7_valueOfDough_131 rfl (lv_at hl 1 rfl) ?_
    refine st_at (j := 17) (n := 16) ⟨hx, hb, hml, hown, hts⟩ hP hK hS hk (by decide) rfl hc_104 hl.1 (Nat.le_of_ble_eq_true rfl) dX7_valueOfDough_132 (fun H locs hP hS => ?_)
    have hf := Option.some.inj hf
    obtain rfl := hf
    rw [hQ]
    exact w_iret hx hb hr hlocks hP hK hS dX7_valueOfDough_135 rfl rfl
  rw [if_neg hsw11] at hf
  by_cases hsw12 : a2 = 7
  · rw [if_pos hsw12] at hf
    refine lv_tableIn (off := 135) (tgt := 136) hx hb dX7_valueOfDough_1 (by rw [hsw12]; decide) (by rw [hsw12]; decide) (by rw [hsw12]; rfl) (by decide) ?_
    refine lv_aload_n hx hb dX7_valueOfDough_136 rfl (lv_at hl 0 rfl) ?_
    refine lv_iload_n hx hb dX7_valueOfDough_137 rfl (lv_at hl 1 rfl) ?_
    obtain ⟨x1, hc2, hf⟩ := ob1_e hf
    refine w_ci ⟨hx, hb, hml, hown, hts⟩ hP hK hS (k7_placeInLine l hX hk w hc2) hc_170 (st_recv (i0 := 0) hP hK hk (by decide) rfl rfl) rfl hl.1 rfl (Nat.le_of_ble_eq_true rfl) dX7_valueOfDough_138 ⟨Nat.zero_le _, Nat.zero_le _⟩ (fun H locs hP hS => ?_)
    have hf := Option.some.inj hf
    obtain rfl := hf
    rw [hQ]
    exact w_iret hx hb hr hlocks hP hK hS dX7_valueOfDough_141 rfl rfl
  rw [if_neg hsw12] at hf
  by_cases hsw13 : a2 = 8
  · rw [if_pos hsw13] at hf
    refine lv_tableIn (off := 141) (tgt := 142) hx hb dX7_valueOfDough_1 (by rw [hsw13]; decide) (by rw [hsw13]; decide) (by rw [hsw13]; rfl) (by decide) ?_
    refine lv_aload_n hx hb dX7_valueOfDough_142 rfl (lv_at hl 0 rfl) ?_
    refine lv_iload_n hx hb dX7_valueOfDough_143 rfl (lv_at hl 1 rfl) ?_
    obtain ⟨x3, hc4, hf⟩ := ob1_e hf
    refine w_ci ⟨hx, hb, hml, hown, hts⟩ hP hK hS (k7_setOfPlaces l hX hk w hc4) hc_251 (st_recv (i0 := 0) hP hK hk (by decide) rfl rfl) rfl hl.1 rfl (Nat.le_of_ble_eq_true rfl) dX7_valueOfDough_144 ⟨Nat.zero_le _, Nat.zero_le _⟩ (fun H locs hP hS => ?_)
    have hf := Option.some.inj hf
    obtain rfl := hf
    rw [hQ]
    exact w_iret hx hb hr hlocks hP hK hS dX7_valueOfDough_147 rfl rfl
  rw [if_neg hsw13] at hf
  have hdf : (a2).toInt < 0 ∨ 8 < (a2).toInt := by
    have ghsw5 := ne_i (z := 0) hsw5 (by decide)
    have ghsw6 := ne_i (z := 1) hsw6 (by decide)
    have ghsw7 := ne_i (z := 2) hsw7 (by decide)
    have ghsw8 := ne_i (z := 3) hsw8 (by decide)
    have ghsw9 := ne_i (z := 4) hsw9 (by decide)
    have ghsw10 := ne_i (z := 5) hsw10 (by decide)
    have ghsw11 := ne_i (z := 6) hsw11 (by decide)
    have ghsw12 := ne_i (z := 7) hsw12 (by decide)
    have ghsw13 := ne_i (z := 8) hsw13 (by decide)
    omega
  refine lv_tableOut (tgt := 148) hx hb dX7_valueOfDough_1 hdf (by decide) ?_
  refine lv_aload_n hx hb dX7_valueOfDough_148 rfl (lv_at hl 0 rfl) ?_
  refine st_get (i0 := 0) hx hb hts iX7_valueOfDough_X7 hown hP hK hk (by decide) rfl rfl 2 (by decide) hk_f28 rfl dX7_valueOfDough_149 ?_
  refine st_get (i0 := 3) hx hb hts iX7_valueOfDough_X1 hown hP hK hk (by decide) rfl rfl 8 (by decide) hk_f158 rfl dX7_valueOfDough_152 ?_
  refine lv_iload_n hx hb dX7_valueOfDough_155 rfl (lv_at hl 1 rfl) ?_
  refine st_at (j := 18) (n := 16) ⟨hx, hb, hml, hown, hts⟩ hP hK hS hk (by decide) rfl hc_104 hl.1 (Nat.le_of_ble_eq_true rfl) dX7_valueOfDough_156 (fun H locs hP hS => ?_)
  have hf := Option.some.inj hf
  obtain rfl := hf
  rw [hQ]
  exact w_iret hx hb hr hlocks hP hK hS dX7_valueOfDough_159 rfl rfl
