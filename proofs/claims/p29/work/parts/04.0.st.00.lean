abbrev rmX5_isFree : Room := { frames := 1, cells := 0, slots := 0, locals := 21 }
theorem iX5_isFree_X5 : ∀ w ∈ wsX50, w ∈ wsX5_isFree := by decide +kernel
set_option maxHeartbeats 4000000 in
set_option maxRecDepth 100000 in
theorem k5_isFree (l : Launch) {X : bkX} {b0 : Nat} (hX : XO X b0) {k : Nat} (hk : k < 6) (w : bkW) {f0 : bkA} {a1 : Int32} {res9 : Int32} (hf : m5_isFree f0 a1 = res9) : cI l yX5_isFree wsX5_isFree rmX5_isFree X b0 [.ref (xa X (51*k+4)), .int a1] (pk w k f0) res9 (pk w k f0) := by
  refine Met.ofW (cc := cX5_isFree) (maxL := 2) (ret := (some .boolean)) (by decide) rfl ?_
  intro p e s m args below meth c s₁ B hml hv
  obtain ⟨ha, hP, hK⟩ := hv
  have hx := B.exec
  have hb := B.bytes
  have hr := B.returns
  have hts := atoms_spec (ws := wsX5_isFree) B.pre
  have hown : s.vm.findClass RX5 = some m.cls := findClass_of_methodNamed B.named
  have hlocks := B.notSynchronized
  obtain ⟨R, hR⟩ : ∃ R, R = (headSpec wsX5_isFree rmX5_isFree).room := ⟨_, rfl⟩
  rw [← hR]
  have hR1 : R.frames = 1 := by rw [hR]; rfl
  have hR2 : R.locals = 21 := by rw [hR]; rfl
  obtain ⟨Q, hQ⟩ : ∃ Q : State → Prop, Q = MQ below (va_Qi (fun r' (_ : Unit) => r' = res9) (fun _ t => WU X (pk w k f0) t) (xF b0)) args s 0 0 (xF b0) := ⟨_, rfl⟩
  rw [← hQ]
  have hS : va_S (xF b0) s.heap s.heap [] := va_S.rf
  have hl := lv_entry ([.ref (xa X (51*k+4)), .int a1]) (n := 2) (Nat.le_of_ble_eq_true rfl)
  refine W.eq ((congrArg (fun z => entryFrame m z 2) ha).trans (lg_entry_eq m _ 2)) ?_
  generalize (lg_sl ([.ref (xa X (51*k+4)), .int a1]) ++ List.replicate (2 - (lg_sl ([.ref (xa X (51*k+4)), .int a1])).length) Slot.unset).toArray = ls at hl ⊢
  have hl : lv_has ls 2 [(0, .ref (xa X (51*k+4))), (1, .int a1)] := hl
  have hk_f14 := hts (.fieldLink RX5 14 "BakeTurns$Places" "doughOn" "LBakeTurns$Row;") (by decide +kernel)
  have hc_33 := (cwV 1 hts gX5_isFree_X6_at rfl rfl rfl (by decide +kernel) ⟨by rw [hR1]; exact Nat.le_of_ble_eq_true rfl, by rw [hR2]; exact Nat.le_of_ble_eq_true rfl⟩ : CallW R s args RX5 RX6 33 yX6_at cX6_at 2 (some .int) wsX6_at rmX6_at 0 0 1)
  unfold m5_isFree at hf
  refine lv_aload_n hx hb dX5_isFree_0 rfl (lv_at hl 0 rfl) ?_
  refine st_get (i0 := 4) hx hb hts iX5_isFree_X5 hown hP hK hk (by decide) rfl rfl 0 (by decide) hk_f14 rfl dX5_isFree_1 ?_
  refine lv_iload_n hx hb dX5_isFree_4 rfl (lv_at hl 1 rfl) ?_
  refine st_at (j := 19) (n := 12) ⟨hx, hb, hml, hown, hts⟩ hP hK hS hk (by decide) rfl hc_33 hl.1 (Nat.le_of_ble_eq_true rfl) dX5_isFree_5 (fun H locs hP hS => ?_)
  refine lv_iconst (v := (-1)) hx hb dX5_isFree_8 (by decide) ?_
  refine lv_icmp_ne (tgt := 16) hx hb dX5_isFree_9 (by decide) (fun h1 => ?_) (fun h1 => ?_)
  · rw [if_neg h1] at hf
    refine lv_iconst (v := 0) hx hb dX5_isFree_16 (by decide) ?_
    obtain rfl := hf
    rw [hQ]
    exact w_zret hx hb hr hlocks hP hK hS dX5_isFree_17 (by decide) rfl rfl
  · rw [if_pos h1] at hf
    refine lv_iconst (v := 1) hx hb dX5_isFree_12 (by decide) ?_
    refine lv_goto (tgt := 17) hx hb dX5_isFree_13 (by decide) ?_
    obtain rfl := hf
    rw [hQ]
    exact w_zret hx hb hr hlocks hP hK hS dX5_isFree_17 (by decide) rfl rfl
abbrev rmX5_countFree : Room := { frames := 2, cells := 0, slots := 0, locals := 42 }
set_option maxHeartbeats 4000000 in
set_option maxRecDepth 100000 in
theorem k5_countFree (l : Launch) {X : bkX} {b0 : Nat} (hX : XO X b0) {k : Nat} (hk : k < 6) (w : bkW) {N : Nat} {f0 : bkA} {res9 : Int32} (hf : m5_countFree N f0 = some res9) : cI l yX5_countFree wsX5_countFree rmX5_countFree X b0 [.ref (xa X (51*k+4))] (pk w k f0) res9 (pk w k f0) := by
  refine Met.ofW (cc := cX5_countFree) (maxL := 3) (ret := (some .int)) (by decide) rfl ?_
  intro p e s m args below meth c s₁ B hml hv
  obtain ⟨ha, hP, hK⟩ := hv
  have hx := B.exec
  have hb := B.bytes
  have hr := B.returns
  have hts := atoms_spec (ws := wsX5_countFree) B.pre
  have hown : s.vm.findClass RX5 = some m.cls := findClass_of_methodNamed B.named
  have hlocks := B.notSynchronized
  obtain ⟨R, hR⟩ : ∃ R, R = (headSpec wsX5_countFree rmX5_countFree).room := ⟨_, rfl⟩
  rw [← hR]
  have hR1 : R.frames = 2 := by rw [hR]; rfl
  have hR2 : R.locals = 42 := by rw [hR]; rfl
  obtain ⟨Q, hQ⟩ : ∃ Q : State → Prop, Q = MQ below (va_Qi (fun r' (_ : Unit) => r' = res9) (fun _ t => WU X (pk w k f0) t) (xF b0)) args s 0 0 (xF b0) := ⟨_, rfl⟩
  rw [← hQ]
  have hS : va_S (xF b0) s.heap s.heap [] := va_S.rf
  have hl := lv_entry ([.ref (xa X (51*k+4))]) (n := 3) (Nat.le_of_ble_eq_true rfl)
  refine W.eq ((congrArg (fun z => entryFrame m z 3) ha).trans (lg_entry_eq m _ 3)) ?_
  generalize (lg_sl ([.ref (xa X (51*k+4))]) ++ List.replicate (3 - (lg_sl ([.ref (xa X (51*k+4))])).length) Slot.unset).toArray = ls at hl ⊢
  have hl : lv_has ls 3 [(0, .ref (xa X (51*k+4)))] := hl
  have hc_37 := (cwV 1 hts gX5_countFree_X5_isFree rfl rfl rfl (by decide +kernel) ⟨by rw [hR1]; exact Nat.le_of_ble_eq_true rfl, by rw [hR2]; exact Nat.le_of_ble_eq_true rfl⟩ : CallW R s args RX5 RX5 37 yX5_isFree cX5_isFree 2 (some .boolean) wsX5_isFree rmX5_isFree 0 0 1)
  unfold m5_countFree at hf
  refine lv_iconst (v := 0) hx hb dX5_countFree_0 (by decide) ?_
  refine lv_istore_n (lv' := [(1, .int 0), (0, .ref (xa X (51*k+4)))]) hx hb dX5_countFree_1 rfl hl (by decide) rfl (fun ls hl => ?_)
  refine lv_iconst (v := 0) hx hb dX5_countFree_2 (by decide) ?_
  refine lv_istore_n (lv' := [(2, .int 0), (1, .int 0), (0, .ref (xa X (51*k+4)))]) hx hb dX5_countFree_3 rfl hl (by decide) rfl (fun ls hl => ?_)
  have L4 : ∀ (n : Nat) (x2 : Int32) (x3 : Int32)  (o4 : Int32) (H : Heap) (locs : List Loc) (ls : Array Slot), m5_countFree_L4 N n x2 x3 f0 = some o4 → HW X (pk w k f0) H → va_S (xF b0) s.heap H locs → lv_has ls 3 [(0, .ref (xa X (51*k+4))), (1, .int x2), (2, .int x3)] → (∀ (H1 : Heap) (locs1 : List Loc) (ls1 : Array Slot), HW X (pk w k f0) H1 → va_S (xF b0) s.heap H1 locs1 → lv_has ls1 3 [(1, .int o4)] → W p l e R s m args below meth c H1 locs1 0 0 Q (F0 m 27 ls1 [])) → W p l e R s m args below meth c H locs 0 0 Q (F0 m 4 ls []) := by
    intro n; induction n with
    | zero => intro x2 x3 o4 H locs ls hf; rw [m5_countFree_L4] at hf; cases hf
    | succ n ih =>
      intro x2 x3 o4 H locs ls hf hP hS hl K
      rw [m5_countFree_L4] at hf
      refine lv_iload_n hx hb dX5_countFree_4 rfl (lv_at hl 2 rfl) ?_
      refine lv_bipush (v := 12) hx hb dX5_countFree_5 (by decide) ?_
      refine lv_icmp_ge (tgt := 27) hx hb dX5_countFree_7 (by decide) (fun h5 => ?_) (fun h5 => ?_)
      · rw [if_pos h5] at hf
        have hf := Option.some.inj hf
        obtain rfl := hf
        exact K _ _ _ hP hS (lv_sub hl [1] rfl)
      · rw [if_neg h5] at hf
        refine lv_aload_n hx hb dX5_countFree_10 rfl (lv_at hl 0 rfl) ?_
        refine lv_iload_n hx hb dX5_countFree_11 rfl (lv_at hl 2 rfl) ?_
        obtain ⟨x6, hc7, hf⟩ := lt1_e hf
        refine w_ci ⟨hx, hb, hml, hown, hts⟩ hP hK hS (k5_isFree l hX hk w hc7) hc_37 (st_recv (i0 := 4) hP hK hk (by decide) rfl rfl) rfl hl.1 rfl (Nat.le_of_ble_eq_true rfl) dX5_countFree_12 ⟨Nat.zero_le _, Nat.zero_le _⟩ (fun H locs hP hS => ?_)
        obtain ⟨x10, ejK11, hf⟩ := lt1_e hf
        have K11 : ∀ (H : Heap) (locs : List Loc) (ls : Array Slot), HW X (pk w k f0) H → va_S (xF b0) s.heap H locs → lv_has ls 3 [(0, .ref (xa X (51*k+4))), (1, .int x10), (2, .int x3)] → W p l e R s m args below meth c H locs 0 0 Q (F0 m 21 ls []) := by
          intro H locs ls hP hS hl
          obtain ⟨x13, ex13⟩ : ∃ y : Int32, y = x3 + 1 := ⟨_, rfl⟩
          replace hf := ltn_s ex13 hf
          refine lv_iinc (v := x13) (lv' := [(2, .int x13), (0, .ref (xa X (51*k+4))), (1, .int x10)]) hx hb dX5_countFree_21 hl (k := 2) rfl (by rw [ex13]; rfl) (by decide) rfl (fun ls hl => ?_)
          refine lv_goto (tgt := 4) hx hb dX5_countFree_24 (by decide) ?_
          exact ih x10 x13 o4 _ _ _ hf hP hS (lv_sub hl [1, 2, 0] rfl) K
        clear hf
        refine lv_if_eq (tgt := 21) hx hb dX5_countFree_15 (by decide) (fun h8 => ?_) (fun h8 => ?_)
        · rw [if_pos h8] at ejK11
          obtain rfl := ejK11
          exact K11 _ _ _ hP hS (lv_sub hl [0, 1, 2] rfl)
        · rw [if_neg h8] at ejK11
          obtain ⟨x12, ex12⟩ : ∃ y : Int32, y = x2 + 1 := ⟨_, rfl⟩
          replace ejK11 := ltn_s ex12 ejK11
          refine lv_iinc (v := x12) (lv' := [(1, .int x12), (0, .ref (xa X (51*k+4))), (2, .int x3)]) hx hb dX5_countFree_18 hl (k := 1) rfl (by rw [ex12]; rfl) (by decide) rfl (fun ls hl => ?_)
          obtain rfl := ejK11
          exact K11 _ _ _ hP hS (lv_sub hl [1, 0, 2] rfl)
  obtain ⟨x14, hc15, hf⟩ := ob1_e hf
  refine L4 N 0 0  x14 _ _ _ hc15 hP hS (lv_sub hl [2, 1, 0] rfl) (fun H locs ls hP hS hl => ?_)
  refine lv_iload_n hx hb dX5_countFree_27 rfl (lv_at hl 0 rfl) ?_
  have hf := Option.some.inj hf
  obtain rfl := hf
  rw [hQ]
  exact w_iret hx hb hr hlocks hP hK hS dX5_countFree_28 rfl rfl
abbrev rmX5_putLoaf : Room := { frames := 1, cells := 0, slots := 0, locals := 22 }
theorem iX5_putLoaf_X5 : ∀ w ∈ wsX50, w ∈ wsX5_putLoaf := by decide +kernel
set_option maxHeartbeats 4000000 in
set_option maxRecDepth 100000 in
theorem k5_putLoaf (l : Launch) {X : bkX} {b0 : Nat} (hX : XO X b0) {k : Nat} (hk : k < 6) (w : bkW) {f0 : bkA} {a1 : Int32} {a2 : Int32} {f9 : bkA} (hf : m5_putLoaf f0 a1 a2 = f9) : cV l yX5_putLoaf wsX5_putLoaf rmX5_putLoaf X b0 [.ref (xa X (51*k+4)), .int a1, .int a2] (pk w k f0) (pk w k f9) := by
  refine Met.ofW (cc := cX5_putLoaf) (maxL := 3) (ret := none) (by decide) rfl ?_
  intro p e s m args below meth c s₁ B hml hv
  obtain ⟨ha, hP, hK⟩ := hv
  have hx := B.exec
  have hb := B.bytes
  have hr := B.returns
  have hts := atoms_spec (ws := wsX5_putLoaf) B.pre
  have hown : s.vm.findClass RX5 = some m.cls := findClass_of_methodNamed B.named
  have hlocks := B.notSynchronized
  obtain ⟨R, hR⟩ : ∃ R, R = (headSpec wsX5_putLoaf rmX5_putLoaf).room := ⟨_, rfl⟩
  rw [← hR]
  have hR1 : R.frames = 1 := by rw [hR]; rfl
  have hR2 : R.locals = 22 := by rw [hR]; rfl
  obtain ⟨Q, hQ⟩ : ∃ Q : State → Prop, Q = MQ below (va_Qv (fun (_ : Unit) => True) (fun _ t => WU X (pk w k f9) t) (xF b0)) args s 0 0 (xF b0) := ⟨_, rfl⟩
  rw [← hQ]
  have hS : va_S (xF b0) s.heap s.heap [] := va_S.rf
  have hl := lv_entry ([.ref (xa X (51*k+4)), .int a1, .int a2]) (n := 3) (Nat.le_of_ble_eq_true rfl)
  refine W.eq ((congrArg (fun z => entryFrame m z 3) ha).trans (lg_entry_eq m _ 3)) ?_
  generalize (lg_sl ([.ref (xa X (51*k+4)), .int a1, .int a2]) ++ List.replicate (3 - (lg_sl ([.ref (xa X (51*k+4)), .int a1, .int a2])).length) Slot.unset).toArray = ls at hl ⊢
  have hl : lv_has ls 3 [(0, .ref (xa X (51*k+4))), (1, .int a1), (2, .int a2)] := hl
  have hk_f14 := hts (.fieldLink RX5 14 "BakeTurns$Places" "doughOn" "LBakeTurns$Row;") (by decide +kernel)
  have hc_41 := (cwV 2 hts gX5_putLoaf_X6_put rfl rfl rfl (by decide +kernel) ⟨by rw [hR1]; exact Nat.le_of_ble_eq_true rfl, by rw [hR2]; exact Nat.le_of_ble_eq_true rfl⟩ : CallW R s args RX5 RX6 41 yX6_put cX6_put 3 none wsX6_put rmX6_put 0 0 2)
  have hk_f20 := hts (.fieldLink RX5 20 "BakeTurns$Places" "baked" "LBakeTurns$Row;") (by decide +kernel)
  have hk_f23 := hts (.fieldLink RX5 23 "BakeTurns$Places" "scorched" "LBakeTurns$Row;") (by decide +kernel)
  unfold m5_putLoaf at hf
  refine lv_aload_n hx hb dX5_putLoaf_0 rfl (lv_at hl 0 rfl) ?_
  refine st_get (i0 := 4) hx hb hts iX5_putLoaf_X5 hown hP hK hk (by decide) rfl rfl 0 (by decide) hk_f14 rfl dX5_putLoaf_1 ?_
  refine lv_iload_n hx hb dX5_putLoaf_4 rfl (lv_at hl 1 rfl) ?_
  refine lv_iload_n hx hb dX5_putLoaf_5 rfl (lv_at hl 2 rfl) ?_
  refine st_putr hX (j := 19) (n := 12) ⟨hx, hb, hml, hown, hts⟩ hP hK hS hk (by decide) rfl hc_41 hl.1 (Nat.le_of_ble_eq_true rfl) dX5_putLoaf_6 (fun f1 ef1 H locs hP hS => ?_)
  replace hf := ltn_s ef1 hf
  refine lv_aload_n hx hb dX5_putLoaf_9 rfl (lv_at hl 0 rfl) ?_
  refine st_get (i0 := 4) hx hb hts iX5_putLoaf_X5 hown hP hK hk (by decide) rfl rfl 1 (by decide) hk_f20 rfl dX5_putLoaf_10 ?_
  refine lv_iload_n hx hb dX5_putLoaf_13 rfl (lv_at hl 1 rfl) ?_
  refine lv_iconst (v := 0) hx hb dX5_putLoaf_14 (by decide) ?_
  refine st_putr hX (j := 20) (n := 12) ⟨hx, hb, hml, hown, hts⟩ hP hK hS hk (by decide) rfl hc_41 hl.1 (Nat.le_of_ble_eq_true rfl) dX5_putLoaf_15 (fun f2 ef2 H locs hP hS => ?_)
  replace hf := ltn_s ef2 hf
  refine lv_aload_n hx hb dX5_putLoaf_18 rfl (lv_at hl 0 rfl) ?_
  refine st_get (i0 := 4) hx hb hts iX5_putLoaf_X5 hown hP hK hk (by decide) rfl rfl 2 (by decide) hk_f23 rfl dX5_putLoaf_19 ?_
  refine lv_iload_n hx hb dX5_putLoaf_22 rfl (lv_at hl 1 rfl) ?_
  refine lv_iconst (v := 0) hx hb dX5_putLoaf_23 (by decide) ?_
  refine st_putr hX (j := 21) (n := 12) ⟨hx, hb, hml, hown, hts⟩ hP hK hS hk (by decide) rfl hc_41 hl.1 (Nat.le_of_ble_eq_true rfl) dX5_putLoaf_24 (fun f3 ef3 H locs hP hS => ?_)
  replace hf := ltn_s ef3 hf
  obtain rfl := hf
  rw [hQ]
  exact w_vret hx hb hr hlocks hP hK hS dX5_putLoaf_27 rfl
abbrev rmX1_move : Room := { frames := 1, cells := 0, slots := 0, locals := 22 }
theorem iX1_move_X1 : ∀ w ∈ wsX10, w ∈ wsX1_move := by decide +kernel
set_option maxHeartbeats 4000000 in
set_option maxRecDepth 100000 in
theorem k1_move (l : Launch) {X : bkX} {b0 : Nat} (hX : XO X b0) {k : Nat} (hk : k < 6) (w : bkW) {f0 : bkA} {a1 : Int32} {a2 : Int32} {f9 : bkA} (hf : m1_move f0 a1 a2 = f9) : cV l yX1_move wsX1_move rmX1_move X b0 [.ref (xa X (51*k+3)), .int a1, .int a2] (pk w k f0) (pk w k f9) := by
  refine Met.ofW (cc := cX1_move) (maxL := 3) (ret := none) (by decide) rfl ?_
  intro p e s m args below meth c s₁ B hml hv
  obtain ⟨ha, hP, hK⟩ := hv
  have hx := B.exec
  have hb := B.bytes
  have hr := B.returns
  have hts := atoms_spec (ws := wsX1_move) B.pre
  have hown : s.vm.findClass RX1 = some m.cls := findClass_of_methodNamed B.named
  have hlocks := B.notSynchronized
  obtain ⟨R, hR⟩ : ∃ R, R = (headSpec wsX1_move rmX1_move).room := ⟨_, rfl⟩
  rw [← hR]
  have hR1 : R.frames = 1 := by rw [hR]; rfl
  have hR2 : R.locals = 22 := by rw [hR]; rfl
  obtain ⟨Q, hQ⟩ : ∃ Q : State → Prop, Q = MQ below (va_Qv (fun (_ : Unit) => True) (fun _ t => WU X (pk w k f9) t) (xF b0)) args s 0 0 (xF b0) := ⟨_, rfl⟩
  rw [← hQ]
  have hS : va_S (xF b0) s.heap s.heap [] := va_S.rf
  have hl := lv_entry ([.ref (xa X (51*k+3)), .int a1, .int a2]) (n := 3) (Nat.le_of_ble_eq_true rfl)
  refine W.eq ((congrArg (fun z => entryFrame m z 3) ha).trans (lg_entry_eq m _ 3)) ?_
  generalize (lg_sl ([.ref (xa X (51*k+3)), .int a1, .int a2]) ++ List.replicate (3 - (lg_sl ([.ref (xa X (51*k+3)), .int a1, .int a2])).length) Slot.unset).toArray = ls at hl ⊢
  have hl : lv_has ls 3 [(0, .ref (xa X (51*k+3))), (1, .int a1), (2, .int a2)] := hl
  have hk_f14 := hts (.fieldLink RX1 14 "BakeTurns$Doughs" "houseOf" "LBakeTurns$Row;") (by decide +kernel)
  have hc_49 := (cwV 1 hts gX1_move_X6_at rfl rfl rfl (by decide +kernel) ⟨by rw [hR1]; exact Nat.le_of_ble_eq_true rfl, by rw [hR2]; exact Nat.le_of_ble_eq_true rfl⟩ : CallW R s args RX1 RX6 49 yX6_at cX6_at 2 (some .int) wsX6_at rmX6_at 0 0 1)
  have hc_53 := (cwV 2 hts gX1_move_X6_put rfl rfl rfl (by decide +kernel) ⟨by rw [hR1]; exact Nat.le_of_ble_eq_true rfl, by rw [hR2]; exact Nat.le_of_ble_eq_true rfl⟩ : CallW R s args RX1 RX6 53 yX6_put cX6_put 3 none wsX6_put rmX6_put 0 0 2)
  have hk_f20 := hts (.fieldLink RX1 20 "BakeTurns$Doughs" "kindOf" "LBakeTurns$Row;") (by decide +kernel)
  have hk_f23 := hts (.fieldLink RX1 23 "BakeTurns$Doughs" "loaves" "LBakeTurns$Row;") (by decide +kernel)
  have hk_f26 := hts (.fieldLink RX1 26 "BakeTurns$Doughs" "age" "LBakeTurns$Row;") (by decide +kernel)
  have hk_f29 := hts (.fieldLink RX1 29 "BakeTurns$Doughs" "phase" "LBakeTurns$Row;") (by decide +kernel)
  have hk_f32 := hts (.fieldLink RX1 32 "BakeTurns$Doughs" "lastReason" "LBakeTurns$Row;") (by decide +kernel)
  have hk_f35 := hts (.fieldLink RX1 35 "BakeTurns$Doughs" "loadedAt" "LBakeTurns$Row;") (by decide +kernel)
  have hk_f38 := hts (.fieldLink RX1 38 "BakeTurns$Doughs" "burnt" "LBakeTurns$Row;") (by decide +kernel)
  unfold m1_move at hf
  refine lv_aload_n hx hb dX1_move_0 rfl (lv_at hl 0 rfl) ?_
  refine st_get (i0 := 3) hx hb hts iX1_move_X1 hown hP hK hk (by decide) rfl rfl 1 (by decide) hk_f14 rfl dX1_move_1 ?_
  refine lv_iload_n hx hb dX1_move_4 rfl (lv_at hl 2 rfl) ?_
  refine lv_aload_n hx hb dX1_move_5 rfl (lv_at hl 0 rfl) ?_
  refine st_get (i0 := 3) hx hb hts iX1_move_X1 hown hP hK hk (by decide) rfl rfl 1 (by decide) hk_f14 rfl dX1_move_6 ?_
  refine lv_iload_n hx hb dX1_move_9 rfl (lv_at hl 1 rfl) ?_
  refine st_at (j := 11) (n := 16) ⟨hx, hb, hml, hown, hts⟩ hP hK hS hk (by decide) rfl hc_49 hl.1 (Nat.le_of_ble_eq_true rfl) dX1_move_10 (fun H locs hP hS => ?_)
  refine st_putr hX (j := 11) (n := 16) ⟨hx, hb, hml, hown, hts⟩ hP hK hS hk (by decide) rfl hc_53 hl.1 (Nat.le_of_ble_eq_true rfl) dX1_move_13 (fun f1 ef1 H locs hP hS => ?_)
  replace hf := ltn_s ef1 hf
  refine lv_aload_n hx hb dX1_move_16 rfl (lv_at hl 0 rfl) ?_
  refine st_get (i0 := 3) hx hb hts iX1_move_X1 hown hP hK hk (by decide) rfl rfl 2 (by decide) hk_f20 rfl dX1_move_17 ?_
  refine lv_iload_n hx hb dX1_move_20 rfl (lv_at hl 2 rfl) ?_
  refine lv_aload_n hx hb dX1_move_21 rfl (lv_at hl 0 rfl) ?_
  refine st_get (i0 := 3) hx hb hts iX1_move_X1 hown hP hK hk (by decide) rfl rfl 2 (by decide) hk_f20 rfl dX1_move_22 ?_
  refine lv_iload_n hx hb dX1_move_25 rfl (lv_at hl 1 rfl) ?_
  refine st_at (j := 12) (n := 16) ⟨hx, hb, hml, hown, hts⟩ hP hK hS hk (by decide) rfl hc_49 hl.1 (Nat.le_of_ble_eq_true rfl) dX1_move_26 (fun H locs hP hS => ?_)
  refine st_putr hX (j := 12) (n := 16) ⟨hx, hb, hml, hown, hts⟩ hP hK hS hk (by decide) rfl hc_53 hl.1 (Nat.le_of_ble_eq_true rfl) dX1_move_29 (fun f2 ef2 H locs hP hS => ?_)
  replace hf := ltn_s ef2 hf
  refine lv_aload_n hx hb dX1_move_32 rfl (lv_at hl 0 rfl) ?_
  refine st_get (i0 := 3) hx hb hts iX1_move_X1 hown hP hK hk (by decide) rfl rfl 3 (by decide) hk_f23 rfl dX1_move_33 ?_
  refine lv_iload_n hx hb dX1_move_36 rfl (lv_at hl 2 rfl) ?_
  refine lv_aload_n hx hb dX1_move_37 rfl (lv_at hl 0 rfl) ?_
  refine st_get (i0 := 3) hx hb hts iX1_move_X1 hown hP hK hk (by decide) rfl rfl 3 (by decide) hk_f23 rfl dX1_move_38 ?_
  refine lv_iload_n hx hb dX1_move_41 rfl (lv_at hl 1 rfl) ?_
  refine st_at (j := 13) (n := 16) ⟨hx, hb, hml, hown, hts⟩ hP hK hS hk (by decide) rfl hc_49 hl.1 (Nat.le_of_ble_eq_true rfl) dX1_move_42 (fun H locs hP hS => ?_)
  refine st_putr hX (j := 13) (n := 16) ⟨hx, hb, hml, hown, hts⟩ hP hK hS hk (by decide) rfl hc_53 hl.1 (Nat.le_of_ble_eq_true rfl) dX1_move_45 (fun f3 ef3 H locs hP hS => ?_)
  replace hf := ltn_s ef3 hf
  refine lv_aload_n hx hb dX1_move_48 rfl (lv_at hl 0 rfl) ?_
  refine st_get (i0 := 3) hx hb hts iX1_move_X1 hown hP hK hk (by decide) rfl rfl 4 (by decide) hk_f26 rfl dX1_move_49 ?_
  refine lv_iload_n hx hb dX1_move_52 rfl (lv_at hl 2 rfl) ?_
  refine lv_aload_n hx hb dX1_move_53 rfl (lv_at hl 0 rfl) ?_
  refine st_get (i0 := 3) hx hb hts iX1_move_X1 hown hP hK hk (by decide) rfl rfl 4 (by decide) hk_f26 rfl dX1_move_54 ?_
  refine lv_iload_n hx hb dX1_move_57 rfl (lv_at hl 1 rfl) ?_
  refine st_at (j := 14) (n := 16) ⟨hx, hb, hml, hown, hts⟩ hP hK hS hk (by decide) rfl hc_49 hl.1 (Nat.le_of_ble_eq_true rfl) dX1_move_58 (fun H locs hP hS => ?_)
  refine st_putr hX (j := 14) (n := 16) ⟨hx, hb, hml, hown, hts⟩ hP hK hS hk (by decide) rfl hc_53 hl.1 (Nat.le_of_ble_eq_true rfl) dX1_move_61 (fun f4 ef4 H locs hP hS => ?_)
  replace hf := ltn_s ef4 hf
  refine lv_aload_n hx hb dX1_move_64 rfl (lv_at hl 0 rfl) ?_
  refine st_get (i0 := 3) hx hb hts iX1_move_X1 hown hP hK hk (by decide) rfl rfl 5 (by decide) hk_f29 rfl dX1_move_65 ?_
  refine lv_iload_n hx hb dX1_move_68 rfl (lv_at hl 2 rfl) ?_
  refine lv_aload_n hx hb dX1_move_69 rfl (lv_at hl 0 rfl) ?_
  refine st_get (i0 := 3) hx hb hts iX1_move_X1 hown hP hK hk (by decide) rfl rfl 5 (by decide) hk_f29 rfl dX1_move_70 ?_
  refine lv_iload_n hx hb dX1_move_73 rfl (lv_at hl 1 rfl) ?_
  refine st_at (j := 15) (n := 16) ⟨hx, hb, hml, hown, hts⟩ hP hK hS hk (by decide) rfl hc_49 hl.1 (Nat.le_of_ble_eq_true rfl) dX1_move_74 (fun H locs hP hS => ?_)
  refine st_putr hX (j := 15) (n := 16) ⟨hx, hb, hml, hown, hts⟩ hP hK hS hk (by decide) rfl hc_53 hl.1 (Nat.le_of_ble_eq_true rfl) dX1_move_77 (fun f5 ef5 H locs hP hS => ?_)
  replace hf := ltn_s ef5 hf
  refine lv_aload_n hx hb dX1_move_80 rfl (lv_at hl 0 rfl) ?_
  refine st_get (i0 := 3) hx hb hts iX1_move_X1 hown hP hK hk (by decide) rfl rfl 6 (by decide) hk_f32 rfl dX1_move_81 ?_
  refine lv_iload_n hx hb dX1_move_84 rfl (lv_at hl 2 rfl) ?_
  refine lv_aload_n hx hb dX1_move_85 rfl (lv_at hl 0 rfl) ?_
  refine st_get (i0 := 3) hx hb hts iX1_move_X1 hown hP hK hk (by decide) rfl rfl 6 (by decide) hk_f32 rfl dX1_move_86 ?_
  refine lv_iload_n hx hb dX1_move_89 rfl (lv_at hl 1 rfl) ?_
  refine st_at (j := 16) (n := 16) ⟨hx, hb, hml, hown, hts⟩ hP hK hS hk (by decide) rfl hc_49 hl.1 (Nat.le_of_ble_eq_true rfl) dX1_move_90 (fun H locs hP hS => ?_)
  refine st_putr hX (j := 16) (n := 16) ⟨hx, hb, hml, hown, hts⟩ hP hK hS hk (by decide) rfl hc_53 hl.1 (Nat.le_of_ble_eq_true rfl) dX1_move_93 (fun f6 ef6 H locs hP hS => ?_)
  replace hf := ltn_s ef6 hf
  refine lv_aload_n hx hb dX1_move_96 rfl (lv_at hl 0 rfl) ?_
  refine st_get (i0 := 3) hx hb hts iX1_move_X1 hown hP hK hk (by decide) rfl rfl 7 (by decide) hk_f35 rfl dX1_move_97 ?_
  refine lv_iload_n hx hb dX1_move_100 rfl (lv_at hl 2 rfl) ?_
  refine lv_aload_n hx hb dX1_move_101 rfl (lv_at hl 0 rfl) ?_
  refine st_get (i0 := 3) hx hb hts iX1_move_X1 hown hP hK hk (by decide) rfl rfl 7 (by decide) hk_f35 rfl dX1_move_102 ?_
  refine lv_iload_n hx hb dX1_move_105 rfl (lv_at hl 1 rfl) ?_
  refine st_at (j := 17) (n := 16) ⟨hx, hb, hml, hown, hts⟩ hP hK hS hk (by decide) rfl hc_49 hl.1 (Nat.le_of_ble_eq_true rfl) dX1_move_106 (fun H locs hP hS => ?_)
  refine st_putr hX (j := 17) (n := 16) ⟨hx, hb, hml, hown, hts⟩ hP hK hS hk (by decide) rfl hc_53 hl.1 (Nat.le_of_ble_eq_true rfl) dX1_move_109 (fun f7 ef7 H locs hP hS => ?_)
  replace hf := ltn_s ef7 hf
  refine lv_aload_n hx hb dX1_move_112 rfl (lv_at hl 0 rfl) ?_
  refine st_get (i0 := 3) hx hb hts iX1_move_X1 hown hP hK hk (by decide) rfl rfl 8 (by decide) hk_f38 rfl dX1_move_113 ?_
  refine lv_iload_n hx hb dX1_move_116 rfl (lv_at hl 2 rfl) ?_
  refine lv_aload_n hx hb dX1_move_117 rfl (lv_at hl 0 rfl) ?_
  refine st_get (i0 := 3) hx hb hts iX1_move_X1 hown hP hK hk (by decide) rfl rfl 8 (by decide) hk_f38 rfl dX1_move_118 ?_
  refine lv_iload_n hx hb dX1_move_121 rfl (lv_at hl 1 rfl) ?_
  refine st_at (j := 18) (n := 16) ⟨hx, hb, hml, hown, hts⟩ hP hK hS hk (by decide) rfl hc_49 hl.1 (Nat.le_of_ble_eq_true rfl) dX1_move_122 (fun H locs hP hS => ?_)
  refine st_putr hX (j := 18) (n := 16) ⟨hx, hb, hml, hown, hts⟩ hP hK hS hk (by decide) rfl hc_53 hl.1 (Nat.le_of_ble_eq_true rfl) dX1_move_125 (fun f8 ef8 H locs hP hS => ?_)
  replace hf := ltn_s ef8 hf
  obtain rfl := hf
  rw [hQ]
  exact w_vret hx hb hr hlocks hP hK hS dX1_move_128 rfl
abbrev rmX7_isKind : Room := { frames := 0, cells := 0, slots := 0, locals := 0 }
theorem iX7_isKind_X4 : ∀ w ∈ wsX40, w ∈ wsX7_isKind := by decide +kernel
theorem iX7_isKind_X7 : ∀ w ∈ wsX70, w ∈ wsX7_isKind := by decide +kernel
set_option maxHeartbeats 4000000 in
set_option maxRecDepth 100000 in
theorem k7_isKind (l : Launch) {X : bkX} {b0 : Nat} (hX : XO X b0) {k : Nat} (hk : k < 6) (w : bkW) {f0 : bkA} {a1 : Int32} {res9 : Int32} (hf : m7_isKind f0 a1 = res9) : cI l yX7_isKind wsX7_isKind rmX7_isKind X b0 [.ref (xa X (51*k+0)), .int a1] (pk w k f0) res9 (pk w k f0) := by
  refine Met.ofW (cc := cX7_isKind) (maxL := 2) (ret := (some .boolean)) (by decide) rfl ?_
  intro p e s m args below meth c s₁ B hml hv
  obtain ⟨ha, hP, hK⟩ := hv
  have hx := B.exec
  have hb := B.bytes
  have hr := B.returns
  have hts := atoms_spec (ws := wsX7_isKind) B.pre
  have hown : s.vm.findClass RX7 = some m.cls := findClass_of_methodNamed B.named
  have hlocks := B.notSynchronized
  obtain ⟨R, hR⟩ : ∃ R, R = (headSpec wsX7_isKind rmX7_isKind).room := ⟨_, rfl⟩
  rw [← hR]
  have hR1 : R.frames = 0 := by rw [hR]; rfl
  have hR2 : R.locals = 0 := by rw [hR]; rfl
  obtain ⟨Q, hQ⟩ : ∃ Q : State → Prop, Q = MQ below (va_Qi (fun r' (_ : Unit) => r' = res9) (fun _ t => WU X (pk w k f0) t) (xF b0)) args s 0 0 (xF b0) := ⟨_, rfl⟩
  rw [← hQ]
  have hS : va_S (xF b0) s.heap s.heap [] := va_S.rf
  have hl := lv_entry ([.ref (xa X (51*k+0)), .int a1]) (n := 2) (Nat.le_of_ble_eq_true rfl)
  refine W.eq ((congrArg (fun z => entryFrame m z 2) ha).trans (lg_entry_eq m _ 2)) ?_
  generalize (lg_sl ([.ref (xa X (51*k+0)), .int a1]) ++ List.replicate (2 - (lg_sl ([.ref (xa X (51*k+0)), .int a1])).length) Slot.unset).toArray = ls at hl ⊢
  have hl : lv_has ls 2 [(0, .ref (xa X (51*k+0))), (1, .int a1)] := hl
  have hk_f12 := hts (.fieldLink RX7 12 "BakeTurns$State" "kinds" "LBakeTurns$Kinds;") (by decide +kernel)
  have hk_f92 := hts (.fieldLink RX7 92 "BakeTurns$Kinds" "count" "I") (by decide +kernel)
  unfold m7_isKind at hf
  refine lv_iload_n hx hb dX7_isKind_0 rfl (lv_at hl 1 rfl) ?_
  refine lv_if_lt (tgt := 19) hx hb dX7_isKind_1 (by decide) (fun h1 => ?_) (fun h1 => ?_)
  · rw [if_pos h1] at hf
    refine lv_iconst (v := 0) hx hb dX7_isKind_19 (by decide) ?_
    obtain rfl := hf
    rw [hQ]
    exact w_zret hx hb hr hlocks hP hK hS dX7_isKind_20 (by decide) rfl rfl
  · rw [if_neg h1] at hf
    refine lv_iload_n hx hb dX7_isKind_4 rfl (lv_at hl 1 rfl) ?_
    refine lv_aload_n hx hb dX7_isKind_5 rfl (lv_at hl 0 rfl) ?_
    refine st_get (i0 := 0) hx hb hts iX7_isKind_X7 hown hP hK hk (by decide) rfl rfl 0 (by decide) hk_f12 rfl dX7_isKind_6 ?_
    refine st_get (i0 := 1) hx hb hts iX7_isKind_X4 hown hP hK hk (by decide) rfl rfl 0 (by decide) hk_f92 rfl dX7_isKind_9 ?_
    refine lv_icmp_ge (tgt := 19) hx hb dX7_isKind_12 (by decide) (fun h2 => ?_) (fun h2 => ?_)
    · rw [if_pos h2] at hf
      refine lv_iconst (v := 0) hx hb dX7_isKind_19 (by decide) ?_
      obtain rfl := hf
      rw [hQ]
      exact w_zret hx hb hr hlocks hP hK hS dX7_isKind_20 (by decide) rfl rfl
    · rw [if_neg h2] at hf
      refine lv_iconst (v := 1) hx hb dX7_isKind_15 (by decide) ?_
      refine lv_goto (tgt := 20) hx hb dX7_isKind_16 (by decide) ?_
      obtain rfl := hf
      rw [hQ]
      exact w_zret hx hb hr hlocks hP hK hS dX7_isKind_20 (by decide) rfl rfl
abbrev rmX7_isHouse : Room := { frames := 0, cells := 0, slots := 0, locals := 0 }
theorem iX7_isHouse_X3 : ∀ w ∈ wsX30, w ∈ wsX7_isHouse := by decide +kernel
theorem iX7_isHouse_X7 : ∀ w ∈ wsX70, w ∈ wsX7_isHouse := by decide +kernel
set_option maxHeartbeats 4000000 in
set_option maxRecDepth 100000 in
theorem k7_isHouse (l : Launch) {X : bkX} {b0 : Nat} (hX : XO X b0) {k : Nat} (hk : k < 6) (w : bkW) {f0 : bkA} {a1 : Int32} {res9 : Int32} (hf : m7_isHouse f0 a1 = res9) : cI l yX7_isHouse wsX7_isHouse rmX7_isHouse X b0 [.ref (xa X (51*k+0)), .int a1] (pk w k f0) res9 (pk w k f0) := by
  refine Met.ofW (cc := cX7_isHouse) (maxL := 2) (ret := (some .boolean)) (by decide) rfl ?_
  intro p e s m args below meth c s₁ B hml hv
  obtain ⟨ha, hP, hK⟩ := hv
  have hx := B.exec
  have hb := B.bytes
  have hr := B.returns
  have hts := atoms_spec (ws := wsX7_isHouse) B.pre
  have hown : s.vm.findClass RX7 = some m.cls := findClass_of_methodNamed B.named
  have hlocks := B.notSynchronized
  obtain ⟨R, hR⟩ : ∃ R, R = (headSpec wsX7_isHouse rmX7_isHouse).room := ⟨_, rfl⟩
  rw [← hR]
  have hR1 : R.frames = 0 := by rw [hR]; rfl
  have hR2 : R.locals = 0 := by rw [hR]; rfl
  obtain ⟨Q, hQ⟩ : ∃ Q : State → Prop, Q = MQ below (va_Qi (fun r' (_ : Unit) => r' = res9) (fun _ t => WU X (pk w k f0) t) (xF b0)) args s 0 0 (xF b0) := ⟨_, rfl⟩
  rw [← hQ]
  have hS : va_S (xF b0) s.heap s.heap [] := va_S.rf
  have hl := lv_entry ([.ref (xa X (51*k+0)), .int a1]) (n := 2) (Nat.le_of_ble_eq_true rfl)
  refine W.eq ((congrArg (fun z => entryFrame m z 2) ha).trans (lg_entry_eq m _ 2)) ?_
  generalize (lg_sl ([.ref (xa X (51*k+0)), .int a1]) ++ List.replicate (2 - (lg_sl ([.ref (xa X (51*k+0)), .int a1])).length) Slot.unset).toArray = ls at hl ⊢
  have hl : lv_has ls 2 [(0, .ref (xa X (51*k+0))), (1, .int a1)] := hl
  have hk_f21 := hts (.fieldLink RX7 21 "BakeTurns$State" "houses" "LBakeTurns$Houses;") (by decide +kernel)
  have hk_f95 := hts (.fieldLink RX7 95 "BakeTurns$Houses" "count" "I") (by decide +kernel)
  unfold m7_isHouse at hf
  refine lv_iload_n hx hb dX7_isHouse_0 rfl (lv_at hl 1 rfl) ?_
  refine lv_if_lt (tgt := 19) hx hb dX7_isHouse_1 (by decide) (fun h1 => ?_) (fun h1 => ?_)
  · rw [if_pos h1] at hf
    refine lv_iconst (v := 0) hx hb dX7_isHouse_19 (by decide) ?_
    obtain rfl := hf
    rw [hQ]
    exact w_zret hx hb hr hlocks hP hK hS dX7_isHouse_20 (by decide) rfl rfl
  · rw [if_neg h1] at hf
    refine lv_iload_n hx hb dX7_isHouse_4 rfl (lv_at hl 1 rfl) ?_
    refine lv_aload_n hx hb dX7_isHouse_5 rfl (lv_at hl 0 rfl) ?_
    refine st_get (i0 := 0) hx hb hts iX7_isHouse_X7 hown hP hK hk (by decide) rfl rfl 1 (by decide) hk_f21 rfl dX7_isHouse_6 ?_
    refine st_get (i0 := 2) hx hb hts iX7_isHouse_X3 hown hP hK hk (by decide) rfl rfl 0 (by decide) hk_f95 rfl dX7_isHouse_9 ?_
    refine lv_icmp_ge (tgt := 19) hx hb dX7_isHouse_12 (by decide) (fun h2 => ?_) (fun h2 => ?_)
    · rw [if_pos h2] at hf
      refine lv_iconst (v := 0) hx hb dX7_isHouse_19 (by decide) ?_
      obtain rfl := hf
      rw [hQ]
      exact w_zret hx hb hr hlocks hP hK hS dX7_isHouse_20 (by decide) rfl rfl
    · rw [if_neg h2] at hf
      refine lv_iconst (v := 1) hx hb dX7_isHouse_15 (by decide) ?_
      refine lv_goto (tgt := 20) hx hb dX7_isHouse_16 (by decide) ?_
      obtain rfl := hf
      rw [hQ]
      exact w_zret hx hb hr hlocks hP hK hS dX7_isHouse_20 (by decide) rfl rfl
abbrev rmX7_isDough : Room := { frames := 0, cells := 0, slots := 0, locals := 0 }
theorem iX7_isDough_X1 : ∀ w ∈ wsX10, w ∈ wsX7_isDough := by decide +kernel
theorem iX7_isDough_X7 : ∀ w ∈ wsX70, w ∈ wsX7_isDough := by decide +kernel
set_option maxHeartbeats 4000000 in
set_option maxRecDepth 100000 in
theorem k7_isDough (l : Launch) {X : bkX} {b0 : Nat} (hX : XO X b0) {k : Nat} (hk : k < 6) (w : bkW) {f0 : bkA} {a1 : Int32} {res9 : Int32} (hf : m7_isDough f0 a1 = res9) : cI l yX7_isDough wsX7_isDough rmX7_isDough X b0 [.ref (xa X (51*k+0)), .int a1] (pk w k f0) res9 (pk w k f0) := by
  refine Met.ofW (cc := cX7_isDough) (maxL := 2) (ret := (some .boolean)) (by decide) rfl ?_
  intro p e s m args below meth c s₁ B hml hv
  obtain ⟨ha, hP, hK⟩ := hv
  have hx := B.exec
  have hb := B.bytes
  have hr := B.returns
  have hts := atoms_spec (ws := wsX7_isDough) B.pre
  have hown : s.vm.findClass RX7 = some m.cls := findClass_of_methodNamed B.named
  have hlocks := B.notSynchronized
  obtain ⟨R, hR⟩ : ∃ R, R = (headSpec wsX7_isDough rmX7_isDough).room := ⟨_, rfl⟩
  rw [← hR]
  have hR1 : R.frames = 0 := by rw [hR]; rfl
  have hR2 : R.locals = 0 := by rw [hR]; rfl
  obtain ⟨Q, hQ⟩ : ∃ Q : State → Prop, Q = MQ below (va_Qi (fun r' (_ : Unit) => r' = res9) (fun _ t => WU X (pk w k f0) t) (xF b0)) args s 0 0 (xF b0) := ⟨_, rfl⟩
  rw [← hQ]
  have hS : va_S (xF b0) s.heap s.heap [] := va_S.rf
  have hl := lv_entry ([.ref (xa X (51*k+0)), .int a1]) (n := 2) (Nat.le_of_ble_eq_true rfl)
  refine W.eq ((congrArg (fun z => entryFrame m z 2) ha).trans (lg_entry_eq m _ 2)) ?_
  generalize (lg_sl ([.ref (xa X (51*k+0)), .int a1]) ++ List.replicate (2 - (lg_sl ([.ref (xa X (51*k+0)), .int a1])).length) Slot.unset).toArray = ls at hl ⊢
  have hl : lv_has ls 2 [(0, .ref (xa X (51*k+0))), (1, .int a1)] := hl
  have hk_f28 := hts (.fieldLink RX7 28 "BakeTurns$State" "doughs" "LBakeTurns$Doughs;") (by decide +kernel)
  have hk_f96 := hts (.fieldLink RX7 96 "BakeTurns$Doughs" "count" "I") (by decide +kernel)
  unfold m7_isDough at hf
  refine lv_iload_n hx hb dX7_isDough_0 rfl (lv_at hl 1 rfl) ?_
  refine lv_if_lt (tgt := 19) hx hb dX7_isDough_1 (by decide) (fun h1 => ?_) (fun h1 => ?_)
  · rw [if_pos h1] at hf
    refine lv_iconst (v := 0) hx hb dX7_isDough_19 (by decide) ?_
    obtain rfl := hf
    rw [hQ]
    exact w_zret hx hb hr hlocks hP hK hS dX7_isDough_20 (by decide) rfl rfl
  · rw [if_neg h1] at hf
    refine lv_iload_n hx hb dX7_isDough_4 rfl (lv_at hl 1 rfl) ?_
    refine lv_aload_n hx hb dX7_isDough_5 rfl (lv_at hl 0 rfl) ?_
    refine st_get (i0 := 0) hx hb hts iX7_isDough_X7 hown hP hK hk (by decide) rfl rfl 2 (by decide) hk_f28 rfl dX7_isDough_6 ?_
    refine st_get (i0 := 3) hx hb hts iX7_isDough_X1 hown hP hK hk (by decide) rfl rfl 0 (by decide) hk_f96 rfl dX7_isDough_9 ?_
    refine lv_icmp_ge (tgt := 19) hx hb dX7_isDough_12 (by decide) (fun h2 => ?_) (fun h2 => ?_)
    · rw [if_pos h2] at hf
      refine lv_iconst (v := 0) hx hb dX7_isDough_19 (by decide) ?_
      obtain rfl := hf
      rw [hQ]
      exact w_zret hx hb hr hlocks hP hK hS dX7_isDough_20 (by decide) rfl rfl
    · rw [if_neg h2] at hf
      refine lv_iconst (v := 1) hx hb dX7_isDough_15 (by decide) ?_
      refine lv_goto (tgt := 20) hx hb dX7_isDough_16 (by decide) ?_
      obtain rfl := hf
      rw [hQ]
      exact w_zret hx hb hr hlocks hP hK hS dX7_isDough_20 (by decide) rfl rfl
abbrev rmX7_isWaiting : Room := { frames := 1, cells := 0, slots := 0, locals := 21 }
theorem iX7_isWaiting_X1 : ∀ w ∈ wsX10, w ∈ wsX7_isWaiting := by decide +kernel
theorem iX7_isWaiting_X7 : ∀ w ∈ wsX70, w ∈ wsX7_isWaiting := by decide +kernel
set_option maxHeartbeats 4000000 in
set_option maxRecDepth 100000 in
theorem k7_isWaiting (l : Launch) {X : bkX} {b0 : Nat} (hX : XO X b0) {k : Nat} (hk : k < 6) (w : bkW) {f0 : bkA} {a1 : Int32} {res9 : Int32} (hf : m7_isWaiting f0 a1 = res9) : cI l yX7_isWaiting wsX7_isWaiting rmX7_isWaiting X b0 [.ref (xa X (51*k+0)), .int a1] (pk w k f0) res9 (pk w k f0) := by
  refine Met.ofW (cc := cX7_isWaiting) (maxL := 2) (ret := (some .boolean)) (by decide) rfl ?_
  intro p e s m args below meth c s₁ B hml hv
  obtain ⟨ha, hP, hK⟩ := hv
  have hx := B.exec
  have hb := B.bytes
  have hr := B.returns
  have hts := atoms_spec (ws := wsX7_isWaiting) B.pre
  have hown : s.vm.findClass RX7 = some m.cls := findClass_of_methodNamed B.named
  have hlocks := B.notSynchronized
  obtain ⟨R, hR⟩ : ∃ R, R = (headSpec wsX7_isWaiting rmX7_isWaiting).room := ⟨_, rfl⟩
  rw [← hR]
  have hR1 : R.frames = 1 := by rw [hR]; rfl
  have hR2 : R.locals = 21 := by rw [hR]; rfl
  obtain ⟨Q, hQ⟩ : ∃ Q : State → Prop, Q = MQ below (va_Qi (fun r' (_ : Unit) => r' = res9) (fun _ t => WU X (pk w k f0) t) (xF b0)) args s 0 0 (xF b0) := ⟨_, rfl⟩
  rw [← hQ]
  have hS : va_S (xF b0) s.heap s.heap [] := va_S.rf
  have hl := lv_entry ([.ref (xa X (51*k+0)), .int a1]) (n := 2) (Nat.le_of_ble_eq_true rfl)
  refine W.eq ((congrArg (fun z => entryFrame m z 2) ha).trans (lg_entry_eq m _ 2)) ?_
  generalize (lg_sl ([.ref (xa X (51*k+0)), .int a1]) ++ List.replicate (2 - (lg_sl ([.ref (xa X (51*k+0)), .int a1])).length) Slot.unset).toArray = ls at hl ⊢
  have hl : lv_has ls 2 [(0, .ref (xa X (51*k+0))), (1, .int a1)] := hl
  have hc_97 := (cwV 1 hts gX7_isWaiting_X7_isDough rfl rfl rfl (by decide +kernel) ⟨by rw [hR1]; exact Nat.le_of_ble_eq_true rfl, by rw [hR2]; exact Nat.le_of_ble_eq_true rfl⟩ : CallW R s args RX7 RX7 97 yX7_isDough cX7_isDough 2 (some .boolean) wsX7_isDough rmX7_isDough 0 0 1)
  have hk_f28 := hts (.fieldLink RX7 28 "BakeTurns$State" "doughs" "LBakeTurns$Doughs;") (by decide +kernel)
  have hk_f101 := hts (.fieldLink RX7 101 "BakeTurns$Doughs" "phase" "LBakeTurns$Row;") (by decide +kernel)
  have hc_104 := (cwV 1 hts gX7_isWaiting_X6_at rfl rfl rfl (by decide +kernel) ⟨by rw [hR1]; exact Nat.le_of_ble_eq_true rfl, by rw [hR2]; exact Nat.le_of_ble_eq_true rfl⟩ : CallW R s args RX7 RX6 104 yX6_at cX6_at 2 (some .int) wsX6_at rmX6_at 0 0 1)
  unfold m7_isWaiting at hf
  refine lv_aload_n hx hb dX7_isWaiting_0 rfl (lv_at hl 0 rfl) ?_
  refine lv_iload_n hx hb dX7_isWaiting_1 rfl (lv_at hl 1 rfl) ?_
  obtain ⟨x1, hc2, hf⟩ := lt1_e hf
  refine w_ci ⟨hx, hb, hml, hown, hts⟩ hP hK hS (k7_isDough l hX hk w hc2) hc_97 (st_recv (i0 := 0) hP hK hk (by decide) rfl rfl) rfl hl.1 rfl (Nat.le_of_ble_eq_true rfl) dX7_isWaiting_2 ⟨Nat.zero_le _, Nat.zero_le _⟩ (fun H locs hP hS => ?_)
  refine lv_if_eq (tgt := 26) hx hb dX7_isWaiting_5 (by decide) (fun h3 => ?_) (fun h3 => ?_)
  · rw [if_pos h3] at hf
    refine lv_iconst (v := 0) hx hb dX7_isWaiting_26 (by decide) ?_
    obtain rfl := hf
    rw [hQ]
    exact w_zret hx hb hr hlocks hP hK hS dX7_isWaiting_27 (by decide) rfl rfl
  · rw [if_neg h3] at hf
    refine lv_aload_n hx hb dX7_isWaiting_8 rfl (lv_at hl 0 rfl) ?_
    refine st_get (i0 := 0) hx hb hts iX7_isWaiting_X7 hown hP hK hk (by decide) rfl rfl 2 (by decide) hk_f28 rfl dX7_isWaiting_9 ?_
    refine st_get (i0 := 3) hx hb hts iX7_isWaiting_X1 hown hP hK hk (by decide) rfl rfl 5 (by decide) hk_f101 rfl dX7_isWaiting_12 ?_
    refine lv_iload_n hx hb dX7_isWaiting_15 rfl (lv_at hl 1 rfl) ?_
    refine st_at (j := 15) (n := 16) ⟨hx, hb, hml, hown, hts⟩ hP hK hS hk (by decide) rfl hc_104 hl.1 (Nat.le_of_ble_eq_true rfl) dX7_isWaiting_16 (fun H locs hP hS => ?_)
    refine lv_if_ne (tgt := 26) hx hb dX7_isWaiting_19 (by decide) (fun h4 => ?_) (fun h4 => ?_)
    · rw [if_neg h4] at hf
      refine lv_iconst (v := 0) hx hb dX7_isWaiting_26 (by decide) ?_
      obtain rfl := hf
      rw [hQ]
      exact w_zret hx hb hr hlocks hP hK hS dX7_isWaiting_27 (by decide) rfl rfl
    · rw [if_pos h4] at hf
      refine lv_iconst (v := 1) hx hb dX7_isWaiting_22 (by decide) ?_
      refine lv_goto (tgt := 27) hx hb dX7_isWaiting_23 (by decide) ?_
      obtain rfl := hf
      rw [hQ]
      exact w_zret hx hb hr hlocks hP hK hS dX7_isWaiting_27 (by decide) rfl rfl
abbrev rmX7_wasLoaded : Room := { frames := 1, cells := 0, slots := 0, locals := 21 }
theorem iX7_wasLoaded_X1 : ∀ w ∈ wsX10, w ∈ wsX7_wasLoaded := by decide +kernel
theorem iX7_wasLoaded_X7 : ∀ w ∈ wsX70, w ∈ wsX7_wasLoaded := by decide +kernel
set_option maxHeartbeats 4000000 in
set_option maxRecDepth 100000 in
theorem k7_wasLoaded (l : Launch) {X : bkX} {b0 : Nat} (hX : XO X b0) {k : Nat} (hk : k < 6) (w : bkW) {f0 : bkA} {a1 : Int32} {res9 : Int32} (hf : m7_wasLoaded f0 a1 = res9) : cI l yX7_wasLoaded wsX7_wasLoaded rmX7_wasLoaded X b0 [.ref (xa X (51*k+0)), .int a1] (pk w k f0) res9 (pk w k f0) := by
  refine Met.ofW (cc := cX7_wasLoaded) (maxL := 2) (ret := (some .boolean)) (by decide) rfl ?_
  intro p e s m args below meth c s₁ B hml hv
  obtain ⟨ha, hP, hK⟩ := hv
  have hx := B.exec
  have hb := B.bytes
  have hr := B.returns
  have hts := atoms_spec (ws := wsX7_wasLoaded) B.pre
  have hown : s.vm.findClass RX7 = some m.cls := findClass_of_methodNamed B.named
  have hlocks := B.notSynchronized
  obtain ⟨R, hR⟩ : ∃ R, R = (headSpec wsX7_wasLoaded rmX7_wasLoaded).room := ⟨_, rfl⟩
  rw [← hR]
  have hR1 : R.frames = 1 := by rw [hR]; rfl
  have hR2 : R.locals = 21 := by rw [hR]; rfl
  obtain ⟨Q, hQ⟩ : ∃ Q : State → Prop, Q = MQ below (va_Qi (fun r' (_ : Unit) => r' = res9) (fun _ t => WU X (pk w k f0) t) (xF b0)) args s 0 0 (xF b0) := ⟨_, rfl⟩
  rw [← hQ]
  have hS : va_S (xF b0) s.heap s.heap [] := va_S.rf
  have hl := lv_entry ([.ref (xa X (51*k+0)), .int a1]) (n := 2) (Nat.le_of_ble_eq_true rfl)
  refine W.eq ((congrArg (fun z => entryFrame m z 2) ha).trans (lg_entry_eq m _ 2)) ?_
  generalize (lg_sl ([.ref (xa X (51*k+0)), .int a1]) ++ List.replicate (2 - (lg_sl ([.ref (xa X (51*k+0)), .int a1])).length) Slot.unset).toArray = ls at hl ⊢
  have hl : lv_has ls 2 [(0, .ref (xa X (51*k+0))), (1, .int a1)] := hl
  have hc_97 := (cwV 1 hts gX7_wasLoaded_X7_isDough rfl rfl rfl (by decide +kernel) ⟨by rw [hR1]; exact Nat.le_of_ble_eq_true rfl, by rw [hR2]; exact Nat.le_of_ble_eq_true rfl⟩ : CallW R s args RX7 RX7 97 yX7_isDough cX7_isDough 2 (some .boolean) wsX7_isDough rmX7_isDough 0 0 1)
  have hk_f28 := hts (.fieldLink RX7 28 "BakeTurns$State" "doughs" "LBakeTurns$Doughs;") (by decide +kernel)
  have hk_f108 := hts (.fieldLink RX7 108 "BakeTurns$Doughs" "loadedAt" "LBakeTurns$Row;") (by decide +kernel)
  have hc_104 := (cwV 1 hts gX7_wasLoaded_X6_at rfl rfl rfl (by decide +kernel) ⟨by rw [hR1]; exact Nat.le_of_ble_eq_true rfl, by rw [hR2]; exact Nat.le_of_ble_eq_true rfl⟩ : CallW R s args RX7 RX6 104 yX6_at cX6_at 2 (some .int) wsX6_at rmX6_at 0 0 1)
  unfold m7_wasLoaded at hf
  refine lv_aload_n hx hb dX7_wasLoaded_0 rfl (lv_at hl 0 rfl) ?_
  refine lv_iload_n hx hb dX7_wasLoaded_1 rfl (lv_at hl 1 rfl) ?_
  obtain ⟨x1, hc2, hf⟩ := lt1_e hf
  refine w_ci ⟨hx, hb, hml, hown, hts⟩ hP hK hS (k7_isDough l hX hk w hc2) hc_97 (st_recv (i0 := 0) hP hK hk (by decide) rfl rfl) rfl hl.1 rfl (Nat.le_of_ble_eq_true rfl) dX7_wasLoaded_2 ⟨Nat.zero_le _, Nat.zero_le _⟩ (fun H locs hP hS => ?_)
  refine lv_if_eq (tgt := 27) hx hb dX7_wasLoaded_5 (by decide) (fun h3 => ?_) (fun h3 => ?_)
  · rw [if_pos h3] at hf
    refine lv_iconst (v := 0) hx hb dX7_wasLoaded_27 (by decide) ?_
    obtain rfl := hf
    rw [hQ]
    exact w_zret hx hb hr hlocks hP hK hS dX7_wasLoaded_28 (by decide) rfl rfl
  · rw [if_neg h3] at hf
    refine lv_aload_n hx hb dX7_wasLoaded_8 rfl (lv_at hl 0 rfl) ?_
    refine st_get (i0 := 0) hx hb hts iX7_wasLoaded_X7 hown hP hK hk (by decide) rfl rfl 2 (by decide) hk_f28 rfl dX7_wasLoaded_9 ?_
    refine st_get (i0 := 3) hx hb hts iX7_wasLoaded_X1 hown hP hK hk (by decide) rfl rfl 7 (by decide) hk_f108 rfl dX7_wasLoaded_12 ?_
    refine lv_iload_n hx hb dX7_wasLoaded_15 rfl (lv_at hl 1 rfl) ?_
    refine st_at (j := 17) (n := 16) ⟨hx, hb, hml, hown, hts⟩ hP hK hS hk (by decide) rfl hc_104 hl.1 (Nat.le_of_ble_eq_true rfl) dX7_wasLoaded_16 (fun H locs hP hS => ?_)
    refine lv_iconst (v := (-1)) hx hb dX7_wasLoaded_19 (by decide) ?_
    refine lv_icmp_eq (tgt := 27) hx hb dX7_wasLoaded_20 (by decide) (fun h4 => ?_) (fun h4 => ?_)
    · rw [if_pos h4] at hf
      refine lv_iconst (v := 0) hx hb dX7_wasLoaded_27 (by decide) ?_
      obtain rfl := hf
      rw [hQ]
      exact w_zret hx hb hr hlocks hP hK hS dX7_wasLoaded_28 (by decide) rfl rfl
    · rw [if_neg h4] at hf
      refine lv_iconst (v := 1) hx hb dX7_wasLoaded_23 (by decide) ?_
      refine lv_goto (tgt := 28) hx hb dX7_wasLoaded_24 (by decide) ?_
      obtain rfl := hf
      rw [hQ]
      exact w_zret hx hb hr hlocks hP hK hS dX7_wasLoaded_28 (by decide) rfl rfl
abbrev rmX7_refusalOfKind : Room := { frames := 0, cells := 0, slots := 0, locals := 0 }
theorem iX7_refusalOfKind_X4 : ∀ w ∈ wsX40, w ∈ wsX7_refusalOfKind := by decide +kernel
theorem iX7_refusalOfKind_X7 : ∀ w ∈ wsX70, w ∈ wsX7_refusalOfKind := by decide +kernel
set_option maxHeartbeats 4000000 in
set_option maxRecDepth 100000 in
theorem k7_refusalOfKind (l : Launch) {X : bkX} {b0 : Nat} (hX : XO X b0) {k : Nat} (hk : k < 6) (w : bkW) {f0 : bkA} {a1 : Int32} {a2 : Int32} {a3 : Int32} {a4 : Int32} {a5 : Int32} {res9 : Int32} (hf : m7_refusalOfKind f0 a1 a2 a3 a4 a5 = res9) : cI l yX7_refusalOfKind wsX7_refusalOfKind rmX7_refusalOfKind X b0 [.ref (xa X (51*k+0)), .int a1, .int a2, .int a3, .int a4, .int a5] (pk w k f0) res9 (pk w k f0) := by
  refine Met.ofW (cc := cX7_refusalOfKind) (maxL := 6) (ret := (some .int)) (by decide) rfl ?_
  intro p e s m args below meth c s₁ B hml hv
  obtain ⟨ha, hP, hK⟩ := hv
  have hx := B.exec
  have hb := B.bytes
  have hr := B.returns
  have hts := atoms_spec (ws := wsX7_refusalOfKind) B.pre
  have hown : s.vm.findClass RX7 = some m.cls := findClass_of_methodNamed B.named
  have hlocks := B.notSynchronized
  obtain ⟨R, hR⟩ : ∃ R, R = (headSpec wsX7_refusalOfKind rmX7_refusalOfKind).room := ⟨_, rfl⟩
  rw [← hR]
  have hR1 : R.frames = 0 := by rw [hR]; rfl
  have hR2 : R.locals = 0 := by rw [hR]; rfl
  obtain ⟨Q, hQ⟩ : ∃ Q : State → Prop, Q = MQ below (va_Qi (fun r' (_ : Unit) => r' = res9) (fun _ t => WU X (pk w k f0) t) (xF b0)) args s 0 0 (xF b0) := ⟨_, rfl⟩
  rw [← hQ]
  have hS : va_S (xF b0) s.heap s.heap [] := va_S.rf
  have hl := lv_entry ([.ref (xa X (51*k+0)), .int a1, .int a2, .int a3, .int a4, .int a5]) (n := 6) (Nat.le_of_ble_eq_true rfl)
  refine W.eq ((congrArg (fun z => entryFrame m z 6) ha).trans (lg_entry_eq m _ 6)) ?_
  generalize (lg_sl ([.ref (xa X (51*k+0)), .int a1, .int a2, .int a3, .int a4, .int a5]) ++ List.replicate (6 - (lg_sl ([.ref (xa X (51*k+0)), .int a1, .int a2, .int a3, .int a4, .int a5])).length) Slot.unset).toArray = ls at hl ⊢
  have hl : lv_has ls 6 [(0, .ref (xa X (51*k+0))), (1, .int a1), (2, .int a2), (3, .int a3), (4, .int a4), (5, .int a5)] := hl
  have hk_f12 := hts (.fieldLink RX7 12 "BakeTurns$State" "kinds" "LBakeTurns$Kinds;") (by decide +kernel)
  have hk_f92 := hts (.fieldLink RX7 92 "BakeTurns$Kinds" "count" "I") (by decide +kernel)
  unfold m7_refusalOfKind at hf
  refine lv_iload_n hx hb dX7_refusalOfKind_0 rfl (lv_at hl 1 rfl) ?_
  refine lv_bipush (v := 50) hx hb dX7_refusalOfKind_1 (by decide) ?_
  refine lv_icmp_lt (tgt := 61) hx hb dX7_refusalOfKind_3 (by decide) (fun h1 => ?_) (fun h1 => ?_)
  · rw [if_pos h1] at hf
    refine lv_iconst (v := 2) hx hb dX7_refusalOfKind_61 (by decide) ?_
    obtain rfl := hf
    rw [hQ]
    exact w_iret hx hb hr hlocks hP hK hS dX7_refusalOfKind_62 rfl rfl
  · rw [if_neg h1] at hf
    refine lv_iload_n hx hb dX7_refusalOfKind_6 rfl (lv_at hl 1 rfl) ?_
    refine lv_sipush (v := 350) hx hb dX7_refusalOfKind_7 (by decide) ?_
    refine lv_icmp_gt (tgt := 61) hx hb dX7_refusalOfKind_10 (by decide) (fun h2 => ?_) (fun h2 => ?_)
    · rw [if_pos h2] at hf
      refine lv_iconst (v := 2) hx hb dX7_refusalOfKind_61 (by decide) ?_
      obtain rfl := hf
      rw [hQ]
      exact w_iret hx hb hr hlocks hP hK hS dX7_refusalOfKind_62 rfl rfl
    · rw [if_neg h2] at hf
      refine lv_iload_n hx hb dX7_refusalOfKind_13 rfl (lv_at hl 2 rfl) ?_
      refine lv_iload_n hx hb dX7_refusalOfKind_14 rfl (lv_at hl 1 rfl) ?_
      refine lv_icmp_lt (tgt := 61) hx hb dX7_refusalOfKind_15 (by decide) (fun h3 => ?_) (fun h3 => ?_)
      · rw [if_pos h3] at hf
        refine lv_iconst (v := 2) hx hb dX7_refusalOfKind_61 (by decide) ?_
        obtain rfl := hf
        rw [hQ]
        exact w_iret hx hb hr hlocks hP hK hS dX7_refusalOfKind_62 rfl rfl
      · rw [if_neg h3] at hf
        refine lv_iload_n hx hb dX7_refusalOfKind_18 rfl (lv_at hl 2 rfl) ?_
        refine lv_sipush (v := 400) hx hb dX7_refusalOfKind_19 (by decide) ?_
        refine lv_icmp_gt (tgt := 61) hx hb dX7_refusalOfKind_22 (by decide) (fun h4 => ?_) (fun h4 => ?_)
        · rw [if_pos h4] at hf
          refine lv_iconst (v := 2) hx hb dX7_refusalOfKind_61 (by decide) ?_
          obtain rfl := hf
          rw [hQ]
          exact w_iret hx hb hr hlocks hP hK hS dX7_refusalOfKind_62 rfl rfl
        · rw [if_neg h4] at hf
          refine lv_iload_n hx hb dX7_refusalOfKind_25 rfl (lv_at hl 3 rfl) ?_
          refine lv_iconst (v := 1) hx hb dX7_refusalOfKind_26 (by decide) ?_
          refine lv_icmp_lt (tgt := 61) hx hb dX7_refusalOfKind_27 (by decide) (fun h5 => ?_) (fun h5 => ?_)
          · rw [if_pos h5] at hf
            refine lv_iconst (v := 2) hx hb dX7_refusalOfKind_61 (by decide) ?_
            obtain rfl := hf
            rw [hQ]
            exact w_iret hx hb hr hlocks hP hK hS dX7_refusalOfKind_62 rfl rfl
          · rw [if_neg h5] at hf
            refine lv_iload_n hx hb dX7_refusalOfKind_30 rfl (lv_at hl 3 rfl) ?_
            refine lv_bipush (v := 20) hx hb dX7_refusalOfKind_31 (by decide) ?_
            refine lv_icmp_gt (tgt := 61) hx hb dX7_refusalOfKind_33 (by decide) (fun h6 => ?_) (fun h6 => ?_)
            · rw [if_pos h6] at hf
              refine lv_iconst (v := 2) hx hb dX7_refusalOfKind_61 (by decide) ?_
              obtain rfl := hf
              rw [hQ]
              exact w_iret hx hb hr hlocks hP hK hS dX7_refusalOfKind_62 rfl rfl
            · rw [if_neg h6] at hf
              refine lv_iload hx hb dX7_refusalOfKind_36 (lv_at hl 4 rfl) ?_
              refine lv_if_lt (tgt := 61) hx hb dX7_refusalOfKind_38 (by decide) (fun h7 => ?_) (fun h7 => ?_)
              · rw [if_pos h7] at hf
                refine lv_iconst (v := 2) hx hb dX7_refusalOfKind_61 (by decide) ?_
                obtain rfl := hf
                rw [hQ]
                exact w_iret hx hb hr hlocks hP hK hS dX7_refusalOfKind_62 rfl rfl
              · rw [if_neg h7] at hf
                refine lv_iload hx hb dX7_refusalOfKind_41 (lv_at hl 4 rfl) ?_
                refine lv_bipush (v := 30) hx hb dX7_refusalOfKind_43 (by decide) ?_
                refine lv_icmp_gt (tgt := 61) hx hb dX7_refusalOfKind_45 (by decide) (fun h8 => ?_) (fun h8 => ?_)
                · rw [if_pos h8] at hf
                  refine lv_iconst (v := 2) hx hb dX7_refusalOfKind_61 (by decide) ?_
                  obtain rfl := hf
                  rw [hQ]
                  exact w_iret hx hb hr hlocks hP hK hS dX7_refusalOfKind_62 rfl rfl
                · rw [if_neg h8] at hf
                  refine lv_iload hx hb dX7_refusalOfKind_48 (lv_at hl 5 rfl) ?_
                  refine lv_iconst (v := 1) hx hb dX7_refusalOfKind_50 (by decide) ?_
                  refine lv_icmp_lt (tgt := 61) hx hb dX7_refusalOfKind_51 (by decide) (fun h9 => ?_) (fun h9 => ?_)
                  · rw [if_pos h9] at hf
                    refine lv_iconst (v := 2) hx hb dX7_refusalOfKind_61 (by decide) ?_
                    obtain rfl := hf
                    rw [hQ]
                    exact w_iret hx hb hr hlocks hP hK hS dX7_refusalOfKind_62 rfl rfl
                  · rw [if_neg h9] at hf
                    refine lv_iload hx hb dX7_refusalOfKind_54 (lv_at hl 5 rfl) ?_
                    refine lv_bipush (v := 40) hx hb dX7_refusalOfKind_56 (by decide) ?_
                    refine lv_icmp_le (tgt := 63) hx hb dX7_refusalOfKind_58 (by decide) (fun h10 => ?_) (fun h10 => ?_)
                    · rw [if_pos h10] at hf
                      refine lv_aload_n hx hb dX7_refusalOfKind_63 rfl (lv_at hl 0 rfl) ?_
                      refine st_get (i0 := 0) hx hb hts iX7_refusalOfKind_X7 hown hP hK hk (by decide) rfl rfl 0 (by decide) hk_f12 rfl dX7_refusalOfKind_64 ?_
                      refine st_get (i0 := 1) hx hb hts iX7_refusalOfKind_X4 hown hP hK hk (by decide) rfl rfl 0 (by decide) hk_f92 rfl dX7_refusalOfKind_67 ?_
                      refine lv_iconst (v := 5) hx hb dX7_refusalOfKind_70 (by decide) ?_
                      refine lv_icmp_lt (tgt := 78) hx hb dX7_refusalOfKind_71 (by decide) (fun h11 => ?_) (fun h11 => ?_)
                      · rw [if_pos h11] at hf
                        refine lv_iconst (v := 0) hx hb dX7_refusalOfKind_78 (by decide) ?_
                        obtain rfl := hf
                        rw [hQ]
                        exact w_iret hx hb hr hlocks hP hK hS dX7_refusalOfKind_79 rfl rfl
                      · rw [if_neg h11] at hf
                        refine lv_iconst (v := 3) hx hb dX7_refusalOfKind_74 (by decide) ?_
                        refine lv_goto (tgt := 79) hx hb dX7_refusalOfKind_75 (by decide) ?_
                        obtain rfl := hf
                        rw [hQ]
                        exact w_iret hx hb hr hlocks hP hK hS dX7_refusalOfKind_79 rfl rfl
                    · rw [if_neg h10] at hf
                      refine lv_iconst (v := 2) hx hb dX7_refusalOfKind_61 (by decide) ?_
                      obtain rfl := hf
                      rw [hQ]
                      exact w_iret hx hb hr hlocks hP hK hS dX7_refusalOfKind_62 rfl rfl
abbrev rmX7_refusalOfHouse : Room := { frames := 0, cells := 0, slots := 0, locals := 0 }
theorem iX7_refusalOfHouse_X3 : ∀ w ∈ wsX30, w ∈ wsX7_refusalOfHouse := by decide +kernel
theorem iX7_refusalOfHouse_X7 : ∀ w ∈ wsX70, w ∈ wsX7_refusalOfHouse := by decide +kernel
set_option maxHeartbeats 4000000 in
set_option maxRecDepth 100000 in
theorem k7_refusalOfHouse (l : Launch) {X : bkX} {b0 : Nat} (hX : XO X b0) {k : Nat} (hk : k < 6) (w : bkW) {f0 : bkA} {res9 : Int32} (hf : m7_refusalOfHouse f0 = res9) : cI l yX7_refusalOfHouse wsX7_refusalOfHouse rmX7_refusalOfHouse X b0 [.ref (xa X (51*k+0))] (pk w k f0) res9 (pk w k f0) := by
  refine Met.ofW (cc := cX7_refusalOfHouse) (maxL := 1) (ret := (some .int)) (by decide) rfl ?_
  intro p e s m args below meth c s₁ B hml hv
  obtain ⟨ha, hP, hK⟩ := hv
  have hx := B.exec
  have hb := B.bytes
  have hr := B.returns
  have hts := atoms_spec (ws := wsX7_refusalOfHouse) B.pre
  have hown : s.vm.findClass RX7 = some m.cls := findClass_of_methodNamed B.named
  have hlocks := B.notSynchronized
  obtain ⟨R, hR⟩ : ∃ R, R = (headSpec wsX7_refusalOfHouse rmX7_refusalOfHouse).room := ⟨_, rfl⟩
  rw [← hR]
  have hR1 : R.frames = 0 := by rw [hR]; rfl
  have hR2 : R.locals = 0 := by rw [hR]; rfl
  obtain ⟨Q, hQ⟩ : ∃ Q : State → Prop, Q = MQ below (va_Qi (fun r' (_ : Unit) => r' = res9) (fun _ t => WU X (pk w k f0) t) (xF b0)) args s 0 0 (xF b0) := ⟨_, rfl⟩
  rw [← hQ]
  have hS : va_S (xF b0) s.heap s.heap [] := va_S.rf
  have hl := lv_entry ([.ref (xa X (51*k+0))]) (n := 1) (Nat.le_of_ble_eq_true rfl)
  refine W.eq ((congrArg (fun z => entryFrame m z 1) ha).trans (lg_entry_eq m _ 1)) ?_
  generalize (lg_sl ([.ref (xa X (51*k+0))]) ++ List.replicate (1 - (lg_sl ([.ref (xa X (51*k+0))])).length) Slot.unset).toArray = ls at hl ⊢
  have hl : lv_has ls 1 [(0, .ref (xa X (51*k+0)))] := hl
  have hk_f21 := hts (.fieldLink RX7 21 "BakeTurns$State" "houses" "LBakeTurns$Houses;") (by decide +kernel)
  have hk_f95 := hts (.fieldLink RX7 95 "BakeTurns$Houses" "count" "I") (by decide +kernel)
  unfold m7_refusalOfHouse at hf
  refine lv_aload_n hx hb dX7_refusalOfHouse_0 rfl (lv_at hl 0 rfl) ?_
  refine st_get (i0 := 0) hx hb hts iX7_refusalOfHouse_X7 hown hP hK hk (by decide) rfl rfl 1 (by decide) hk_f21 rfl dX7_refusalOfHouse_1 ?_
  refine st_get (i0 := 2) hx hb hts iX7_refusalOfHouse_X3 hown hP hK hk (by decide) rfl rfl 0 (by decide) hk_f95 rfl dX7_refusalOfHouse_4 ?_
  refine lv_bipush (v := 8) hx hb dX7_refusalOfHouse_7 (by decide) ?_
  refine lv_icmp_lt (tgt := 16) hx hb dX7_refusalOfHouse_9 (by decide) (fun h1 => ?_) (fun h1 => ?_)
  · rw [if_pos h1] at hf
    refine lv_iconst (v := 0) hx hb dX7_refusalOfHouse_16 (by decide) ?_
    obtain rfl := hf
    rw [hQ]
    exact w_iret hx hb hr hlocks hP hK hS dX7_refusalOfHouse_17 rfl rfl
  · rw [if_neg h1] at hf
    refine lv_iconst (v := 3) hx hb dX7_refusalOfHouse_12 (by decide) ?_
    refine lv_goto (tgt := 17) hx hb dX7_refusalOfHouse_13 (by decide) ?_
    obtain rfl := hf
    rw [hQ]
    exact w_iret hx hb hr hlocks hP hK hS dX7_refusalOfHouse_17 rfl rfl
abbrev rmX7_refusalOfDough : Room := { frames := 1, cells := 0, slots := 0, locals := 21 }
theorem iX7_refusalOfDough_X1 : ∀ w ∈ wsX10, w ∈ wsX7_refusalOfDough := by decide +kernel
theorem iX7_refusalOfDough_X7 : ∀ w ∈ wsX70, w ∈ wsX7_refusalOfDough := by decide +kernel
set_option maxHeartbeats 4000000 in
set_option maxRecDepth 100000 in
theorem k7_refusalOfDough (l : Launch) {X : bkX} {b0 : Nat} (hX : XO X b0) {k : Nat} (hk : k < 6) (w : bkW) {f0 : bkA} {a1 : Int32} {a2 : Int32} {a3 : Int32} {res9 : Int32} (hf : m7_refusalOfDough f0 a1 a2 a3 = res9) : cI l yX7_refusalOfDough wsX7_refusalOfDough rmX7_refusalOfDough X b0 [.ref (xa X (51*k+0)), .int a1, .int a2, .int a3] (pk w k f0) res9 (pk w k f0) := by
  refine Met.ofW (cc := cX7_refusalOfDough) (maxL := 4) (ret := (some .int)) (by decide) rfl ?_
  intro p e s m args below meth c s₁ B hml hv
  obtain ⟨ha, hP, hK⟩ := hv
  have hx := B.exec
  have hb := B.bytes
  have hr := B.returns
  have hts := atoms_spec (ws := wsX7_refusalOfDough) B.pre
  have hown : s.vm.findClass RX7 = some m.cls := findClass_of_methodNamed B.named
  have hlocks := B.notSynchronized
  obtain ⟨R, hR⟩ : ∃ R, R = (headSpec wsX7_refusalOfDough rmX7_refusalOfDough).room := ⟨_, rfl⟩
  rw [← hR]
  have hR1 : R.frames = 1 := by rw [hR]; rfl
  have hR2 : R.locals = 21 := by rw [hR]; rfl
  obtain ⟨Q, hQ⟩ : ∃ Q : State → Prop, Q = MQ below (va_Qi (fun r' (_ : Unit) => r' = res9) (fun _ t => WU X (pk w k f0) t) (xF b0)) args s 0 0 (xF b0) := ⟨_, rfl⟩
  rw [← hQ]
  have hS : va_S (xF b0) s.heap s.heap [] := va_S.rf
  have hl := lv_entry ([.ref (xa X (51*k+0)), .int a1, .int a2, .int a3]) (n := 4) (Nat.le_of_ble_eq_true rfl)
  refine W.eq ((congrArg (fun z => entryFrame m z 4) ha).trans (lg_entry_eq m _ 4)) ?_
  generalize (lg_sl ([.ref (xa X (51*k+0)), .int a1, .int a2, .int a3]) ++ List.replicate (4 - (lg_sl ([.ref (xa X (51*k+0)), .int a1, .int a2, .int a3])).length) Slot.unset).toArray = ls at hl ⊢
  have hl : lv_has ls 4 [(0, .ref (xa X (51*k+0))), (1, .int a1), (2, .int a2), (3, .int a3)] := hl
  have hc_111 := (cwV 1 hts gX7_refusalOfDough_X7_isHouse rfl rfl rfl (by decide +kernel) ⟨by rw [hR1]; exact Nat.le_of_ble_eq_true rfl, by rw [hR2]; exact Nat.le_of_ble_eq_true rfl⟩ : CallW R s args RX7 RX7 111 yX7_isHouse cX7_isHouse 2 (some .boolean) wsX7_isHouse rmX7_isHouse 0 0 1)
  have hc_114 := (cwV 1 hts gX7_refusalOfDough_X7_isKind rfl rfl rfl (by decide +kernel) ⟨by rw [hR1]; exact Nat.le_of_ble_eq_true rfl, by rw [hR2]; exact Nat.le_of_ble_eq_true rfl⟩ : CallW R s args RX7 RX7 114 yX7_isKind cX7_isKind 2 (some .boolean) wsX7_isKind rmX7_isKind 0 0 1)
  have hk_f28 := hts (.fieldLink RX7 28 "BakeTurns$State" "doughs" "LBakeTurns$Doughs;") (by decide +kernel)
  have hk_f96 := hts (.fieldLink RX7 96 "BakeTurns$Doughs" "count" "I") (by decide +kernel)
  unfold m7_refusalOfDough at hf
  refine lv_aload_n hx hb dX7_refusalOfDough_0 rfl (lv_at hl 0 rfl) ?_
  refine lv_iload_n hx hb dX7_refusalOfDough_1 rfl (lv_at hl 1 rfl) ?_
  obtain ⟨x1, hc2, hf⟩ := lt1_e hf
  refine w_ci ⟨hx, hb, hml, hown, hts⟩ hP hK hS (k7_isHouse l hX hk w hc2) hc_111 (st_recv (i0 := 0) hP hK hk (by decide) rfl rfl) rfl hl.1 rfl (Nat.le_of_ble_eq_true rfl) dX7_refusalOfDough_2 ⟨Nat.zero_le _, Nat.zero_le _⟩ (fun H locs hP hS => ?_)
  refine lv_if_eq (tgt := 16) hx hb dX7_refusalOfDough_5 (by decide) (fun h3 => ?_) (fun h3 => ?_)
  · rw [if_pos h3] at hf
    refine lv_iconst (v := 1) hx hb dX7_refusalOfDough_16 (by decide) ?_
    obtain rfl := hf
    rw [hQ]
    exact w_iret hx hb hr hlocks hP hK hS dX7_refusalOfDough_17 rfl rfl
  · rw [if_neg h3] at hf
    refine lv_aload_n hx hb dX7_refusalOfDough_8 rfl (lv_at hl 0 rfl) ?_
    refine lv_iload_n hx hb dX7_refusalOfDough_9 rfl (lv_at hl 2 rfl) ?_
    obtain ⟨x4, hc5, hf⟩ := lt1_e hf
    refine w_ci ⟨hx, hb, hml, hown, hts⟩ hP hK hS (k7_isKind l hX hk w hc5) hc_114 (st_recv (i0 := 0) hP hK hk (by decide) rfl rfl) rfl hl.1 rfl (Nat.le_of_ble_eq_true rfl) dX7_refusalOfDough_10 ⟨Nat.zero_le _, Nat.zero_le _⟩ (fun H locs hP hS => ?_)
    refine lv_if_ne (tgt := 18) hx hb dX7_refusalOfDough_13 (by decide) (fun h6 => ?_) (fun h6 => ?_)
    · rw [if_neg h6] at hf
      refine lv_iload_n hx hb dX7_refusalOfDough_18 rfl (lv_at hl 3 rfl) ?_
      refine lv_iconst (v := 1) hx hb dX7_refusalOfDough_19 (by decide) ?_
      refine lv_icmp_lt (tgt := 28) hx hb dX7_refusalOfDough_20 (by decide) (fun h7 => ?_) (fun h7 => ?_)
      · rw [if_pos h7] at hf
        refine lv_iconst (v := 2) hx hb dX7_refusalOfDough_28 (by decide) ?_
        obtain rfl := hf
        rw [hQ]
        exact w_iret hx hb hr hlocks hP hK hS dX7_refusalOfDough_29 rfl rfl
      · rw [if_neg h7] at hf
        refine lv_iload_n hx hb dX7_refusalOfDough_23 rfl (lv_at hl 3 rfl) ?_
        refine lv_iconst (v := 4) hx hb dX7_refusalOfDough_24 (by decide) ?_
        refine lv_icmp_le (tgt := 30) hx hb dX7_refusalOfDough_25 (by decide) (fun h8 => ?_) (fun h8 => ?_)
        · rw [if_pos h8] at hf
          refine lv_aload_n hx hb dX7_refusalOfDough_30 rfl (lv_at hl 0 rfl) ?_
          refine st_get (i0 := 0) hx hb hts iX7_refusalOfDough_X7 hown hP hK hk (by decide) rfl rfl 2 (by decide) hk_f28 rfl dX7_refusalOfDough_31 ?_
          refine st_get (i0 := 3) hx hb hts iX7_refusalOfDough_X1 hown hP hK hk (by decide) rfl rfl 0 (by decide) hk_f96 rfl dX7_refusalOfDough_34 ?_
          refine lv_bipush (v := 16) hx hb dX7_refusalOfDough_37 (by decide) ?_
          refine lv_icmp_lt (tgt := 46) hx hb dX7_refusalOfDough_39 (by decide) (fun h9 => ?_) (fun h9 => ?_)
          · rw [if_pos h9] at hf
            refine lv_iconst (v := 0) hx hb dX7_refusalOfDough_46 (by decide) ?_
            obtain rfl := hf
            rw [hQ]
            exact w_iret hx hb hr hlocks hP hK hS dX7_refusalOfDough_47 rfl rfl
          · rw [if_neg h9] at hf
            refine lv_iconst (v := 3) hx hb dX7_refusalOfDough_42 (by decide) ?_
            refine lv_goto (tgt := 47) hx hb dX7_refusalOfDough_43 (by decide) ?_
            obtain rfl := hf
            rw [hQ]
            exact w_iret hx hb hr hlocks hP hK hS dX7_refusalOfDough_47 rfl rfl
        · rw [if_neg h8] at hf
          refine lv_iconst (v := 2) hx hb dX7_refusalOfDough_28 (by decide) ?_
          obtain rfl := hf
          rw [hQ]
          exact w_iret hx hb hr hlocks hP hK hS dX7_refusalOfDough_29 rfl rfl
    · rw [if_pos h6] at hf
      refine lv_iconst (v := 1) hx hb dX7_refusalOfDough_16 (by decide) ?_
      obtain rfl := hf
      rw [hQ]
      exact w_iret hx hb hr hlocks hP hK hS dX7_refusalOfDough_17 rfl rfl
abbrev rmX7_refusalOfSwap : Room := { frames := 2, cells := 0, slots := 0, locals := 42 }
set_option maxHeartbeats 4000000 in
set_option maxRecDepth 100000 in
theorem k7_refusalOfSwap (l : Launch) {X : bkX} {b0 : Nat} (hX : XO X b0) {k : Nat} (hk : k < 6) (w : bkW) {f0 : bkA} {a1 : Int32} {a2 : Int32} {res9 : Int32} (hf : m7_refusalOfSwap f0 a1 a2 = res9) : cI l yX7_refusalOfSwap wsX7_refusalOfSwap rmX7_refusalOfSwap X b0 [.ref (xa X (51*k+0)), .int a1, .int a2] (pk w k f0) res9 (pk w k f0) := by
  refine Met.ofW (cc := cX7_refusalOfSwap) (maxL := 3) (ret := (some .int)) (by decide) rfl ?_
  intro p e s m args below meth c s₁ B hml hv
  obtain ⟨ha, hP, hK⟩ := hv
  have hx := B.exec
  have hb := B.bytes
  have hr := B.returns
  have hts := atoms_spec (ws := wsX7_refusalOfSwap) B.pre
  have hown : s.vm.findClass RX7 = some m.cls := findClass_of_methodNamed B.named
  have hlocks := B.notSynchronized
  obtain ⟨R, hR⟩ : ∃ R, R = (headSpec wsX7_refusalOfSwap rmX7_refusalOfSwap).room := ⟨_, rfl⟩
  rw [← hR]
  have hR1 : R.frames = 2 := by rw [hR]; rfl
  have hR2 : R.locals = 42 := by rw [hR]; rfl
  obtain ⟨Q, hQ⟩ : ∃ Q : State → Prop, Q = MQ below (va_Qi (fun r' (_ : Unit) => r' = res9) (fun _ t => WU X (pk w k f0) t) (xF b0)) args s 0 0 (xF b0) := ⟨_, rfl⟩
  rw [← hQ]
  have hS : va_S (xF b0) s.heap s.heap [] := va_S.rf
  have hl := lv_entry ([.ref (xa X (51*k+0)), .int a1, .int a2]) (n := 3) (Nat.le_of_ble_eq_true rfl)
  refine W.eq ((congrArg (fun z => entryFrame m z 3) ha).trans (lg_entry_eq m _ 3)) ?_
  generalize (lg_sl ([.ref (xa X (51*k+0)), .int a1, .int a2]) ++ List.replicate (3 - (lg_sl ([.ref (xa X (51*k+0)), .int a1, .int a2])).length) Slot.unset).toArray = ls at hl ⊢
  have hl : lv_has ls 3 [(0, .ref (xa X (51*k+0))), (1, .int a1), (2, .int a2)] := hl
  have hc_97 := (cwV 1 hts gX7_refusalOfSwap_X7_isDough rfl rfl rfl (by decide +kernel) ⟨by rw [hR1]; exact Nat.le_of_ble_eq_true rfl, by rw [hR2]; exact Nat.le_of_ble_eq_true rfl⟩ : CallW R s args RX7 RX7 97 yX7_isDough cX7_isDough 2 (some .boolean) wsX7_isDough rmX7_isDough 0 0 1)
  have hc_117 := (cwV 1 hts gX7_refusalOfSwap_X7_isWaiting rfl rfl rfl (by decide +kernel) ⟨by rw [hR1]; exact Nat.le_of_ble_eq_true rfl, by rw [hR2]; exact Nat.le_of_ble_eq_true rfl⟩ : CallW R s args RX7 RX7 117 yX7_isWaiting cX7_isWaiting 2 (some .boolean) wsX7_isWaiting rmX7_isWaiting 0 0 1)
  unfold m7_refusalOfSwap at hf
  refine lv_aload_n hx hb dX7_refusalOfSwap_0 rfl (lv_at hl 0 rfl) ?_
  refine lv_iload_n hx hb dX7_refusalOfSwap_1 rfl (lv_at hl 1 rfl) ?_
  obtain ⟨x1, hc2, hf⟩ := lt1_e hf
  refine w_ci ⟨hx, hb, hml, hown, hts⟩ hP hK hS (k7_isDough l hX hk w hc2) hc_97 (st_recv (i0 := 0) hP hK hk (by decide) rfl rfl) rfl hl.1 rfl (Nat.le_of_ble_eq_true rfl) dX7_refusalOfSwap_2 ⟨Nat.zero_le _, Nat.zero_le _⟩ (fun H locs hP hS => ?_)
  refine lv_if_eq (tgt := 16) hx hb dX7_refusalOfSwap_5 (by decide) (fun h3 => ?_) (fun h3 => ?_)
  · rw [if_pos h3] at hf
    refine lv_iconst (v := 1) hx hb dX7_refusalOfSwap_16 (by decide) ?_
    obtain rfl := hf
    rw [hQ]
    exact w_iret hx hb hr hlocks hP hK hS dX7_refusalOfSwap_17 rfl rfl
  · rw [if_neg h3] at hf
    refine lv_aload_n hx hb dX7_refusalOfSwap_8 rfl (lv_at hl 0 rfl) ?_
    refine lv_iload_n hx hb dX7_refusalOfSwap_9 rfl (lv_at hl 2 rfl) ?_
    obtain ⟨x4, hc5, hf⟩ := lt1_e hf
    refine w_ci ⟨hx, hb, hml, hown, hts⟩ hP hK hS (k7_isDough l hX hk w hc5) hc_97 (st_recv (i0 := 0) hP hK hk (by decide) rfl rfl) rfl hl.1 rfl (Nat.le_of_ble_eq_true rfl) dX7_refusalOfSwap_10 ⟨Nat.zero_le _, Nat.zero_le _⟩ (fun H locs hP hS => ?_)
    refine lv_if_ne (tgt := 18) hx hb dX7_refusalOfSwap_13 (by decide) (fun h6 => ?_) (fun h6 => ?_)
    · rw [if_neg h6] at hf
      refine lv_iload_n hx hb dX7_refusalOfSwap_18 rfl (lv_at hl 1 rfl) ?_
      refine lv_iload_n hx hb dX7_refusalOfSwap_19 rfl (lv_at hl 2 rfl) ?_
      refine lv_icmp_ne (tgt := 25) hx hb dX7_refusalOfSwap_20 (by decide) (fun h7 => ?_) (fun h7 => ?_)
      · rw [if_neg h7] at hf
        refine lv_aload_n hx hb dX7_refusalOfSwap_25 rfl (lv_at hl 0 rfl) ?_
        refine lv_iload_n hx hb dX7_refusalOfSwap_26 rfl (lv_at hl 1 rfl) ?_
        obtain ⟨x8, hc9, hf⟩ := lt1_e hf
        refine w_ci ⟨hx, hb, hml, hown, hts⟩ hP hK hS (k7_isWaiting l hX hk w hc9) hc_117 (st_recv (i0 := 0) hP hK hk (by decide) rfl rfl) rfl hl.1 rfl (Nat.le_of_ble_eq_true rfl) dX7_refusalOfSwap_27 ⟨Nat.zero_le _, Nat.zero_le _⟩ (fun H locs hP hS => ?_)
        refine lv_if_eq (tgt := 45) hx hb dX7_refusalOfSwap_30 (by decide) (fun h10 => ?_) (fun h10 => ?_)
        · rw [if_pos h10] at hf
          refine lv_iconst (v := 3) hx hb dX7_refusalOfSwap_45 (by decide) ?_
          obtain rfl := hf
          rw [hQ]
          exact w_iret hx hb hr hlocks hP hK hS dX7_refusalOfSwap_46 rfl rfl
        · rw [if_neg h10] at hf
          refine lv_aload_n hx hb dX7_refusalOfSwap_33 rfl (lv_at hl 0 rfl) ?_
          refine lv_iload_n hx hb dX7_refusalOfSwap_34 rfl (lv_at hl 2 rfl) ?_
          obtain ⟨x11, hc12, hf⟩ := lt1_e hf
          refine w_ci ⟨hx, hb, hml, hown, hts⟩ hP hK hS (k7_isWaiting l hX hk w hc12) hc_117 (st_recv (i0 := 0) hP hK hk (by decide) rfl rfl) rfl hl.1 rfl (Nat.le_of_ble_eq_true rfl) dX7_refusalOfSwap_35 ⟨Nat.zero_le _, Nat.zero_le _⟩ (fun H locs hP hS => ?_)
          refine lv_if_eq (tgt := 45) hx hb dX7_refusalOfSwap_38 (by decide) (fun h13 => ?_) (fun h13 => ?_)
          · rw [if_pos h13] at hf
            refine lv_iconst (v := 3) hx hb dX7_refusalOfSwap_45 (by decide) ?_
            obtain rfl := hf
            rw [hQ]
            exact w_iret hx hb hr hlocks hP hK hS dX7_refusalOfSwap_46 rfl rfl
          · rw [if_neg h13] at hf
            refine lv_iconst (v := 0) hx hb dX7_refusalOfSwap_41 (by decide) ?_
            refine lv_goto (tgt := 46) hx hb dX7_refusalOfSwap_42 (by decide) ?_
            obtain rfl := hf
            rw [hQ]
            exact w_iret hx hb hr hlocks hP hK hS dX7_refusalOfSwap_46 rfl rfl
      · rw [if_pos h7] at hf
        refine lv_iconst (v := 2) hx hb dX7_refusalOfSwap_23 (by decide) ?_
        obtain rfl := hf
        rw [hQ]
        exact w_iret hx hb hr hlocks hP hK hS dX7_refusalOfSwap_24 rfl rfl
    · rw [if_pos h6] at hf
      refine lv_iconst (v := 1) hx hb dX7_refusalOfSwap_16 (by decide) ?_
      obtain rfl := hf
      rw [hQ]
      exact w_iret hx hb hr hlocks hP hK hS dX7_refusalOfSwap_17 rfl rfl
