abbrev rmX7_growOlder : Room := { frames := 2, cells := 0, slots := 0, locals := 44 }
theorem iX7_growOlder_X1 : ∀ w ∈ wsX10, w ∈ wsX7_growOlder := by decide +kernel
theorem iX7_growOlder_X4 : ∀ w ∈ wsX40, w ∈ wsX7_growOlder := by decide +kernel
theorem iX7_growOlder_X7 : ∀ w ∈ wsX70, w ∈ wsX7_growOlder := by decide +kernel
set_option maxHeartbeats 4000000 in
set_option maxRecDepth 100000 in
theorem k7_growOlder (l : Launch) {X : bkX} {b0 : Nat} (hX : XO X b0) {k : Nat} (hk : k < 6) (w : bkW) {N : Nat} {f0 : bkA} {f9 : bkA} (hf : m7_growOlder N f0 = some f9) : cV l yX7_growOlder wsX7_growOlder rmX7_growOlder X b0 [.ref (xa X (51*k+0))] (pk w k f0) (pk w k f9) := by
  refine Met.ofW (cc := cX7_growOlder) (maxL := 6) (ret := none) (by decide) rfl ?_
  intro p e s m args below meth c s₁ B hml hv
  obtain ⟨ha, hP, hK⟩ := hv
  have hx := B.exec
  have hb := B.bytes
  have hr := B.returns
  have hts := atoms_spec (ws := wsX7_growOlder) B.pre
  have hown : s.vm.findClass RX7 = some m.cls := findClass_of_methodNamed B.named
  have hlocks := B.notSynchronized
  obtain ⟨R, hR⟩ : ∃ R, R = (headSpec wsX7_growOlder rmX7_growOlder).room := ⟨_, rfl⟩
  rw [← hR]
  have hR1 : R.frames = 2 := by rw [hR]; rfl
  have hR2 : R.locals = 44 := by rw [hR]; rfl
  obtain ⟨Q, hQ⟩ : ∃ Q : State → Prop, Q = MQ below (va_Qv (fun (_ : Unit) => True) (fun _ t => WU X (pk w k f9) t) (xF b0)) args s 0 0 (xF b0) := ⟨_, rfl⟩
  rw [← hQ]
  have hS : va_S (xF b0) s.heap s.heap [] := va_S.rf
  have hl := lv_entry ([.ref (xa X (51*k+0))]) (n := 6) (Nat.le_of_ble_eq_true rfl)
  refine W.eq ((congrArg (fun z => entryFrame m z 6) ha).trans (lg_entry_eq m _ 6)) ?_
  generalize (lg_sl ([.ref (xa X (51*k+0))]) ++ List.replicate (6 - (lg_sl ([.ref (xa X (51*k+0))])).length) Slot.unset).toArray = ls at hl ⊢
  have hl : lv_has ls 6 [(0, .ref (xa X (51*k+0)))] := hl
  have hk_f64 := hts (.fieldLink RX7 64 "BakeTurns$State" "waiting" "I") (by decide +kernel)
  have hk_f44 := hts (.fieldLink RX7 44 "BakeTurns$State" "inLine" "LBakeTurns$Row;") (by decide +kernel)
  have hc_104 := (cwV 1 hts gX7_growOlder_X6_at rfl rfl rfl (by decide +kernel) ⟨by rw [hR1]; exact Nat.le_of_ble_eq_true rfl, by rw [hR2]; exact Nat.le_of_ble_eq_true rfl⟩ : CallW R s args RX7 RX6 104 yX6_at cX6_at 2 (some .int) wsX6_at rmX6_at 0 0 1)
  have hk_f28 := hts (.fieldLink RX7 28 "BakeTurns$State" "doughs" "LBakeTurns$Doughs;") (by decide +kernel)
  have hk_f146 := hts (.fieldLink RX7 146 "BakeTurns$Doughs" "kindOf" "LBakeTurns$Row;") (by decide +kernel)
  have hk_f152 := hts (.fieldLink RX7 152 "BakeTurns$Doughs" "age" "LBakeTurns$Row;") (by decide +kernel)
  have hc_173 := (cwV 2 hts gX7_growOlder_X6_increase rfl rfl rfl (by decide +kernel) ⟨by rw [hR1]; exact Nat.le_of_ble_eq_true rfl, by rw [hR2]; exact Nat.le_of_ble_eq_true rfl⟩ : CallW R s args RX7 RX6 173 yX6_increase cX6_increase 3 none wsX6_increase rmX6_increase 0 0 2)
  have hk_f12 := hts (.fieldLink RX7 12 "BakeTurns$State" "kinds" "LBakeTurns$Kinds;") (by decide +kernel)
  have hk_f137 := hts (.fieldLink RX7 137 "BakeTurns$Kinds" "ripen" "LBakeTurns$Row;") (by decide +kernel)
  have hk_f140 := hts (.fieldLink RX7 140 "BakeTurns$Kinds" "keep" "LBakeTurns$Row;") (by decide +kernel)
  have hc_127 := (cwV 2 hts gX7_growOlder_X6_put rfl rfl rfl (by decide +kernel) ⟨by rw [hR1]; exact Nat.le_of_ble_eq_true rfl, by rw [hR2]; exact Nat.le_of_ble_eq_true rfl⟩ : CallW R s args RX7 RX6 127 yX6_put cX6_put 3 none wsX6_put rmX6_put 0 0 2)
  have hk_f101 := hts (.fieldLink RX7 101 "BakeTurns$Doughs" "phase" "LBakeTurns$Row;") (by decide +kernel)
  have hk_f89 := hts (.fieldLink RX7 89 "BakeTurns$State" "spoiledEver" "I") (by decide +kernel)
  unfold m7_growOlder at hf
  refine lv_aload_n hx hb dX7_growOlder_0 rfl (lv_at hl 0 rfl) ?_
  refine st_get (i0 := 0) hx hb hts iX7_growOlder_X7 hown hP hK hk (by decide) rfl rfl 5 (by decide) hk_f64 rfl dX7_growOlder_1 ?_
  refine lv_topi (fun x1 ex1 => ?_)
  replace hf := ltn_s ex1 hf
  refine lv_istore_n (lv' := [(1, .int x1), (0, .ref (xa X (51*k+0)))]) hx hb dX7_growOlder_4 rfl hl (by decide) rfl (fun ls hl => ?_)
  refine lv_iconst (v := 0) hx hb dX7_growOlder_5 (by decide) ?_
  refine lv_istore_n (lv' := [(2, .int 0), (1, .int x1), (0, .ref (xa X (51*k+0)))]) hx hb dX7_growOlder_6 rfl hl (by decide) rfl (fun ls hl => ?_)
  refine lv_iconst (v := 0) hx hb dX7_growOlder_7 (by decide) ?_
  refine lv_istore_n (lv' := [(3, .int 0), (2, .int 0), (1, .int x1), (0, .ref (xa X (51*k+0)))]) hx hb dX7_growOlder_8 rfl hl (by decide) rfl (fun ls hl => ?_)
  have L9 : ∀ (n : Nat) (x3 : Int32) (x4 : Int32) (x5 : Int32) (f6 : bkA) (o7 : Int32) (of8 : bkA) (H : Heap) (locs : List Loc) (ls : Array Slot), m7_growOlder_L9 N n x3 x4 x5 f6 = some (o7, of8) → HW X (pk w k f6) H → va_S (xF b0) s.heap H locs → lv_has ls 6 [(0, .ref (xa X (51*k+0))), (1, .int x3), (2, .int x4), (3, .int x5)] → (∀ (H1 : Heap) (locs1 : List Loc) (ls1 : Array Slot), HW X (pk w k of8) H1 → va_S (xF b0) s.heap H1 locs1 → lv_has ls1 6 [(0, .ref (xa X (51*k+0))), (2, .int o7)] → W p l e R s m args below meth c H1 locs1 0 0 Q (F0 m 136 ls1 [])) → W p l e R s m args below meth c H locs 0 0 Q (F0 m 9 ls []) := by
    intro n; induction n with
    | zero => intro x3 x4 x5 f6 o7 of8 H locs ls hf; rw [m7_growOlder_L9] at hf; cases hf
    | succ n ih =>
      intro x3 x4 x5 f6 o7 of8 H locs ls hf hP hS hl K
      rw [m7_growOlder_L9] at hf
      refine lv_iload_n hx hb dX7_growOlder_9 rfl (lv_at hl 3 rfl) ?_
      refine lv_iload_n hx hb dX7_growOlder_10 rfl (lv_at hl 1 rfl) ?_
      refine lv_icmp_ge (tgt := 136) hx hb dX7_growOlder_11 (by decide) (fun h9 => ?_) (fun h9 => ?_)
      · rw [if_pos h9] at hf
        have hf := Option.some.inj hf
        simp only [Prod.mk.injEq] at hf
        obtain ⟨rfl, rfl⟩ := hf
        exact K _ _ _ hP hS (lv_sub hl [0, 2] rfl)
      · rw [if_neg h9] at hf
        refine lv_aload_n hx hb dX7_growOlder_14 rfl (lv_at hl 0 rfl) ?_
        refine st_get (i0 := 0) hx hb hts iX7_growOlder_X7 hown hP hK hk (by decide) rfl rfl 4 (by decide) hk_f44 rfl dX7_growOlder_15 ?_
        refine lv_iload_n hx hb dX7_growOlder_18 rfl (lv_at hl 3 rfl) ?_
        refine st_at (j := 22) (n := 16) ⟨hx, hb, hml, hown, hts⟩ hP hK hS hk (by decide) rfl hc_104 hl.1 (Nat.le_of_ble_eq_true rfl) dX7_growOlder_19 (fun H locs hP hS => ?_)
        refine lv_topi (fun x10 ex10 => ?_)
        replace hf := ltn_s ex10 hf
        refine lv_istore (lv' := [(4, .int x10), (0, .ref (xa X (51*k+0))), (1, .int x3), (2, .int x4), (3, .int x5)]) hx hb dX7_growOlder_22 hl (by decide) rfl (fun ls hl => ?_)
        refine lv_aload_n hx hb dX7_growOlder_24 rfl (lv_at hl 1 rfl) ?_
        refine st_get (i0 := 0) hx hb hts iX7_growOlder_X7 hown hP hK hk (by decide) rfl rfl 2 (by decide) hk_f28 rfl dX7_growOlder_25 ?_
        refine st_get (i0 := 3) hx hb hts iX7_growOlder_X1 hown hP hK hk (by decide) rfl rfl 2 (by decide) hk_f146 rfl dX7_growOlder_28 ?_
        refine lv_iload hx hb dX7_growOlder_31 (lv_at hl 0 rfl) ?_
        refine st_at (j := 12) (n := 16) ⟨hx, hb, hml, hown, hts⟩ hP hK hS hk (by decide) rfl hc_104 hl.1 (Nat.le_of_ble_eq_true rfl) dX7_growOlder_33 (fun H locs hP hS => ?_)
        refine lv_topi (fun x11 ex11 => ?_)
        replace hf := ltn_s ex11 hf
        refine lv_istore (lv' := [(5, .int x11), (4, .int x10), (0, .ref (xa X (51*k+0))), (1, .int x3), (2, .int x4), (3, .int x5)]) hx hb dX7_growOlder_36 hl (by decide) rfl (fun ls hl => ?_)
        refine lv_aload_n hx hb dX7_growOlder_38 rfl (lv_at hl 2 rfl) ?_
        refine st_get (i0 := 0) hx hb hts iX7_growOlder_X7 hown hP hK hk (by decide) rfl rfl 2 (by decide) hk_f28 rfl dX7_growOlder_39 ?_
        refine st_get (i0 := 3) hx hb hts iX7_growOlder_X1 hown hP hK hk (by decide) rfl rfl 4 (by decide) hk_f152 rfl dX7_growOlder_42 ?_
        refine lv_iload hx hb dX7_growOlder_45 (lv_at hl 1 rfl) ?_
        refine lv_iconst (v := 1) hx hb dX7_growOlder_47 (by decide) ?_
        refine st_incr hX (j := 14) (n := 16) ⟨hx, hb, hml, hown, hts⟩ hP hK hS hk (by decide) rfl hc_173 hl.1 (Nat.le_of_ble_eq_true rfl) dX7_growOlder_48 (fun f12 ef12 H locs hP hS => ?_)
        replace hf := ltn_s ef12 hf
        refine lv_aload_n hx hb dX7_growOlder_51 rfl (lv_at hl 2 rfl) ?_
        refine st_get (i0 := 0) hx hb hts iX7_growOlder_X7 hown hP hK hk (by decide) rfl rfl 2 (by decide) hk_f28 rfl dX7_growOlder_52 ?_
        refine st_get (i0 := 3) hx hb hts iX7_growOlder_X1 hown hP hK hk (by decide) rfl rfl 4 (by decide) hk_f152 rfl dX7_growOlder_55 ?_
        refine lv_iload hx hb dX7_growOlder_58 (lv_at hl 1 rfl) ?_
        refine st_at (j := 14) (n := 16) ⟨hx, hb, hml, hown, hts⟩ hP hK hS hk (by decide) rfl hc_104 hl.1 (Nat.le_of_ble_eq_true rfl) dX7_growOlder_60 (fun H locs hP hS => ?_)
        refine lv_aload_n hx hb dX7_growOlder_63 rfl (lv_at hl 2 rfl) ?_
        refine st_get (i0 := 0) hx hb hts iX7_growOlder_X7 hown hP hK hk (by decide) rfl rfl 0 (by decide) hk_f12 rfl dX7_growOlder_64 ?_
        refine st_get (i0 := 1) hx hb hts iX7_growOlder_X4 hown hP hK hk (by decide) rfl rfl 4 (by decide) hk_f137 rfl dX7_growOlder_67 ?_
        refine lv_iload hx hb dX7_growOlder_70 (lv_at hl 0 rfl) ?_
        refine st_at (j := 3) (n := 5) ⟨hx, hb, hml, hown, hts⟩ hP hK hS hk (by decide) rfl hc_104 hl.1 (Nat.le_of_ble_eq_true rfl) dX7_growOlder_72 (fun H locs hP hS => ?_)
        refine lv_aload_n hx hb dX7_growOlder_75 rfl (lv_at hl 2 rfl) ?_
        refine st_get (i0 := 0) hx hb hts iX7_growOlder_X7 hown hP hK hk (by decide) rfl rfl 0 (by decide) hk_f12 rfl dX7_growOlder_76 ?_
        refine st_get (i0 := 1) hx hb hts iX7_growOlder_X4 hown hP hK hk (by decide) rfl rfl 5 (by decide) hk_f140 rfl dX7_growOlder_79 ?_
        refine lv_iload hx hb dX7_growOlder_82 (lv_at hl 0 rfl) ?_
        refine st_at (j := 4) (n := 5) ⟨hx, hb, hml, hown, hts⟩ hP hK hS hk (by decide) rfl hc_104 hl.1 (Nat.le_of_ble_eq_true rfl) dX7_growOlder_84 (fun H locs hP hS => ?_)
        refine lv_iadd hx hb dX7_growOlder_87 ?_
        obtain ⟨x18, f19, ejK20, hf⟩ := lt2_e hf
        have K20 : ∀ (H : Heap) (locs : List Loc) (ls : Array Slot), HW X (pk w k f19) H → va_S (xF b0) s.heap H locs → lv_has ls 6 [(0, .ref (xa X (51*k+0))), (1, .int x3), (2, .int x18), (3, .int x5)] → W p l e R s m args below meth c H locs 0 0 Q (F0 m 130 ls []) := by
          intro H locs ls hP hS hl
          obtain ⟨x25, ex25⟩ : ∃ y : Int32, y = x5 + 1 := ⟨_, rfl⟩
          replace hf := ltn_s ex25 hf
          refine lv_iinc (v := x25) (lv' := [(3, .int x25), (0, .ref (xa X (51*k+0))), (1, .int x3), (2, .int x18)]) hx hb dX7_growOlder_130 hl (k := 3) rfl (by rw [ex25]; rfl) (by decide) rfl (fun ls hl => ?_)
          refine lv_goto (tgt := 9) hx hb dX7_growOlder_133 (by decide) ?_
          exact ih x3 x18 x25 f19 o7 of8 _ _ _ hf hP hS (lv_sub hl [1, 2, 3, 0] rfl) K
        clear hf
        refine lv_icmp_le (tgt := 117) hx hb dX7_growOlder_88 (by decide) (fun h13 => ?_) (fun h13 => ?_)
        · rw [if_pos h13] at ejK20
          refine lv_aload_n hx hb dX7_growOlder_117 rfl (lv_at hl 2 rfl) ?_
          refine st_get (i0 := 0) hx hb hts iX7_growOlder_X7 hown hP hK hk (by decide) rfl rfl 4 (by decide) hk_f44 rfl dX7_growOlder_118 ?_
          refine lv_iload_n hx hb dX7_growOlder_121 rfl (lv_at hl 4 rfl) ?_
          refine lv_iload hx hb dX7_growOlder_122 (lv_at hl 1 rfl) ?_
          refine st_putr hX (j := 22) (n := 16) ⟨hx, hb, hml, hown, hts⟩ hP hK hS hk (by decide) rfl hc_127 hl.1 (Nat.le_of_ble_eq_true rfl) dX7_growOlder_124 (fun f21 ef21 H locs hP hS => ?_)
          replace ejK20 := ltn_s ef21 ejK20
          obtain ⟨x22, ex22⟩ : ∃ y : Int32, y = x4 + 1 := ⟨_, rfl⟩
          replace ejK20 := ltn_s ex22 ejK20
          refine lv_iinc (v := x22) (lv' := [(2, .int x22), (5, .int x11), (4, .int x10), (0, .ref (xa X (51*k+0))), (1, .int x3), (3, .int x5)]) hx hb dX7_growOlder_127 hl (k := 4) rfl (by rw [ex22]; rfl) (by decide) rfl (fun ls hl => ?_)
          simp only [Prod.mk.injEq] at ejK20
          obtain ⟨rfl, rfl⟩ := ejK20
          exact K20 _ _ _ hP hS (lv_sub hl [3, 4, 0, 5] rfl)
        · rw [if_neg h13] at ejK20
          refine lv_aload_n hx hb dX7_growOlder_91 rfl (lv_at hl 2 rfl) ?_
          refine st_get (i0 := 0) hx hb hts iX7_growOlder_X7 hown hP hK hk (by decide) rfl rfl 2 (by decide) hk_f28 rfl dX7_growOlder_92 ?_
          refine st_get (i0 := 3) hx hb hts iX7_growOlder_X1 hown hP hK hk (by decide) rfl rfl 5 (by decide) hk_f101 rfl dX7_growOlder_95 ?_
          refine lv_iload hx hb dX7_growOlder_98 (lv_at hl 1 rfl) ?_
          refine lv_iconst (v := 3) hx hb dX7_growOlder_100 (by decide) ?_
          refine st_putr hX (j := 15) (n := 16) ⟨hx, hb, hml, hown, hts⟩ hP hK hS hk (by decide) rfl hc_127 hl.1 (Nat.le_of_ble_eq_true rfl) dX7_growOlder_101 (fun f23 ef23 H locs hP hS => ?_)
          replace ejK20 := ltn_s ef23 ejK20
          refine lv_aload_n hx hb dX7_growOlder_104 rfl (lv_at hl 2 rfl) ?_
          refine lv_dup hx hb dX7_growOlder_105 rfl ?_
          refine st_get (i0 := 0) hx hb hts iX7_growOlder_X7 hown hP hK hk (by decide) rfl rfl 13 (by decide) hk_f89 rfl dX7_growOlder_106 ?_
          refine lv_iconst (v := 1) hx hb dX7_growOlder_109 (by decide) ?_
          refine lv_iadd hx hb dX7_growOlder_110 ?_
          refine st_put (i0 := 0) hx hb hts iX7_growOlder_X7 tyX7 tyX7_ok nmX7 hown hX hP hK hS hk (by decide) rfl rfl 13 (by decide) hk_f89 rfl rfl (Nat.le_of_ble_eq_true rfl) es_11 dX7_growOlder_111 (fun f24 ef24 H locs hP hS => ?_)
          replace ejK20 := ltn_s ef24 ejK20
          refine lv_goto (tgt := 130) hx hb dX7_growOlder_114 (by decide) ?_
          simp only [Prod.mk.injEq] at ejK20
          obtain ⟨rfl, rfl⟩ := ejK20
          exact K20 _ _ _ hP hS (lv_sub hl [2, 3, 4, 5] rfl)
  obtain ⟨x26, f27, hc28, hf⟩ := ob2_e hf
  refine L9 N x1 0 0 f0 x26 f27 _ _ _ hc28 hP hS (lv_sub hl [3, 2, 1, 0] rfl) (fun H locs ls hP hS hl => ?_)
  refine lv_aload_n hx hb dX7_growOlder_136 rfl (lv_at hl 0 rfl) ?_
  refine lv_iload_n hx hb dX7_growOlder_137 rfl (lv_at hl 1 rfl) ?_
  refine st_put (i0 := 0) hx hb hts iX7_growOlder_X7 tyX7 tyX7_ok nmX7 hown hX hP hK hS hk (by decide) rfl rfl 5 (by decide) hk_f64 rfl rfl (Nat.le_of_ble_eq_true rfl) es_3 dX7_growOlder_138 (fun f29 ef29 H locs hP hS => ?_)
  replace hf := ltn_s ef29 hf
  have hf := Option.some.inj hf
  obtain rfl := hf
  rw [hQ]
  exact w_vret hx hb hr hlocks hP hK hS dX7_growOlder_141 rfl
abbrev rmX7_isBaked : Room := { frames := 1, cells := 0, slots := 0, locals := 21 }
theorem iX7_isBaked_X1 : ∀ w ∈ wsX10, w ∈ wsX7_isBaked := by decide +kernel
theorem iX7_isBaked_X4 : ∀ w ∈ wsX40, w ∈ wsX7_isBaked := by decide +kernel
theorem iX7_isBaked_X5 : ∀ w ∈ wsX50, w ∈ wsX7_isBaked := by decide +kernel
theorem iX7_isBaked_X7 : ∀ w ∈ wsX70, w ∈ wsX7_isBaked := by decide +kernel
set_option maxHeartbeats 4000000 in
set_option maxRecDepth 100000 in
theorem k7_isBaked (l : Launch) {X : bkX} {b0 : Nat} (hX : XO X b0) {k : Nat} (hk : k < 6) (w : bkW) {N : Nat} {f0 : bkA} {a1 : Int32} {res9 : Int32} (hf : m7_isBaked N f0 a1 = some res9) : cI l yX7_isBaked wsX7_isBaked rmX7_isBaked X b0 [.ref (xa X (51*k+0)), .int a1] (pk w k f0) res9 (pk w k f0) := by
  refine Met.ofW (cc := cX7_isBaked) (maxL := 4) (ret := (some .boolean)) (by decide) rfl ?_
  intro p e s m args below meth c s₁ B hml hv
  obtain ⟨ha, hP, hK⟩ := hv
  have hx := B.exec
  have hb := B.bytes
  have hr := B.returns
  have hts := atoms_spec (ws := wsX7_isBaked) B.pre
  have hown : s.vm.findClass RX7 = some m.cls := findClass_of_methodNamed B.named
  have hlocks := B.notSynchronized
  obtain ⟨R, hR⟩ : ∃ R, R = (headSpec wsX7_isBaked rmX7_isBaked).room := ⟨_, rfl⟩
  rw [← hR]
  have hR1 : R.frames = 1 := by rw [hR]; rfl
  have hR2 : R.locals = 21 := by rw [hR]; rfl
  obtain ⟨Q, hQ⟩ : ∃ Q : State → Prop, Q = MQ below (va_Qi (fun r' (_ : Unit) => r' = res9) (fun _ t => WU X (pk w k f0) t) (xF b0)) args s 0 0 (xF b0) := ⟨_, rfl⟩
  rw [← hQ]
  have hS : va_S (xF b0) s.heap s.heap [] := va_S.rf
  have hl := lv_entry ([.ref (xa X (51*k+0)), .int a1]) (n := 4) (Nat.le_of_ble_eq_true rfl)
  refine W.eq ((congrArg (fun z => entryFrame m z 4) ha).trans (lg_entry_eq m _ 4)) ?_
  generalize (lg_sl ([.ref (xa X (51*k+0)), .int a1]) ++ List.replicate (4 - (lg_sl ([.ref (xa X (51*k+0)), .int a1])).length) Slot.unset).toArray = ls at hl ⊢
  have hl : lv_has ls 4 [(0, .ref (xa X (51*k+0))), (1, .int a1)] := hl
  have hk_f12 := hts (.fieldLink RX7 12 "BakeTurns$State" "kinds" "LBakeTurns$Kinds;") (by decide +kernel)
  have hk_f134 := hts (.fieldLink RX7 134 "BakeTurns$Kinds" "bake" "LBakeTurns$Row;") (by decide +kernel)
  have hk_f28 := hts (.fieldLink RX7 28 "BakeTurns$State" "doughs" "LBakeTurns$Doughs;") (by decide +kernel)
  have hk_f146 := hts (.fieldLink RX7 146 "BakeTurns$Doughs" "kindOf" "LBakeTurns$Row;") (by decide +kernel)
  have hc_104 := (cwV 1 hts gX7_isBaked_X6_at rfl rfl rfl (by decide +kernel) ⟨by rw [hR1]; exact Nat.le_of_ble_eq_true rfl, by rw [hR2]; exact Nat.le_of_ble_eq_true rfl⟩ : CallW R s args RX7 RX6 104 yX6_at cX6_at 2 (some .int) wsX6_at rmX6_at 0 0 1)
  have hk_f35 := hts (.fieldLink RX7 35 "BakeTurns$State" "places" "LBakeTurns$Places;") (by decide +kernel)
  have hk_f167 := hts (.fieldLink RX7 167 "BakeTurns$Places" "doughOn" "LBakeTurns$Row;") (by decide +kernel)
  have hk_f226 := hts (.fieldLink RX7 226 "BakeTurns$Places" "baked" "LBakeTurns$Row;") (by decide +kernel)
  unfold m7_isBaked at hf
  refine lv_aload_n hx hb dX7_isBaked_0 rfl (lv_at hl 0 rfl) ?_
  refine st_get (i0 := 0) hx hb hts iX7_isBaked_X7 hown hP hK hk (by decide) rfl rfl 0 (by decide) hk_f12 rfl dX7_isBaked_1 ?_
  refine st_get (i0 := 1) hx hb hts iX7_isBaked_X4 hown hP hK hk (by decide) rfl rfl 3 (by decide) hk_f134 rfl dX7_isBaked_4 ?_
  refine lv_aload_n hx hb dX7_isBaked_7 rfl (lv_at hl 0 rfl) ?_
  refine st_get (i0 := 0) hx hb hts iX7_isBaked_X7 hown hP hK hk (by decide) rfl rfl 2 (by decide) hk_f28 rfl dX7_isBaked_8 ?_
  refine st_get (i0 := 3) hx hb hts iX7_isBaked_X1 hown hP hK hk (by decide) rfl rfl 2 (by decide) hk_f146 rfl dX7_isBaked_11 ?_
  refine lv_iload_n hx hb dX7_isBaked_14 rfl (lv_at hl 1 rfl) ?_
  refine st_at (j := 12) (n := 16) ⟨hx, hb, hml, hown, hts⟩ hP hK hS hk (by decide) rfl hc_104 hl.1 (Nat.le_of_ble_eq_true rfl) dX7_isBaked_15 (fun H locs hP hS => ?_)
  refine st_at (j := 2) (n := 5) ⟨hx, hb, hml, hown, hts⟩ hP hK hS hk (by decide) rfl hc_104 hl.1 (Nat.le_of_ble_eq_true rfl) dX7_isBaked_18 (fun H locs hP hS => ?_)
  refine lv_topi (fun x1 ex1 => ?_)
  replace hf := ltn_s ex1 hf
  refine lv_istore_n (lv' := [(2, .int x1), (0, .ref (xa X (51*k+0))), (1, .int a1)]) hx hb dX7_isBaked_21 rfl hl (by decide) rfl (fun ls hl => ?_)
  refine lv_iconst (v := 0) hx hb dX7_isBaked_22 (by decide) ?_
  refine lv_istore_n (lv' := [(3, .int 0), (2, .int x1), (0, .ref (xa X (51*k+0))), (1, .int a1)]) hx hb dX7_isBaked_23 rfl hl (by decide) rfl (fun ls hl => ?_)
  have L24 : ∀ (n : Nat) (x3 : Int32) (x4 : Int32) (x5 : Int32)  (H : Heap) (locs : List Loc) (ls : Array Slot), m7_isBaked_L24 N n x3 x4 x5 f0 = some res9 → HW X (pk w k f0) H → va_S (xF b0) s.heap H locs → lv_has ls 4 [(0, .ref (xa X (51*k+0))), (1, .int x3), (2, .int x4), (3, .int x5)] → W p l e R s m args below meth c H locs 0 0 Q (F0 m 24 ls []) := by
    intro n; induction n with
    | zero => intro x3 x4 x5 H locs ls hf; rw [m7_isBaked_L24] at hf; cases hf
    | succ n ih =>
      intro x3 x4 x5 H locs ls hf hP hS hl
      rw [m7_isBaked_L24] at hf
      refine lv_iload_n hx hb dX7_isBaked_24 rfl (lv_at hl 3 rfl) ?_
      refine lv_bipush (v := 12) hx hb dX7_isBaked_25 (by decide) ?_
      refine lv_icmp_ge (tgt := 68) hx hb dX7_isBaked_27 (by decide) (fun h6 => ?_) (fun h6 => ?_)
      · rw [if_pos h6] at hf
        refine lv_iconst (v := 1) hx hb dX7_isBaked_68 (by decide) ?_
        have hf := Option.some.inj hf
        obtain rfl := hf
        rw [hQ]
        exact w_zret hx hb hr hlocks hP hK hS dX7_isBaked_69 (by decide) rfl rfl
      · rw [if_neg h6] at hf
        refine lv_aload_n hx hb dX7_isBaked_30 rfl (lv_at hl 0 rfl) ?_
        refine st_get (i0 := 0) hx hb hts iX7_isBaked_X7 hown hP hK hk (by decide) rfl rfl 3 (by decide) hk_f35 rfl dX7_isBaked_31 ?_
        refine st_get (i0 := 4) hx hb hts iX7_isBaked_X5 hown hP hK hk (by decide) rfl rfl 0 (by decide) hk_f167 rfl dX7_isBaked_34 ?_
        refine lv_iload_n hx hb dX7_isBaked_37 rfl (lv_at hl 3 rfl) ?_
        refine st_at (j := 19) (n := 12) ⟨hx, hb, hml, hown, hts⟩ hP hK hS hk (by decide) rfl hc_104 hl.1 (Nat.le_of_ble_eq_true rfl) dX7_isBaked_38 (fun H locs hP hS => ?_)
        refine lv_iload_n hx hb dX7_isBaked_41 rfl (lv_at hl 1 rfl) ?_
        refine lv_icmp_ne (tgt := 62) hx hb dX7_isBaked_42 (by decide) (fun h7 => ?_) (fun h7 => ?_)
        · rw [if_neg h7] at hf
          obtain ⟨x8, ex8⟩ : ∃ y : Int32, y = x5 + 1 := ⟨_, rfl⟩
          replace hf := ltn_s ex8 hf
          refine lv_iinc (v := x8) (lv' := [(3, .int x8), (0, .ref (xa X (51*k+0))), (1, .int x3), (2, .int x4)]) hx hb dX7_isBaked_62 hl (k := 3) rfl (by rw [ex8]; rfl) (by decide) rfl (fun ls hl => ?_)
          refine lv_goto (tgt := 24) hx hb dX7_isBaked_65 (by decide) ?_
          exact ih x3 x4 x8  _ _ _ hf hP hS (lv_sub hl [1, 2, 3, 0] rfl)
        · rw [if_pos h7] at hf
          refine lv_aload_n hx hb dX7_isBaked_45 rfl (lv_at hl 0 rfl) ?_
          refine st_get (i0 := 0) hx hb hts iX7_isBaked_X7 hown hP hK hk (by decide) rfl rfl 3 (by decide) hk_f35 rfl dX7_isBaked_46 ?_
          refine st_get (i0 := 4) hx hb hts iX7_isBaked_X5 hown hP hK hk (by decide) rfl rfl 1 (by decide) hk_f226 rfl dX7_isBaked_49 ?_
          refine lv_iload_n hx hb dX7_isBaked_52 rfl (lv_at hl 3 rfl) ?_
          refine st_at (j := 20) (n := 12) ⟨hx, hb, hml, hown, hts⟩ hP hK hS hk (by decide) rfl hc_104 hl.1 (Nat.le_of_ble_eq_true rfl) dX7_isBaked_53 (fun H locs hP hS => ?_)
          refine lv_iload_n hx hb dX7_isBaked_56 rfl (lv_at hl 2 rfl) ?_
          refine lv_icmp_ge (tgt := 62) hx hb dX7_isBaked_57 (by decide) (fun h9 => ?_) (fun h9 => ?_)
          · rw [if_pos h9] at hf
            obtain ⟨x10, ex10⟩ : ∃ y : Int32, y = x5 + 1 := ⟨_, rfl⟩
            replace hf := ltn_s ex10 hf
            refine lv_iinc (v := x10) (lv' := [(3, .int x10), (0, .ref (xa X (51*k+0))), (1, .int x3), (2, .int x4)]) hx hb dX7_isBaked_62 hl (k := 3) rfl (by rw [ex10]; rfl) (by decide) rfl (fun ls hl => ?_)
            refine lv_goto (tgt := 24) hx hb dX7_isBaked_65 (by decide) ?_
            exact ih x3 x4 x10  _ _ _ hf hP hS (lv_sub hl [1, 2, 3, 0] rfl)
          · rw [if_neg h9] at hf
            refine lv_iconst (v := 0) hx hb dX7_isBaked_60 (by decide) ?_
            have hf := Option.some.inj hf
            obtain rfl := hf
            rw [hQ]
            exact w_zret hx hb hr hlocks hP hK hS dX7_isBaked_61 (by decide) rfl rfl
  exact L24 N a1 x1 0  _ _ _ hf hP hS (lv_sub hl [2, 3, 1, 0] rfl)
abbrev rmX7_takeOut : Room := { frames := 2, cells := 0, slots := 0, locals := 44 }
theorem iX7_takeOut_X1 : ∀ w ∈ wsX10, w ∈ wsX7_takeOut := by decide +kernel
theorem iX7_takeOut_X3 : ∀ w ∈ wsX30, w ∈ wsX7_takeOut := by decide +kernel
theorem iX7_takeOut_X5 : ∀ w ∈ wsX50, w ∈ wsX7_takeOut := by decide +kernel
theorem iX7_takeOut_X7 : ∀ w ∈ wsX70, w ∈ wsX7_takeOut := by decide +kernel
set_option maxHeartbeats 4000000 in
set_option maxRecDepth 100000 in
theorem k7_takeOut (l : Launch) {X : bkX} {b0 : Nat} (hX : XO X b0) {k : Nat} (hk : k < 6) (w : bkW) {N : Nat} {f0 : bkA} {a1 : Int32} {f9 : bkA} (hf : m7_takeOut N f0 a1 = some f9) : cV l yX7_takeOut wsX7_takeOut rmX7_takeOut X b0 [.ref (xa X (51*k+0)), .int a1] (pk w k f0) (pk w k f9) := by
  refine Met.ofW (cc := cX7_takeOut) (maxL := 5) (ret := none) (by decide) rfl ?_
  intro p e s m args below meth c s₁ B hml hv
  obtain ⟨ha, hP, hK⟩ := hv
  have hx := B.exec
  have hb := B.bytes
  have hr := B.returns
  have hts := atoms_spec (ws := wsX7_takeOut) B.pre
  have hown : s.vm.findClass RX7 = some m.cls := findClass_of_methodNamed B.named
  have hlocks := B.notSynchronized
  obtain ⟨R, hR⟩ : ∃ R, R = (headSpec wsX7_takeOut rmX7_takeOut).room := ⟨_, rfl⟩
  rw [← hR]
  have hR1 : R.frames = 2 := by rw [hR]; rfl
  have hR2 : R.locals = 44 := by rw [hR]; rfl
  obtain ⟨Q, hQ⟩ : ∃ Q : State → Prop, Q = MQ below (va_Qv (fun (_ : Unit) => True) (fun _ t => WU X (pk w k f9) t) (xF b0)) args s 0 0 (xF b0) := ⟨_, rfl⟩
  rw [← hQ]
  have hS : va_S (xF b0) s.heap s.heap [] := va_S.rf
  have hl := lv_entry ([.ref (xa X (51*k+0)), .int a1]) (n := 5) (Nat.le_of_ble_eq_true rfl)
  refine W.eq ((congrArg (fun z => entryFrame m z 5) ha).trans (lg_entry_eq m _ 5)) ?_
  generalize (lg_sl ([.ref (xa X (51*k+0)), .int a1]) ++ List.replicate (5 - (lg_sl ([.ref (xa X (51*k+0)), .int a1])).length) Slot.unset).toArray = ls at hl ⊢
  have hl : lv_has ls 5 [(0, .ref (xa X (51*k+0))), (1, .int a1)] := hl
  have hk_f35 := hts (.fieldLink RX7 35 "BakeTurns$State" "places" "LBakeTurns$Places;") (by decide +kernel)
  have hk_f167 := hts (.fieldLink RX7 167 "BakeTurns$Places" "doughOn" "LBakeTurns$Row;") (by decide +kernel)
  have hc_104 := (cwV 1 hts gX7_takeOut_X6_at rfl rfl rfl (by decide +kernel) ⟨by rw [hR1]; exact Nat.le_of_ble_eq_true rfl, by rw [hR2]; exact Nat.le_of_ble_eq_true rfl⟩ : CallW R s args RX7 RX6 104 yX6_at cX6_at 2 (some .int) wsX6_at rmX6_at 0 0 1)
  have hk_f229 := hts (.fieldLink RX7 229 "BakeTurns$Places" "scorched" "LBakeTurns$Row;") (by decide +kernel)
  have hc_127 := (cwV 2 hts gX7_takeOut_X6_put rfl rfl rfl (by decide +kernel) ⟨by rw [hR1]; exact Nat.le_of_ble_eq_true rfl, by rw [hR2]; exact Nat.le_of_ble_eq_true rfl⟩ : CallW R s args RX7 RX6 127 yX6_put cX6_put 3 none wsX6_put rmX6_put 0 0 2)
  have hk_f28 := hts (.fieldLink RX7 28 "BakeTurns$State" "doughs" "LBakeTurns$Doughs;") (by decide +kernel)
  have hk_f143 := hts (.fieldLink RX7 143 "BakeTurns$Doughs" "houseOf" "LBakeTurns$Row;") (by decide +kernel)
  have hk_f149 := hts (.fieldLink RX7 149 "BakeTurns$Doughs" "loaves" "LBakeTurns$Row;") (by decide +kernel)
  have hk_f101 := hts (.fieldLink RX7 101 "BakeTurns$Doughs" "phase" "LBakeTurns$Row;") (by decide +kernel)
  have hk_f158 := hts (.fieldLink RX7 158 "BakeTurns$Doughs" "burnt" "LBakeTurns$Row;") (by decide +kernel)
  have hk_f21 := hts (.fieldLink RX7 21 "BakeTurns$State" "houses" "LBakeTurns$Houses;") (by decide +kernel)
  have hk_f238 := hts (.fieldLink RX7 238 "BakeTurns$Houses" "loavesDone" "LBakeTurns$Row;") (by decide +kernel)
  have hc_173 := (cwV 2 hts gX7_takeOut_X6_increase rfl rfl rfl (by decide +kernel) ⟨by rw [hR1]; exact Nat.le_of_ble_eq_true rfl, by rw [hR2]; exact Nat.le_of_ble_eq_true rfl⟩ : CallW R s args RX7 RX6 173 yX6_increase cX6_increase 3 none wsX6_increase rmX6_increase 0 0 2)
  have hk_f240 := hts (.fieldLink RX7 240 "BakeTurns$Houses" "loavesBurnt" "LBakeTurns$Row;") (by decide +kernel)
  have hk_f86 := hts (.fieldLink RX7 86 "BakeTurns$State" "loavesDone" "I") (by decide +kernel)
  unfold m7_takeOut at hf
  refine lv_iconst (v := 0) hx hb dX7_takeOut_0 (by decide) ?_
  refine lv_istore_n (lv' := [(2, .int 0), (0, .ref (xa X (51*k+0))), (1, .int a1)]) hx hb dX7_takeOut_1 rfl hl (by decide) rfl (fun ls hl => ?_)
  refine lv_iconst (v := 0) hx hb dX7_takeOut_2 (by decide) ?_
  refine lv_istore_n (lv' := [(3, .int 0), (2, .int 0), (0, .ref (xa X (51*k+0))), (1, .int a1)]) hx hb dX7_takeOut_3 rfl hl (by decide) rfl (fun ls hl => ?_)
  have L4 : ∀ (n : Nat) (x2 : Int32) (x3 : Int32) (x4 : Int32) (f5 : bkA) (o6 : Int32) (of7 : bkA) (H : Heap) (locs : List Loc) (ls : Array Slot), m7_takeOut_L4 N n x2 x3 x4 f5 = some (o6, of7) → HW X (pk w k f5) H → va_S (xF b0) s.heap H locs → lv_has ls 5 [(0, .ref (xa X (51*k+0))), (1, .int x2), (2, .int x3), (3, .int x4)] → (∀ (H1 : Heap) (locs1 : List Loc) (ls1 : Array Slot), HW X (pk w k of7) H1 → va_S (xF b0) s.heap H1 locs1 → lv_has ls1 5 [(0, .ref (xa X (51*k+0))), (1, .int x2), (2, .int o6)] → W p l e R s m args below meth c H1 locs1 0 0 Q (F0 m 61 ls1 [])) → W p l e R s m args below meth c H locs 0 0 Q (F0 m 4 ls []) := by
    intro n; induction n with
    | zero => intro x2 x3 x4 f5 o6 of7 H locs ls hf; rw [m7_takeOut_L4] at hf; cases hf
    | succ n ih =>
      intro x2 x3 x4 f5 o6 of7 H locs ls hf hP hS hl K
      rw [m7_takeOut_L4] at hf
      refine lv_iload_n hx hb dX7_takeOut_4 rfl (lv_at hl 3 rfl) ?_
      refine lv_bipush (v := 12) hx hb dX7_takeOut_5 (by decide) ?_
      refine lv_icmp_ge (tgt := 61) hx hb dX7_takeOut_7 (by decide) (fun h8 => ?_) (fun h8 => ?_)
      · rw [if_pos h8] at hf
        have hf := Option.some.inj hf
        simp only [Prod.mk.injEq] at hf
        obtain ⟨rfl, rfl⟩ := hf
        exact K _ _ _ hP hS (lv_sub hl [0, 1, 2] rfl)
      · rw [if_neg h8] at hf
        refine lv_aload_n hx hb dX7_takeOut_10 rfl (lv_at hl 0 rfl) ?_
        refine st_get (i0 := 0) hx hb hts iX7_takeOut_X7 hown hP hK hk (by decide) rfl rfl 3 (by decide) hk_f35 rfl dX7_takeOut_11 ?_
        refine st_get (i0 := 4) hx hb hts iX7_takeOut_X5 hown hP hK hk (by decide) rfl rfl 0 (by decide) hk_f167 rfl dX7_takeOut_14 ?_
        refine lv_iload_n hx hb dX7_takeOut_17 rfl (lv_at hl 3 rfl) ?_
        refine st_at (j := 19) (n := 12) ⟨hx, hb, hml, hown, hts⟩ hP hK hS hk (by decide) rfl hc_104 hl.1 (Nat.le_of_ble_eq_true rfl) dX7_takeOut_18 (fun H locs hP hS => ?_)
        refine lv_iload_n hx hb dX7_takeOut_21 rfl (lv_at hl 1 rfl) ?_
        obtain ⟨x16, f17, ejK18, hf⟩ := lt2_e hf
        have K18 : ∀ (H : Heap) (locs : List Loc) (ls : Array Slot), HW X (pk w k f17) H → va_S (xF b0) s.heap H locs → lv_has ls 5 [(0, .ref (xa X (51*k+0))), (1, .int x2), (2, .int x16), (3, .int x4)] → W p l e R s m args below meth c H locs 0 0 Q (F0 m 55 ls []) := by
          intro H locs ls hP hS hl
          obtain ⟨x25, ex25⟩ : ∃ y : Int32, y = x4 + 1 := ⟨_, rfl⟩
          replace hf := ltn_s ex25 hf
          refine lv_iinc (v := x25) (lv' := [(3, .int x25), (0, .ref (xa X (51*k+0))), (1, .int x2), (2, .int x16)]) hx hb dX7_takeOut_55 hl (k := 3) rfl (by rw [ex25]; rfl) (by decide) rfl (fun ls hl => ?_)
          refine lv_goto (tgt := 4) hx hb dX7_takeOut_58 (by decide) ?_
          exact ih x2 x16 x25 f17 o6 of7 _ _ _ hf hP hS (lv_sub hl [1, 2, 3, 0] rfl) K
        clear hf
        refine lv_icmp_ne (tgt := 55) hx hb dX7_takeOut_22 (by decide) (fun h9 => ?_) (fun h9 => ?_)
        · rw [if_neg h9] at ejK18
          simp only [Prod.mk.injEq] at ejK18
          obtain ⟨rfl, rfl⟩ := ejK18
          exact K18 _ _ _ hP hS (lv_sub hl [0, 1, 2, 3] rfl)
        · rw [if_pos h9] at ejK18
          refine lv_aload_n hx hb dX7_takeOut_25 rfl (lv_at hl 0 rfl) ?_
          refine st_get (i0 := 0) hx hb hts iX7_takeOut_X7 hown hP hK hk (by decide) rfl rfl 3 (by decide) hk_f35 rfl dX7_takeOut_26 ?_
          refine st_get (i0 := 4) hx hb hts iX7_takeOut_X5 hown hP hK hk (by decide) rfl rfl 2 (by decide) hk_f229 rfl dX7_takeOut_29 ?_
          refine lv_iload_n hx hb dX7_takeOut_32 rfl (lv_at hl 3 rfl) ?_
          refine st_at (j := 21) (n := 12) ⟨hx, hb, hml, hown, hts⟩ hP hK hS hk (by decide) rfl hc_104 hl.1 (Nat.le_of_ble_eq_true rfl) dX7_takeOut_33 (fun H locs hP hS => ?_)
          refine lv_iconst (v := 3) hx hb dX7_takeOut_36 (by decide) ?_
          obtain ⟨x21, ejK22, ejK18⟩ := lt1_e ejK18
          have K22 : ∀ (H : Heap) (locs : List Loc) (ls : Array Slot), HW X (pk w k f5) H → va_S (xF b0) s.heap H locs → lv_has ls 5 [(0, .ref (xa X (51*k+0))), (1, .int x2), (2, .int x21), (3, .int x4)] → W p l e R s m args below meth c H locs 0 0 Q (F0 m 43 ls []) := by
            intro H locs ls hP hS hl
            refine lv_aload_n hx hb dX7_takeOut_43 rfl (lv_at hl 0 rfl) ?_
            refine st_get (i0 := 0) hx hb hts iX7_takeOut_X7 hown hP hK hk (by decide) rfl rfl 3 (by decide) hk_f35 rfl dX7_takeOut_44 ?_
            refine st_get (i0 := 4) hx hb hts iX7_takeOut_X5 hown hP hK hk (by decide) rfl rfl 0 (by decide) hk_f167 rfl dX7_takeOut_47 ?_
            refine lv_iload_n hx hb dX7_takeOut_50 rfl (lv_at hl 3 rfl) ?_
            refine lv_iconst (v := (-1)) hx hb dX7_takeOut_51 (by decide) ?_
            refine st_putr hX (j := 19) (n := 12) ⟨hx, hb, hml, hown, hts⟩ hP hK hS hk (by decide) rfl hc_127 hl.1 (Nat.le_of_ble_eq_true rfl) dX7_takeOut_52 (fun f24 ef24 H locs hP hS => ?_)
            replace ejK18 := ltn_s ef24 ejK18
            simp only [Prod.mk.injEq] at ejK18
            obtain ⟨rfl, rfl⟩ := ejK18
            exact K18 _ _ _ hP hS (lv_sub hl [0, 1, 2, 3] rfl)
          clear ejK18
          refine lv_icmp_lt (tgt := 43) hx hb dX7_takeOut_37 (by decide) (fun h19 => ?_) (fun h19 => ?_)
          · rw [if_pos h19] at ejK22
            obtain rfl := ejK22
            exact K22 _ _ _ hP hS (lv_sub hl [0, 1, 2, 3] rfl)
          · rw [if_neg h19] at ejK22
            obtain ⟨x23, ex23⟩ : ∃ y : Int32, y = x3 + 1 := ⟨_, rfl⟩
            replace ejK22 := ltn_s ex23 ejK22
            refine lv_iinc (v := x23) (lv' := [(2, .int x23), (0, .ref (xa X (51*k+0))), (1, .int x2), (3, .int x4)]) hx hb dX7_takeOut_40 hl (k := 2) rfl (by rw [ex23]; rfl) (by decide) rfl (fun ls hl => ?_)
            obtain rfl := ejK22
            exact K22 _ _ _ hP hS (lv_sub hl [1, 2, 0, 3] rfl)
  obtain ⟨x26, f27, hc28, hf⟩ := ob2_e hf
  refine L4 N a1 0 0 f0 x26 f27 _ _ _ hc28 hP hS (lv_sub hl [2, 3, 1, 0] rfl) (fun H locs ls hP hS hl => ?_)
  refine lv_aload_n hx hb dX7_takeOut_61 rfl (lv_at hl 0 rfl) ?_
  refine st_get (i0 := 0) hx hb hts iX7_takeOut_X7 hown hP hK hk (by decide) rfl rfl 2 (by decide) hk_f28 rfl dX7_takeOut_62 ?_
  refine st_get (i0 := 3) hx hb hts iX7_takeOut_X1 hown hP hK hk (by decide) rfl rfl 1 (by decide) hk_f143 rfl dX7_takeOut_65 ?_
  refine lv_iload_n hx hb dX7_takeOut_68 rfl (lv_at hl 1 rfl) ?_
  refine st_at (j := 11) (n := 16) ⟨hx, hb, hml, hown, hts⟩ hP hK hS hk (by decide) rfl hc_104 hl.1 (Nat.le_of_ble_eq_true rfl) dX7_takeOut_69 (fun H locs hP hS => ?_)
  refine lv_topi (fun x29 ex29 => ?_)
  replace hf := ltn_s ex29 hf
  refine lv_istore_n (lv' := [(3, .int x29), (0, .ref (xa X (51*k+0))), (1, .int a1), (2, .int x26)]) hx hb dX7_takeOut_72 rfl hl (by decide) rfl (fun ls hl => ?_)
  refine lv_aload_n hx hb dX7_takeOut_73 rfl (lv_at hl 1 rfl) ?_
  refine st_get (i0 := 0) hx hb hts iX7_takeOut_X7 hown hP hK hk (by decide) rfl rfl 2 (by decide) hk_f28 rfl dX7_takeOut_74 ?_
  refine st_get (i0 := 3) hx hb hts iX7_takeOut_X1 hown hP hK hk (by decide) rfl rfl 3 (by decide) hk_f149 rfl dX7_takeOut_77 ?_
  refine lv_iload_n hx hb dX7_takeOut_80 rfl (lv_at hl 2 rfl) ?_
  refine st_at (j := 13) (n := 16) ⟨hx, hb, hml, hown, hts⟩ hP hK hS hk (by decide) rfl hc_104 hl.1 (Nat.le_of_ble_eq_true rfl) dX7_takeOut_81 (fun H locs hP hS => ?_)
  refine lv_topi (fun x30 ex30 => ?_)
  replace hf := ltn_s ex30 hf
  refine lv_istore (lv' := [(4, .int x30), (3, .int x29), (0, .ref (xa X (51*k+0))), (1, .int a1), (2, .int x26)]) hx hb dX7_takeOut_84 hl (by decide) rfl (fun ls hl => ?_)
  refine lv_aload_n hx hb dX7_takeOut_86 rfl (lv_at hl 2 rfl) ?_
  refine st_get (i0 := 0) hx hb hts iX7_takeOut_X7 hown hP hK hk (by decide) rfl rfl 2 (by decide) hk_f28 rfl dX7_takeOut_87 ?_
  refine st_get (i0 := 3) hx hb hts iX7_takeOut_X1 hown hP hK hk (by decide) rfl rfl 5 (by decide) hk_f101 rfl dX7_takeOut_90 ?_
  refine lv_iload_n hx hb dX7_takeOut_93 rfl (lv_at hl 3 rfl) ?_
  refine lv_iconst (v := 2) hx hb dX7_takeOut_94 (by decide) ?_
  refine st_putr hX (j := 15) (n := 16) ⟨hx, hb, hml, hown, hts⟩ hP hK hS hk (by decide) rfl hc_127 hl.1 (Nat.le_of_ble_eq_true rfl) dX7_takeOut_95 (fun f31 ef31 H locs hP hS => ?_)
  replace hf := ltn_s ef31 hf
  refine lv_aload_n hx hb dX7_takeOut_98 rfl (lv_at hl 2 rfl) ?_
  refine st_get (i0 := 0) hx hb hts iX7_takeOut_X7 hown hP hK hk (by decide) rfl rfl 2 (by decide) hk_f28 rfl dX7_takeOut_99 ?_
  refine st_get (i0 := 3) hx hb hts iX7_takeOut_X1 hown hP hK hk (by decide) rfl rfl 8 (by decide) hk_f158 rfl dX7_takeOut_102 ?_
  refine lv_iload_n hx hb dX7_takeOut_105 rfl (lv_at hl 3 rfl) ?_
  refine lv_iload_n hx hb dX7_takeOut_106 rfl (lv_at hl 4 rfl) ?_
  refine st_putr hX (j := 18) (n := 16) ⟨hx, hb, hml, hown, hts⟩ hP hK hS hk (by decide) rfl hc_127 hl.1 (Nat.le_of_ble_eq_true rfl) dX7_takeOut_107 (fun f32 ef32 H locs hP hS => ?_)
  replace hf := ltn_s ef32 hf
  refine lv_aload_n hx hb dX7_takeOut_110 rfl (lv_at hl 2 rfl) ?_
  refine st_get (i0 := 0) hx hb hts iX7_takeOut_X7 hown hP hK hk (by decide) rfl rfl 1 (by decide) hk_f21 rfl dX7_takeOut_111 ?_
  refine st_get (i0 := 2) hx hb hts iX7_takeOut_X3 hown hP hK hk (by decide) rfl rfl 5 (by decide) hk_f238 rfl dX7_takeOut_114 ?_
  refine lv_iload_n hx hb dX7_takeOut_117 rfl (lv_at hl 1 rfl) ?_
  refine lv_iload hx hb dX7_takeOut_118 (lv_at hl 0 rfl) ?_
  refine st_incr hX (j := 9) (n := 8) ⟨hx, hb, hml, hown, hts⟩ hP hK hS hk (by decide) rfl hc_173 hl.1 (Nat.le_of_ble_eq_true rfl) dX7_takeOut_120 (fun f33 ef33 H locs hP hS => ?_)
  replace hf := ltn_s ef33 hf
  refine lv_aload_n hx hb dX7_takeOut_123 rfl (lv_at hl 2 rfl) ?_
  refine st_get (i0 := 0) hx hb hts iX7_takeOut_X7 hown hP hK hk (by decide) rfl rfl 1 (by decide) hk_f21 rfl dX7_takeOut_124 ?_
  refine st_get (i0 := 2) hx hb hts iX7_takeOut_X3 hown hP hK hk (by decide) rfl rfl 6 (by decide) hk_f240 rfl dX7_takeOut_127 ?_
  refine lv_iload_n hx hb dX7_takeOut_130 rfl (lv_at hl 1 rfl) ?_
  refine lv_iload_n hx hb dX7_takeOut_131 rfl (lv_at hl 4 rfl) ?_
  refine st_incr hX (j := 10) (n := 8) ⟨hx, hb, hml, hown, hts⟩ hP hK hS hk (by decide) rfl hc_173 hl.1 (Nat.le_of_ble_eq_true rfl) dX7_takeOut_132 (fun f34 ef34 H locs hP hS => ?_)
  replace hf := ltn_s ef34 hf
  refine lv_aload_n hx hb dX7_takeOut_135 rfl (lv_at hl 2 rfl) ?_
  refine lv_dup hx hb dX7_takeOut_136 rfl ?_
  refine st_get (i0 := 0) hx hb hts iX7_takeOut_X7 hown hP hK hk (by decide) rfl rfl 12 (by decide) hk_f86 rfl dX7_takeOut_137 ?_
  refine lv_iload hx hb dX7_takeOut_140 (lv_at hl 0 rfl) ?_
  refine lv_iadd hx hb dX7_takeOut_142 ?_
  refine st_put (i0 := 0) hx hb hts iX7_takeOut_X7 tyX7 tyX7_ok nmX7 hown hX hP hK hS hk (by decide) rfl rfl 12 (by decide) hk_f86 rfl rfl (Nat.le_of_ble_eq_true rfl) es_10 dX7_takeOut_143 (fun f35 ef35 H locs hP hS => ?_)
  replace hf := ltn_s ef35 hf
  have hf := Option.some.inj hf
  obtain rfl := hf
  rw [hQ]
  exact w_vret hx hb hr hlocks hP hK hS dX7_takeOut_146 rfl
abbrev rmX7_coolDown : Room := { frames := 1, cells := 0, slots := 0, locals := 21 }
theorem iX7_coolDown_X7 : ∀ w ∈ wsX70, w ∈ wsX7_coolDown := by decide +kernel
set_option maxHeartbeats 4000000 in
set_option maxRecDepth 100000 in
theorem k7_coolDown (l : Launch) {X : bkX} {b0 : Nat} (hX : XO X b0) {k : Nat} (hk : k < 6) (w : bkW) {f0 : bkA} {a1 : Int32} {a2 : Int32} {f9 : bkA} (hf : m7_coolDown f0 a1 a2 = f9) : cV l yX7_coolDown wsX7_coolDown rmX7_coolDown X b0 [.ref (xa X (51*k+0)), .int a1, .int a2] (pk w k f0) (pk w k f9) := by
  refine Met.ofW (cc := cX7_coolDown) (maxL := 5) (ret := none) (by decide) rfl ?_
  intro p e s m args below meth c s₁ B hml hv
  obtain ⟨ha, hP, hK⟩ := hv
  have hx := B.exec
  have hb := B.bytes
  have hr := B.returns
  have hts := atoms_spec (ws := wsX7_coolDown) B.pre
  have hown : s.vm.findClass RX7 = some m.cls := findClass_of_methodNamed B.named
  have hlocks := B.notSynchronized
  obtain ⟨R, hR⟩ : ∃ R, R = (headSpec wsX7_coolDown rmX7_coolDown).room := ⟨_, rfl⟩
  rw [← hR]
  have hR1 : R.frames = 1 := by rw [hR]; rfl
  have hR2 : R.locals = 21 := by rw [hR]; rfl
  obtain ⟨Q, hQ⟩ : ∃ Q : State → Prop, Q = MQ below (va_Qv (fun (_ : Unit) => True) (fun _ t => WU X (pk w k f9) t) (xF b0)) args s 0 0 (xF b0) := ⟨_, rfl⟩
  rw [← hQ]
  have hS : va_S (xF b0) s.heap s.heap [] := va_S.rf
  have hl := lv_entry ([.ref (xa X (51*k+0)), .int a1, .int a2]) (n := 5) (Nat.le_of_ble_eq_true rfl)
  refine W.eq ((congrArg (fun z => entryFrame m z 5) ha).trans (lg_entry_eq m _ 5)) ?_
  generalize (lg_sl ([.ref (xa X (51*k+0)), .int a1, .int a2]) ++ List.replicate (5 - (lg_sl ([.ref (xa X (51*k+0)), .int a1, .int a2])).length) Slot.unset).toArray = ls at hl ⊢
  have hl : lv_has ls 5 [(0, .ref (xa X (51*k+0))), (1, .int a1), (2, .int a2)] := hl
  have hk_f83 := hts (.fieldLink RX7 83 "BakeTurns$State" "openings" "I") (by decide +kernel)
  have hk_f68 := hts (.fieldLink RX7 68 "BakeTurns$State" "heat" "I") (by decide +kernel)
  have hk_m243_l := hts (.methodLink RX7 243 Lib.Math.max.name) (by decide +kernel)
  have hk_m243_s := hts (.static Lib.Math.max.name) (by decide +kernel)
  have hk_m243_i := hts (.initialized "java/lang/Math") (by decide +kernel)
  have hk_m243_c := hts (.code Lib.Math.max.name Lib.Math.max.code 2 (some .int)) (by decide +kernel)
  unfold m7_coolDown at hf
  refine lv_iload_n hx hb dX7_coolDown_0 rfl (lv_at hl 2 rfl) ?_
  refine lv_iload_n hx hb dX7_coolDown_1 rfl (lv_at hl 1 rfl) ?_
  obtain ⟨x2, ejK3, hf⟩ := lt1_e hf
  have K3 : ∀ (H : Heap) (locs : List Loc) (ls : Array Slot), HW X (pk w k f0) H → va_S (xF b0) s.heap H locs → lv_has ls 5 [(0, .ref (xa X (51*k+0))), (1, .int a1)] → W p l e R s m args below meth c H locs 0 0 Q (F0 m 10 ls [.int x2, .int a2]) := by
    intro H locs ls hP hS hl
    refine lv_iadd hx hb dX7_coolDown_10 ?_
    refine lv_topi (fun x4 ex4 => ?_)
    replace hf := ltn_s ex4 hf
    refine lv_istore_n (lv' := [(3, .int x4), (0, .ref (xa X (51*k+0))), (1, .int a1)]) hx hb dX7_coolDown_11 rfl hl (by decide) rfl (fun ls hl => ?_)
    refine lv_iconst (v := 2) hx hb dX7_coolDown_12 (by decide) ?_
    refine lv_iconst (v := 4) hx hb dX7_coolDown_13 (by decide) ?_
    refine lv_iload_n hx hb dX7_coolDown_14 rfl (lv_at hl 0 rfl) ?_
    refine lv_imul hx hb dX7_coolDown_15 ?_
    refine lv_iadd hx hb dX7_coolDown_16 ?_
    refine lv_iload_n hx hb dX7_coolDown_17 rfl (lv_at hl 2 rfl) ?_
    refine lv_iconst (v := 2) hx hb dX7_coolDown_18 (by decide) ?_
    refine lv_idiv hx hb dX7_coolDown_19 (by decide) ?_
    refine lv_iadd hx hb dX7_coolDown_20 ?_
    refine lv_topi (fun x5 ex5 => ?_)
    replace hf := ltn_s ex5 hf
    refine lv_istore (lv' := [(4, .int x5), (3, .int x4), (0, .ref (xa X (51*k+0))), (1, .int a1)]) hx hb dX7_coolDown_21 hl (by decide) rfl (fun ls hl => ?_)
    refine lv_aload_n hx hb dX7_coolDown_23 rfl (lv_at hl 2 rfl) ?_
    refine lv_dup hx hb dX7_coolDown_24 rfl ?_
    refine st_get (i0 := 0) hx hb hts iX7_coolDown_X7 hown hP hK hk (by decide) rfl rfl 11 (by decide) hk_f83 rfl dX7_coolDown_25 ?_
    refine lv_iload_n hx hb dX7_coolDown_28 rfl (lv_at hl 1 rfl) ?_
    refine lv_iadd hx hb dX7_coolDown_29 ?_
    refine st_put (i0 := 0) hx hb hts iX7_coolDown_X7 tyX7 tyX7_ok nmX7 hown hX hP hK hS hk (by decide) rfl rfl 11 (by decide) hk_f83 rfl rfl (Nat.le_of_ble_eq_true rfl) es_9 dX7_coolDown_30 (fun f6 ef6 H locs hP hS => ?_)
    replace hf := ltn_s ef6 hf
    refine lv_aload_n hx hb dX7_coolDown_33 rfl (lv_at hl 2 rfl) ?_
    refine lv_aload_n hx hb dX7_coolDown_34 rfl (lv_at hl 2 rfl) ?_
    refine st_get (i0 := 0) hx hb hts iX7_coolDown_X7 hown hP hK hk (by decide) rfl rfl 6 (by decide) hk_f68 rfl dX7_coolDown_35 ?_
    refine lv_iload hx hb dX7_coolDown_38 (lv_at hl 0 rfl) ?_
    refine lv_isub hx hb dX7_coolDown_40 ?_
    refine lv_iconst (v := 0) hx hb dX7_coolDown_41 (by decide) ?_
    refine va_mmax hx hb (by rw [hml]; exact hl.1.symm) hown hk_m243_l hk_m243_s hk_m243_i hk_m243_c (by rw [hR1]; exact Nat.le_of_ble_eq_true rfl) (by rw [hR2]; exact Nat.le_of_ble_eq_true rfl) (Nat.zero_le _) (Nat.zero_le _) dX7_coolDown_42 ?_
    refine st_put (i0 := 0) hx hb hts iX7_coolDown_X7 tyX7 tyX7_ok nmX7 hown hX hP hK hS hk (by decide) rfl rfl 6 (by decide) hk_f68 rfl rfl (Nat.le_of_ble_eq_true rfl) es_4 dX7_coolDown_45 (fun f7 ef7 H locs hP hS => ?_)
    replace hf := ltn_s ef7 hf
    obtain rfl := hf
    rw [hQ]
    exact w_vret hx hb hr hlocks hP hK hS dX7_coolDown_48 rfl
  clear hf
  refine lv_if_le (tgt := 9) hx hb dX7_coolDown_2 (by decide) (fun h1 => ?_) (fun h1 => ?_)
  · rw [if_pos h1] at ejK3
    refine lv_iconst (v := 0) hx hb dX7_coolDown_9 (by decide) ?_
    obtain rfl := ejK3
    exact K3 _ _ _ hP hS (lv_sub hl [0, 1] rfl)
  · rw [if_neg h1] at ejK3
    refine lv_iconst (v := 1) hx hb dX7_coolDown_5 (by decide) ?_
    refine lv_goto (tgt := 10) hx hb dX7_coolDown_6 (by decide) ?_
    obtain rfl := ejK3
    exact K3 _ _ _ hP hS (lv_sub hl [0, 1] rfl)
abbrev rmX7_warmthOf : Room := { frames := 1, cells := 0, slots := 0, locals := 21 }
set_option maxHeartbeats 4000000 in
set_option maxRecDepth 100000 in
theorem k7_warmthOf (l : Launch) {X : bkX} {b0 : Nat} (hX : XO X b0) {k : Nat} (hk : k < 6) (w : bkW) {f0 : bkA} {a0 : Int32} {a1 : Int32} {res9 : Int32} (hf : m7_warmthOf a0 a1 = res9) : cI l yX7_warmthOf wsX7_warmthOf rmX7_warmthOf X b0 [.int a0, .int a1] (pk w k f0) res9 (pk w k f0) := by
  refine Met.ofW (cc := cX7_warmthOf) (maxL := 2) (ret := (some .int)) (by decide) rfl ?_
  intro p e s m args below meth c s₁ B hml hv
  obtain ⟨ha, hP, hK⟩ := hv
  have hx := B.exec
  have hb := B.bytes
  have hr := B.returns
  have hts := atoms_spec (ws := wsX7_warmthOf) B.pre
  have hown : s.vm.findClass RX7 = some m.cls := findClass_of_methodNamed B.named
  have hlocks := B.notSynchronized
  obtain ⟨R, hR⟩ : ∃ R, R = (headSpec wsX7_warmthOf rmX7_warmthOf).room := ⟨_, rfl⟩
  rw [← hR]
  have hR1 : R.frames = 1 := by rw [hR]; rfl
  have hR2 : R.locals = 21 := by rw [hR]; rfl
  obtain ⟨Q, hQ⟩ : ∃ Q : State → Prop, Q = MQ below (va_Qi (fun r' (_ : Unit) => r' = res9) (fun _ t => WU X (pk w k f0) t) (xF b0)) args s 0 0 (xF b0) := ⟨_, rfl⟩
  rw [← hQ]
  have hS : va_S (xF b0) s.heap s.heap [] := va_S.rf
  have hl := lv_entry ([.int a0, .int a1]) (n := 2) (Nat.le_of_ble_eq_true rfl)
  refine W.eq ((congrArg (fun z => entryFrame m z 2) ha).trans (lg_entry_eq m _ 2)) ?_
  generalize (lg_sl ([.int a0, .int a1]) ++ List.replicate (2 - (lg_sl ([.int a0, .int a1])).length) Slot.unset).toArray = ls at hl ⊢
  have hl : lv_has ls 2 [(0, .int a0), (1, .int a1)] := hl
  have hk_m243_l := hts (.methodLink RX7 243 Lib.Math.max.name) (by decide +kernel)
  have hk_m243_s := hts (.static Lib.Math.max.name) (by decide +kernel)
  have hk_m243_i := hts (.initialized "java/lang/Math") (by decide +kernel)
  have hk_m243_c := hts (.code Lib.Math.max.name Lib.Math.max.code 2 (some .int)) (by decide +kernel)
  unfold m7_warmthOf at hf
  refine lv_iload_n hx hb dX7_warmthOf_0 rfl (lv_at hl 1 rfl) ?_
  refine lv_bipush (v := 20) hx hb dX7_warmthOf_1 (by decide) ?_
  refine lv_iload_n hx hb dX7_warmthOf_3 rfl (lv_at hl 0 rfl) ?_
  refine lv_iconst (v := 4) hx hb dX7_warmthOf_4 (by decide) ?_
  refine lv_idiv hx hb dX7_warmthOf_5 (by decide) ?_
  refine lv_imul hx hb dX7_warmthOf_6 ?_
  refine lv_isub hx hb dX7_warmthOf_7 ?_
  refine lv_iconst (v := 0) hx hb dX7_warmthOf_8 (by decide) ?_
  refine va_mmax hx hb (by rw [hml]; exact hl.1.symm) hown hk_m243_l hk_m243_s hk_m243_i hk_m243_c (by rw [hR1]; exact Nat.le_of_ble_eq_true rfl) (by rw [hR2]; exact Nat.le_of_ble_eq_true rfl) (Nat.zero_le _) (Nat.zero_le _) dX7_warmthOf_9 ?_
  obtain rfl := hf
  rw [hQ]
  exact w_iret hx hb hr hlocks hP hK hS dX7_warmthOf_12 rfl rfl
abbrev rmX7_reasonAt : Room := { frames := 2, cells := 0, slots := 0, locals := 42 }
theorem iX7_reasonAt_X1 : ∀ w ∈ wsX10, w ∈ wsX7_reasonAt := by decide +kernel
theorem iX7_reasonAt_X4 : ∀ w ∈ wsX40, w ∈ wsX7_reasonAt := by decide +kernel
theorem iX7_reasonAt_X7 : ∀ w ∈ wsX70, w ∈ wsX7_reasonAt := by decide +kernel
set_option maxHeartbeats 4000000 in
set_option maxRecDepth 100000 in
theorem k7_reasonAt (l : Launch) {X : bkX} {b0 : Nat} (hX : XO X b0) {k : Nat} (hk : k < 6) (w : bkW) {N : Nat} {f0 : bkA} {a1 : Int32} {a2 : Int32} {res9 : Int32} (hf : m7_reasonAt N f0 a1 a2 = some res9) : cI l yX7_reasonAt wsX7_reasonAt rmX7_reasonAt X b0 [.ref (xa X (51*k+0)), .int a1, .int a2] (pk w k f0) res9 (pk w k f0) := by
  refine Met.ofW (cc := cX7_reasonAt) (maxL := 10) (ret := (some .int)) (by decide) rfl ?_
  intro p e s m args below meth c s₁ B hml hv
  obtain ⟨ha, hP, hK⟩ := hv
  have hx := B.exec
  have hb := B.bytes
  have hr := B.returns
  have hts := atoms_spec (ws := wsX7_reasonAt) B.pre
  have hown : s.vm.findClass RX7 = some m.cls := findClass_of_methodNamed B.named
  have hlocks := B.notSynchronized
  obtain ⟨R, hR⟩ : ∃ R, R = (headSpec wsX7_reasonAt rmX7_reasonAt).room := ⟨_, rfl⟩
  rw [← hR]
  have hR1 : R.frames = 2 := by rw [hR]; rfl
  have hR2 : R.locals = 42 := by rw [hR]; rfl
  obtain ⟨Q, hQ⟩ : ∃ Q : State → Prop, Q = MQ below (va_Qi (fun r' (_ : Unit) => r' = res9) (fun _ t => WU X (pk w k f0) t) (xF b0)) args s 0 0 (xF b0) := ⟨_, rfl⟩
  rw [← hQ]
  have hS : va_S (xF b0) s.heap s.heap [] := va_S.rf
  have hl := lv_entry ([.ref (xa X (51*k+0)), .int a1, .int a2]) (n := 10) (Nat.le_of_ble_eq_true rfl)
  refine W.eq ((congrArg (fun z => entryFrame m z 10) ha).trans (lg_entry_eq m _ 10)) ?_
  generalize (lg_sl ([.ref (xa X (51*k+0)), .int a1, .int a2]) ++ List.replicate (10 - (lg_sl ([.ref (xa X (51*k+0)), .int a1, .int a2])).length) Slot.unset).toArray = ls at hl ⊢
  have hl : lv_has ls 10 [(0, .ref (xa X (51*k+0))), (1, .int a1), (2, .int a2)] := hl
  have hk_f28 := hts (.fieldLink RX7 28 "BakeTurns$State" "doughs" "LBakeTurns$Doughs;") (by decide +kernel)
  have hk_f146 := hts (.fieldLink RX7 146 "BakeTurns$Doughs" "kindOf" "LBakeTurns$Row;") (by decide +kernel)
  have hc_104 := (cwV 1 hts gX7_reasonAt_X6_at rfl rfl rfl (by decide +kernel) ⟨by rw [hR1]; exact Nat.le_of_ble_eq_true rfl, by rw [hR2]; exact Nat.le_of_ble_eq_true rfl⟩ : CallW R s args RX7 RX6 104 yX6_at cX6_at 2 (some .int) wsX6_at rmX6_at 0 0 1)
  have hk_f35 := hts (.fieldLink RX7 35 "BakeTurns$State" "places" "LBakeTurns$Places;") (by decide +kernel)
  have hc_220 := (cwV 1 hts gX7_reasonAt_X5_isFree rfl rfl rfl (by decide +kernel) ⟨by rw [hR1]; exact Nat.le_of_ble_eq_true rfl, by rw [hR2]; exact Nat.le_of_ble_eq_true rfl⟩ : CallW R s args RX7 RX5 220 yX5_isFree cX5_isFree 2 (some .boolean) wsX5_isFree rmX5_isFree 0 0 1)
  have hc_217 := (cwS 2 hts gX7_reasonAt_X7_warmthOf rfl rfl rfl (by decide +kernel) ⟨by rw [hR1]; exact Nat.le_of_ble_eq_true rfl, by rw [hR2]; exact Nat.le_of_ble_eq_true rfl⟩ : CallB R s args RX7 217 yX7_warmthOf cX7_warmthOf 2 (some .int) wsX7_warmthOf rmX7_warmthOf 0 0 2 ∧ (Cond.static yX7_warmthOf).before args s = true)
  have hk_f12 := hts (.fieldLink RX7 12 "BakeTurns$State" "kinds" "LBakeTurns$Kinds;") (by decide +kernel)
  have hk_f124 := hts (.fieldLink RX7 124 "BakeTurns$Kinds" "least" "LBakeTurns$Row;") (by decide +kernel)
  have hk_f131 := hts (.fieldLink RX7 131 "BakeTurns$Kinds" "greatest" "LBakeTurns$Row;") (by decide +kernel)
  have hk_f149 := hts (.fieldLink RX7 149 "BakeTurns$Doughs" "loaves" "LBakeTurns$Row;") (by decide +kernel)
  have hk_f152 := hts (.fieldLink RX7 152 "BakeTurns$Doughs" "age" "LBakeTurns$Row;") (by decide +kernel)
  have hk_f137 := hts (.fieldLink RX7 137 "BakeTurns$Kinds" "ripen" "LBakeTurns$Row;") (by decide +kernel)
  unfold m7_reasonAt at hf
  refine lv_aload_n hx hb dX7_reasonAt_0 rfl (lv_at hl 0 rfl) ?_
  refine st_get (i0 := 0) hx hb hts iX7_reasonAt_X7 hown hP hK hk (by decide) rfl rfl 2 (by decide) hk_f28 rfl dX7_reasonAt_1 ?_
  refine st_get (i0 := 3) hx hb hts iX7_reasonAt_X1 hown hP hK hk (by decide) rfl rfl 2 (by decide) hk_f146 rfl dX7_reasonAt_4 ?_
  refine lv_iload_n hx hb dX7_reasonAt_7 rfl (lv_at hl 1 rfl) ?_
  refine st_at (j := 12) (n := 16) ⟨hx, hb, hml, hown, hts⟩ hP hK hS hk (by decide) rfl hc_104 hl.1 (Nat.le_of_ble_eq_true rfl) dX7_reasonAt_8 (fun H locs hP hS => ?_)
  refine lv_topi (fun x1 ex1 => ?_)
  replace hf := ltn_s ex1 hf
  refine lv_istore_n (lv' := [(3, .int x1), (0, .ref (xa X (51*k+0))), (1, .int a1), (2, .int a2)]) hx hb dX7_reasonAt_11 rfl hl (by decide) rfl (fun ls hl => ?_)
  refine lv_iconst (v := 0) hx hb dX7_reasonAt_12 (by decide) ?_
  refine lv_istore (lv' := [(4, .int 0), (3, .int x1), (0, .ref (xa X (51*k+0))), (1, .int a1), (2, .int a2)]) hx hb dX7_reasonAt_13 hl (by decide) rfl (fun ls hl => ?_)
  refine lv_iconst (v := 0) hx hb dX7_reasonAt_15 (by decide) ?_
  refine lv_istore (lv' := [(5, .int 0), (4, .int 0), (3, .int x1), (0, .ref (xa X (51*k+0))), (1, .int a1), (2, .int a2)]) hx hb dX7_reasonAt_16 hl (by decide) rfl (fun ls hl => ?_)
  refine lv_iconst (v := 0) hx hb dX7_reasonAt_18 (by decide) ?_
  refine lv_istore (lv' := [(6, .int 0), (5, .int 0), (4, .int 0), (3, .int x1), (0, .ref (xa X (51*k+0))), (1, .int a1), (2, .int a2)]) hx hb dX7_reasonAt_19 hl (by decide) rfl (fun ls hl => ?_)
  refine lv_iconst (v := 0) hx hb dX7_reasonAt_21 (by decide) ?_
  refine lv_istore (lv' := [(7, .int 0), (6, .int 0), (5, .int 0), (4, .int 0), (3, .int x1), (0, .ref (xa X (51*k+0))), (1, .int a1), (2, .int a2)]) hx hb dX7_reasonAt_22 hl (by decide) rfl (fun ls hl => ?_)
  have L24 : ∀ (n : Nat) (x3 : Int32) (x4 : Int32) (x5 : Int32) (x6 : Int32) (x7 : Int32) (x8 : Int32) (x9 : Int32)  (o10 : Int32) (o11 : Int32) (o12 : Int32) (H : Heap) (locs : List Loc) (ls : Array Slot), m7_reasonAt_L24 N n x3 x4 x5 x6 x7 x8 x9 f0 = some (o10, o11, o12) → HW X (pk w k f0) H → va_S (xF b0) s.heap H locs → lv_has ls 10 [(0, .ref (xa X (51*k+0))), (1, .int x3), (2, .int x4), (3, .int x5), (4, .int x6), (5, .int x7), (6, .int x8), (7, .int x9)] → (∀ (H1 : Heap) (locs1 : List Loc) (ls1 : Array Slot), HW X (pk w k f0) H1 → va_S (xF b0) s.heap H1 locs1 → lv_has ls1 10 [(0, .ref (xa X (51*k+0))), (1, .int x3), (3, .int x5), (4, .int o10), (5, .int o11), (6, .int o12)] → W p l e R s m args below meth c H1 locs1 0 0 Q (F0 m 129 ls1 [])) → W p l e R s m args below meth c H locs 0 0 Q (F0 m 24 ls []) := by
    intro n; induction n with
    | zero => intro x3 x4 x5 x6 x7 x8 x9 o10 o11 o12 H locs ls hf; rw [m7_reasonAt_L24] at hf; cases hf
    | succ n ih =>
      intro x3 x4 x5 x6 x7 x8 x9 o10 o11 o12 H locs ls hf hP hS hl K
      rw [m7_reasonAt_L24] at hf
      refine lv_iload hx hb dX7_reasonAt_24 (lv_at hl 7 rfl) ?_
      refine lv_bipush (v := 12) hx hb dX7_reasonAt_26 (by decide) ?_
      refine lv_icmp_ge (tgt := 129) hx hb dX7_reasonAt_28 (by decide) (fun h13 => ?_) (fun h13 => ?_)
      · rw [if_pos h13] at hf
        have hf := Option.some.inj hf
        simp only [Prod.mk.injEq] at hf
        obtain ⟨rfl, rfl, rfl⟩ := hf
        exact K _ _ _ hP hS (lv_sub hl [0, 1, 3, 4, 5, 6] rfl)
      · rw [if_neg h13] at hf
        refine lv_aload_n hx hb dX7_reasonAt_31 rfl (lv_at hl 0 rfl) ?_
        refine st_get (i0 := 0) hx hb hts iX7_reasonAt_X7 hown hP hK hk (by decide) rfl rfl 3 (by decide) hk_f35 rfl dX7_reasonAt_32 ?_
        refine lv_iload hx hb dX7_reasonAt_35 (lv_at hl 7 rfl) ?_
        obtain ⟨x14, hc15, hf⟩ := lt1_e hf
        refine w_ci ⟨hx, hb, hml, hown, hts⟩ hP hK hS (k5_isFree l hX hk w hc15) hc_220 (st_recv (i0 := 4) hP hK hk (by decide) rfl rfl) rfl hl.1 rfl (Nat.le_of_ble_eq_true rfl) dX7_reasonAt_37 ⟨Nat.zero_le _, Nat.zero_le _⟩ (fun H locs hP hS => ?_)
        obtain ⟨x33, x34, x35, ejK36, hf⟩ := lt3_e hf
        have K36 : ∀ (H : Heap) (locs : List Loc) (ls : Array Slot), HW X (pk w k f0) H → va_S (xF b0) s.heap H locs → lv_has ls 10 [(0, .ref (xa X (51*k+0))), (1, .int x3), (2, .int x4), (3, .int x5), (4, .int x33), (5, .int x34), (6, .int x35), (7, .int x9)] → W p l e R s m args below meth c H locs 0 0 Q (F0 m 123 ls []) := by
          intro H locs ls hP hS hl
          obtain ⟨x53, ex53⟩ : ∃ y : Int32, y = x9 + 1 := ⟨_, rfl⟩
          replace hf := ltn_s ex53 hf
          refine lv_iinc (v := x53) (lv' := [(7, .int x53), (0, .ref (xa X (51*k+0))), (1, .int x3), (2, .int x4), (3, .int x5), (4, .int x33), (5, .int x34), (6, .int x35)]) hx hb dX7_reasonAt_123 hl (k := 7) rfl (by rw [ex53]; rfl) (by decide) rfl (fun ls hl => ?_)
          refine lv_goto (tgt := 24) hx hb dX7_reasonAt_126 (by decide) ?_
          exact ih x3 x4 x5 x33 x34 x35 x53 o10 o11 o12 _ _ _ hf hP hS (lv_sub hl [1, 2, 3, 4, 5, 6, 7, 0] rfl) K
        clear hf
        refine lv_if_eq (tgt := 123) hx hb dX7_reasonAt_40 (by decide) (fun h16 => ?_) (fun h16 => ?_)
        · rw [if_pos h16] at ejK36
          simp only [Prod.mk.injEq] at ejK36
          obtain ⟨rfl, rfl, rfl⟩ := ejK36
          exact K36 _ _ _ hP hS (lv_sub hl [0, 1, 2, 3, 4, 5, 6, 7] rfl)
        · rw [if_neg h16] at ejK36
          refine lv_iload hx hb dX7_reasonAt_43 (lv_at hl 7 rfl) ?_
          refine lv_iload_n hx hb dX7_reasonAt_45 rfl (lv_at hl 2 rfl) ?_
          obtain ⟨x37, hc38, ejK36⟩ := lt1_e ejK36
          refine w_csi ⟨hx, hb, hml, hown, hts⟩ hP hK hS (k7_warmthOf l hX hk w hc38) hc_217 rfl hl.1 rfl (Nat.le_of_ble_eq_true rfl) dX7_reasonAt_46 ⟨Nat.zero_le _, Nat.zero_le _⟩ (fun H locs hP hS => ?_)
          refine lv_istore (lv' := [(8, .int x37), (0, .ref (xa X (51*k+0))), (1, .int x3), (2, .int x4), (3, .int x5), (4, .int x6), (5, .int x7), (6, .int x8), (7, .int x9)]) hx hb dX7_reasonAt_49 hl (by decide) rfl (fun ls hl => ?_)
          refine lv_iload hx hb dX7_reasonAt_51 (lv_at hl 0 rfl) ?_
          refine lv_aload_n hx hb dX7_reasonAt_53 rfl (lv_at hl 1 rfl) ?_
          refine st_get (i0 := 0) hx hb hts iX7_reasonAt_X7 hown hP hK hk (by decide) rfl rfl 0 (by decide) hk_f12 rfl dX7_reasonAt_54 ?_
          refine st_get (i0 := 1) hx hb hts iX7_reasonAt_X4 hown hP hK hk (by decide) rfl rfl 1 (by decide) hk_f124 rfl dX7_reasonAt_57 ?_
          refine lv_iload_n hx hb dX7_reasonAt_60 rfl (lv_at hl 4 rfl) ?_
          refine st_at (j := 0) (n := 5) ⟨hx, hb, hml, hown, hts⟩ hP hK hS hk (by decide) rfl hc_104 hl.1 (Nat.le_of_ble_eq_true rfl) dX7_reasonAt_61 (fun H locs hP hS => ?_)
          obtain ⟨x40, ejK41, ejK36⟩ := lt1_e ejK36
          have K41 : ∀ (H : Heap) (locs : List Loc) (ls : Array Slot), HW X (pk w k f0) H → va_S (xF b0) s.heap H locs → lv_has ls 10 [(0, .ref (xa X (51*k+0))), (1, .int x3), (2, .int x4), (3, .int x5), (4, .int x6), (5, .int x7), (6, .int x8), (7, .int x9), (8, .int x37)] → W p l e R s m args below meth c H locs 0 0 Q (F0 m 72 ls [.int x40]) := by
            intro H locs ls hP hS hl
            refine lv_istore (lv' := [(9, .int x40), (0, .ref (xa X (51*k+0))), (1, .int x3), (2, .int x4), (3, .int x5), (4, .int x6), (5, .int x7), (6, .int x8), (7, .int x9), (8, .int x37)]) hx hb dX7_reasonAt_72 hl (by decide) rfl (fun ls hl => ?_)
            obtain ⟨x42, ex42⟩ : ∃ y : Int32, y = x6 + 1 := ⟨_, rfl⟩
            replace ejK36 := ltn_s ex42 ejK36
            refine lv_iinc (v := x42) (lv' := [(4, .int x42), (9, .int x40), (0, .ref (xa X (51*k+0))), (1, .int x3), (2, .int x4), (3, .int x5), (5, .int x7), (6, .int x8), (7, .int x9), (8, .int x37)]) hx hb dX7_reasonAt_74 hl (k := 5) rfl (by rw [ex42]; rfl) (by decide) rfl (fun ls hl => ?_)
            refine lv_iload hx hb dX7_reasonAt_77 (lv_at hl 6 rfl) ?_
            refine lv_iload hx hb dX7_reasonAt_79 (lv_at hl 1 rfl) ?_
            obtain ⟨x44, ejK45, ejK36⟩ := lt1_e ejK36
            have K45 : ∀ (H : Heap) (locs : List Loc) (ls : Array Slot), HW X (pk w k f0) H → va_S (xF b0) s.heap H locs → lv_has ls 10 [(0, .ref (xa X (51*k+0))), (1, .int x3), (2, .int x4), (3, .int x5), (4, .int x42), (6, .int x8), (7, .int x9), (8, .int x37), (9, .int x40)] → W p l e R s m args below meth c H locs 0 0 Q (F0 m 89 ls [.int x44, .int x7]) := by
              intro H locs ls hP hS hl
              refine lv_iadd hx hb dX7_reasonAt_89 ?_
              refine lv_topi (fun x46 ex46 => ?_)
              replace ejK36 := ltn_s ex46 ejK36
              refine lv_istore (lv' := [(5, .int x46), (0, .ref (xa X (51*k+0))), (1, .int x3), (2, .int x4), (3, .int x5), (4, .int x42), (6, .int x8), (7, .int x9), (8, .int x37), (9, .int x40)]) hx hb dX7_reasonAt_90 hl (by decide) rfl (fun ls hl => ?_)
              refine lv_iload hx hb dX7_reasonAt_92 (lv_at hl 6 rfl) ?_
              refine lv_iload hx hb dX7_reasonAt_94 (lv_at hl 9 rfl) ?_
              obtain ⟨x49, ejK50, ejK36⟩ := lt1_e ejK36
              have K50 : ∀ (H : Heap) (locs : List Loc) (ls : Array Slot), HW X (pk w k f0) H → va_S (xF b0) s.heap H locs → lv_has ls 10 [(0, .ref (xa X (51*k+0))), (1, .int x3), (2, .int x4), (3, .int x5), (4, .int x42), (5, .int x46), (7, .int x9)] → W p l e R s m args below meth c H locs 0 0 Q (F0 m 120 ls [.int x49, .int x8]) := by
                intro H locs ls hP hS hl
                refine lv_iadd hx hb dX7_reasonAt_120 ?_
                refine lv_topi (fun x52 ex52 => ?_)
                replace ejK36 := ltn_s ex52 ejK36
                refine lv_istore (lv' := [(6, .int x52), (0, .ref (xa X (51*k+0))), (1, .int x3), (2, .int x4), (3, .int x5), (4, .int x42), (5, .int x46), (7, .int x9)]) hx hb dX7_reasonAt_121 hl (by decide) rfl (fun ls hl => ?_)
                simp only [Prod.mk.injEq] at ejK36
                obtain ⟨rfl, rfl, rfl⟩ := ejK36
                exact K36 _ _ _ hP hS (lv_sub hl [1, 2, 3, 4, 5, 6, 0, 7] rfl)
              clear ejK36
              refine lv_if_eq (tgt := 119) hx hb dX7_reasonAt_96 (by decide) (fun h47 => ?_) (fun h47 => ?_)
              · rw [if_pos h47] at ejK50
                refine lv_iconst (v := 0) hx hb dX7_reasonAt_119 (by decide) ?_
                obtain rfl := ejK50
                exact K50 _ _ _ hP hS (lv_sub hl [1, 2, 3, 4, 5, 0, 7] rfl)
              · rw [if_neg h47] at ejK50
                refine lv_iload hx hb dX7_reasonAt_99 (lv_at hl 8 rfl) ?_
                refine lv_aload_n hx hb dX7_reasonAt_101 rfl (lv_at hl 1 rfl) ?_
                refine st_get (i0 := 0) hx hb hts iX7_reasonAt_X7 hown hP hK hk (by decide) rfl rfl 0 (by decide) hk_f12 rfl dX7_reasonAt_102 ?_
                refine st_get (i0 := 1) hx hb hts iX7_reasonAt_X4 hown hP hK hk (by decide) rfl rfl 2 (by decide) hk_f131 rfl dX7_reasonAt_105 ?_
                refine lv_iload_n hx hb dX7_reasonAt_108 rfl (lv_at hl 4 rfl) ?_
                refine st_at (j := 1) (n := 5) ⟨hx, hb, hml, hown, hts⟩ hP hK hS hk (by decide) rfl hc_104 hl.1 (Nat.le_of_ble_eq_true rfl) dX7_reasonAt_109 (fun H locs hP hS => ?_)
                refine lv_icmp_gt (tgt := 119) hx hb dX7_reasonAt_112 (by decide) (fun h51 => ?_) (fun h51 => ?_)
                · rw [if_pos h51] at ejK50
                  refine lv_iconst (v := 0) hx hb dX7_reasonAt_119 (by decide) ?_
                  obtain rfl := ejK50
                  exact K50 _ _ _ hP hS (lv_sub hl [1, 2, 3, 4, 5, 0, 7] rfl)
                · rw [if_neg h51] at ejK50
                  refine lv_iconst (v := 1) hx hb dX7_reasonAt_115 (by decide) ?_
                  refine lv_goto (tgt := 120) hx hb dX7_reasonAt_116 (by decide) ?_
                  obtain rfl := ejK50
                  exact K50 _ _ _ hP hS (lv_sub hl [1, 2, 3, 4, 5, 0, 7] rfl)
            clear ejK36
            refine lv_if_eq (tgt := 88) hx hb dX7_reasonAt_81 (by decide) (fun h43 => ?_) (fun h43 => ?_)
            · rw [if_pos h43] at ejK45
              refine lv_iconst (v := 0) hx hb dX7_reasonAt_88 (by decide) ?_
              obtain rfl := ejK45
              exact K45 _ _ _ hP hS (lv_sub hl [2, 3, 4, 5, 0, 7, 8, 9, 1] rfl)
            · rw [if_neg h43] at ejK45
              refine lv_iconst (v := 1) hx hb dX7_reasonAt_84 (by decide) ?_
              refine lv_goto (tgt := 89) hx hb dX7_reasonAt_85 (by decide) ?_
              obtain rfl := ejK45
              exact K45 _ _ _ hP hS (lv_sub hl [2, 3, 4, 5, 0, 7, 8, 9, 1] rfl)
          clear ejK36
          refine lv_icmp_lt (tgt := 71) hx hb dX7_reasonAt_64 (by decide) (fun h39 => ?_) (fun h39 => ?_)
          · rw [if_pos h39] at ejK41
            refine lv_iconst (v := 0) hx hb dX7_reasonAt_71 (by decide) ?_
            obtain rfl := ejK41
            exact K41 _ _ _ hP hS (lv_sub hl [1, 2, 3, 4, 5, 6, 7, 8, 0] rfl)
          · rw [if_neg h39] at ejK41
            refine lv_iconst (v := 1) hx hb dX7_reasonAt_67 (by decide) ?_
            refine lv_goto (tgt := 72) hx hb dX7_reasonAt_68 (by decide) ?_
            obtain rfl := ejK41
            exact K41 _ _ _ hP hS (lv_sub hl [1, 2, 3, 4, 5, 6, 7, 8, 0] rfl)
  obtain ⟨x54, x55, x56, hc57, hf⟩ := ob3_e hf
  refine L24 N a1 a2 x1 0 0 0 0  x54 x55 x56 _ _ _ hc57 hP hS (lv_sub hl [5, 6, 7, 4, 3, 2, 1, 0] rfl) (fun H locs ls hP hS hl => ?_)
  refine lv_aload_n hx hb dX7_reasonAt_129 rfl (lv_at hl 0 rfl) ?_
  refine st_get (i0 := 0) hx hb hts iX7_reasonAt_X7 hown hP hK hk (by decide) rfl rfl 2 (by decide) hk_f28 rfl dX7_reasonAt_130 ?_
  refine st_get (i0 := 3) hx hb hts iX7_reasonAt_X1 hown hP hK hk (by decide) rfl rfl 3 (by decide) hk_f149 rfl dX7_reasonAt_133 ?_
  refine lv_iload_n hx hb dX7_reasonAt_136 rfl (lv_at hl 1 rfl) ?_
  refine st_at (j := 13) (n := 16) ⟨hx, hb, hml, hown, hts⟩ hP hK hS hk (by decide) rfl hc_104 hl.1 (Nat.le_of_ble_eq_true rfl) dX7_reasonAt_137 (fun H locs hP hS => ?_)
  refine lv_topi (fun x58 ex58 => ?_)
  replace hf := ltn_s ex58 hf
  refine lv_istore (lv' := [(7, .int x58), (0, .ref (xa X (51*k+0))), (1, .int a1), (3, .int x1), (4, .int x54), (5, .int x55), (6, .int x56)]) hx hb dX7_reasonAt_140 hl (by decide) rfl (fun ls hl => ?_)
  refine lv_aload_n hx hb dX7_reasonAt_142 rfl (lv_at hl 1 rfl) ?_
  refine st_get (i0 := 0) hx hb hts iX7_reasonAt_X7 hown hP hK hk (by decide) rfl rfl 2 (by decide) hk_f28 rfl dX7_reasonAt_143 ?_
  refine st_get (i0 := 3) hx hb hts iX7_reasonAt_X1 hown hP hK hk (by decide) rfl rfl 4 (by decide) hk_f152 rfl dX7_reasonAt_146 ?_
  refine lv_iload_n hx hb dX7_reasonAt_149 rfl (lv_at hl 2 rfl) ?_
  refine st_at (j := 14) (n := 16) ⟨hx, hb, hml, hown, hts⟩ hP hK hS hk (by decide) rfl hc_104 hl.1 (Nat.le_of_ble_eq_true rfl) dX7_reasonAt_150 (fun H locs hP hS => ?_)
  refine lv_aload_n hx hb dX7_reasonAt_153 rfl (lv_at hl 1 rfl) ?_
  refine st_get (i0 := 0) hx hb hts iX7_reasonAt_X7 hown hP hK hk (by decide) rfl rfl 0 (by decide) hk_f12 rfl dX7_reasonAt_154 ?_
  refine st_get (i0 := 1) hx hb hts iX7_reasonAt_X4 hown hP hK hk (by decide) rfl rfl 4 (by decide) hk_f137 rfl dX7_reasonAt_157 ?_
  refine lv_iload_n hx hb dX7_reasonAt_160 rfl (lv_at hl 3 rfl) ?_
  refine st_at (j := 3) (n := 5) ⟨hx, hb, hml, hown, hts⟩ hP hK hS hk (by decide) rfl hc_104 hl.1 (Nat.le_of_ble_eq_true rfl) dX7_reasonAt_161 (fun H locs hP hS => ?_)
  refine lv_icmp_ge (tgt := 169) hx hb dX7_reasonAt_164 (by decide) (fun h59 => ?_) (fun h59 => ?_)
  · rw [if_pos h59] at hf
    refine lv_iload hx hb dX7_reasonAt_169 (lv_at hl 4 rfl) ?_
    refine lv_iload hx hb dX7_reasonAt_171 (lv_at hl 0 rfl) ?_
    refine lv_icmp_ge (tgt := 178) hx hb dX7_reasonAt_173 (by decide) (fun h60 => ?_) (fun h60 => ?_)
    · rw [if_pos h60] at hf
      refine lv_iload hx hb dX7_reasonAt_178 (lv_at hl 5 rfl) ?_
      refine lv_iload hx hb dX7_reasonAt_180 (lv_at hl 0 rfl) ?_
      refine lv_icmp_ge (tgt := 187) hx hb dX7_reasonAt_182 (by decide) (fun h61 => ?_) (fun h61 => ?_)
      · rw [if_pos h61] at hf
        refine lv_iload hx hb dX7_reasonAt_187 (lv_at hl 6 rfl) ?_
        refine lv_iload hx hb dX7_reasonAt_189 (lv_at hl 0 rfl) ?_
        refine lv_icmp_ge (tgt := 198) hx hb dX7_reasonAt_191 (by decide) (fun h62 => ?_) (fun h62 => ?_)
        · rw [if_pos h62] at hf
          refine lv_iconst (v := 0) hx hb dX7_reasonAt_198 (by decide) ?_
          have hf := Option.some.inj hf
          obtain rfl := hf
          rw [hQ]
          exact w_iret hx hb hr hlocks hP hK hS dX7_reasonAt_199 rfl rfl
        · rw [if_neg h62] at hf
          refine lv_iconst (v := 5) hx hb dX7_reasonAt_194 (by decide) ?_
          refine lv_goto (tgt := 199) hx hb dX7_reasonAt_195 (by decide) ?_
          have hf := Option.some.inj hf
          obtain rfl := hf
          rw [hQ]
          exact w_iret hx hb hr hlocks hP hK hS dX7_reasonAt_199 rfl rfl
      · rw [if_neg h61] at hf
        refine lv_iconst (v := 4) hx hb dX7_reasonAt_185 (by decide) ?_
        have hf := Option.some.inj hf
        obtain rfl := hf
        rw [hQ]
        exact w_iret hx hb hr hlocks hP hK hS dX7_reasonAt_186 rfl rfl
    · rw [if_neg h60] at hf
      refine lv_iconst (v := 3) hx hb dX7_reasonAt_176 (by decide) ?_
      have hf := Option.some.inj hf
      obtain rfl := hf
      rw [hQ]
      exact w_iret hx hb hr hlocks hP hK hS dX7_reasonAt_177 rfl rfl
  · rw [if_neg h59] at hf
    refine lv_iconst (v := 2) hx hb dX7_reasonAt_167 (by decide) ?_
    have hf := Option.some.inj hf
    obtain rfl := hf
    rw [hQ]
    exact w_iret hx hb hr hlocks hP hK hS dX7_reasonAt_168 rfl rfl
abbrev rmX7_reasonNow : Room := { frames := 3, cells := 0, slots := 0, locals := 71 }
theorem iX7_reasonNow_X7 : ∀ w ∈ wsX70, w ∈ wsX7_reasonNow := by decide +kernel
set_option maxHeartbeats 4000000 in
set_option maxRecDepth 100000 in
theorem k7_reasonNow (l : Launch) {X : bkX} {b0 : Nat} (hX : XO X b0) {k : Nat} (hk : k < 6) (w : bkW) {N : Nat} {f0 : bkA} {a1 : Int32} {res9 : Int32} (hf : m7_reasonNow N f0 a1 = some res9) : cI l yX7_reasonNow wsX7_reasonNow rmX7_reasonNow X b0 [.ref (xa X (51*k+0)), .int a1] (pk w k f0) res9 (pk w k f0) := by
  refine Met.ofW (cc := cX7_reasonNow) (maxL := 2) (ret := (some .int)) (by decide) rfl ?_
  intro p e s m args below meth c s₁ B hml hv
  obtain ⟨ha, hP, hK⟩ := hv
  have hx := B.exec
  have hb := B.bytes
  have hr := B.returns
  have hts := atoms_spec (ws := wsX7_reasonNow) B.pre
  have hown : s.vm.findClass RX7 = some m.cls := findClass_of_methodNamed B.named
  have hlocks := B.notSynchronized
  obtain ⟨R, hR⟩ : ∃ R, R = (headSpec wsX7_reasonNow rmX7_reasonNow).room := ⟨_, rfl⟩
  rw [← hR]
  have hR1 : R.frames = 3 := by rw [hR]; rfl
  have hR2 : R.locals = 71 := by rw [hR]; rfl
  obtain ⟨Q, hQ⟩ : ∃ Q : State → Prop, Q = MQ below (va_Qi (fun r' (_ : Unit) => r' = res9) (fun _ t => WU X (pk w k f0) t) (xF b0)) args s 0 0 (xF b0) := ⟨_, rfl⟩
  rw [← hQ]
  have hS : va_S (xF b0) s.heap s.heap [] := va_S.rf
  have hl := lv_entry ([.ref (xa X (51*k+0)), .int a1]) (n := 2) (Nat.le_of_ble_eq_true rfl)
  refine W.eq ((congrArg (fun z => entryFrame m z 2) ha).trans (lg_entry_eq m _ 2)) ?_
  generalize (lg_sl ([.ref (xa X (51*k+0)), .int a1]) ++ List.replicate (2 - (lg_sl ([.ref (xa X (51*k+0)), .int a1])).length) Slot.unset).toArray = ls at hl ⊢
  have hl : lv_has ls 2 [(0, .ref (xa X (51*k+0))), (1, .int a1)] := hl
  have hc_117 := (cwV 1 hts gX7_reasonNow_X7_isWaiting rfl rfl rfl (by decide +kernel) ⟨by rw [hR1]; exact Nat.le_of_ble_eq_true rfl, by rw [hR2]; exact Nat.le_of_ble_eq_true rfl⟩ : CallW R s args RX7 RX7 117 yX7_isWaiting cX7_isWaiting 2 (some .boolean) wsX7_isWaiting rmX7_isWaiting 0 0 1)
  have hk_f68 := hts (.fieldLink RX7 68 "BakeTurns$State" "heat" "I") (by decide +kernel)
  have hc_210 := (cwV 2 hts gX7_reasonNow_X7_reasonAt rfl rfl rfl (by decide +kernel) ⟨by rw [hR1]; exact Nat.le_of_ble_eq_true rfl, by rw [hR2]; exact Nat.le_of_ble_eq_true rfl⟩ : CallW R s args RX7 RX7 210 yX7_reasonAt cX7_reasonAt 10 (some .int) wsX7_reasonAt rmX7_reasonAt 0 0 2)
  unfold m7_reasonNow at hf
  refine lv_aload_n hx hb dX7_reasonNow_0 rfl (lv_at hl 0 rfl) ?_
  refine lv_iload_n hx hb dX7_reasonNow_1 rfl (lv_at hl 1 rfl) ?_
  obtain ⟨x1, hc2, hf⟩ := lt1_e hf
  refine w_ci ⟨hx, hb, hml, hown, hts⟩ hP hK hS (k7_isWaiting l hX hk w hc2) hc_117 (st_recv (i0 := 0) hP hK hk (by decide) rfl rfl) rfl hl.1 rfl (Nat.le_of_ble_eq_true rfl) dX7_reasonNow_2 ⟨Nat.zero_le _, Nat.zero_le _⟩ (fun H locs hP hS => ?_)
  refine lv_if_eq (tgt := 20) hx hb dX7_reasonNow_5 (by decide) (fun h3 => ?_) (fun h3 => ?_)
  · rw [if_pos h3] at hf
    refine lv_iconst (v := (-1)) hx hb dX7_reasonNow_20 (by decide) ?_
    have hf := Option.some.inj hf
    obtain rfl := hf
    rw [hQ]
    exact w_iret hx hb hr hlocks hP hK hS dX7_reasonNow_21 rfl rfl
  · rw [if_neg h3] at hf
    refine lv_aload_n hx hb dX7_reasonNow_8 rfl (lv_at hl 0 rfl) ?_
    refine lv_iload_n hx hb dX7_reasonNow_9 rfl (lv_at hl 1 rfl) ?_
    refine lv_aload_n hx hb dX7_reasonNow_10 rfl (lv_at hl 0 rfl) ?_
    refine st_get (i0 := 0) hx hb hts iX7_reasonNow_X7 hown hP hK hk (by decide) rfl rfl 6 (by decide) hk_f68 rfl dX7_reasonNow_11 ?_
    obtain ⟨x4, hc5, hf⟩ := ob1_e hf
    refine w_ci ⟨hx, hb, hml, hown, hts⟩ hP hK hS (k7_reasonAt l hX hk w hc5) hc_210 (st_recv (i0 := 0) hP hK hk (by decide) rfl rfl) rfl hl.1 rfl (Nat.le_of_ble_eq_true rfl) dX7_reasonNow_14 ⟨Nat.zero_le _, Nat.zero_le _⟩ (fun H locs hP hS => ?_)
    refine lv_goto (tgt := 21) hx hb dX7_reasonNow_17 (by decide) ?_
    have hf := Option.some.inj hf
    obtain rfl := hf
    rw [hQ]
    exact w_iret hx hb hr hlocks hP hK hS dX7_reasonNow_21 rfl rfl
abbrev rmX7_fewestLogsFor : Room := { frames := 3, cells := 0, slots := 0, locals := 71 }
theorem iX7_fewestLogsFor_X7 : ∀ w ∈ wsX70, w ∈ wsX7_fewestLogsFor := by decide +kernel
set_option maxHeartbeats 4000000 in
set_option maxRecDepth 100000 in
theorem k7_fewestLogsFor (l : Launch) {X : bkX} {b0 : Nat} (hX : XO X b0) {k : Nat} (hk : k < 6) (w : bkW) {N : Nat} {f0 : bkA} {a1 : Int32} {res9 : Int32} (hf : m7_fewestLogsFor N f0 a1 = some res9) : cI l yX7_fewestLogsFor wsX7_fewestLogsFor rmX7_fewestLogsFor X b0 [.ref (xa X (51*k+0)), .int a1] (pk w k f0) res9 (pk w k f0) := by
  refine Met.ofW (cc := cX7_fewestLogsFor) (maxL := 3) (ret := (some .int)) (by decide) rfl ?_
  intro p e s m args below meth c s₁ B hml hv
  obtain ⟨ha, hP, hK⟩ := hv
  have hx := B.exec
  have hb := B.bytes
  have hr := B.returns
  have hts := atoms_spec (ws := wsX7_fewestLogsFor) B.pre
  have hown : s.vm.findClass RX7 = some m.cls := findClass_of_methodNamed B.named
  have hlocks := B.notSynchronized
  obtain ⟨R, hR⟩ : ∃ R, R = (headSpec wsX7_fewestLogsFor rmX7_fewestLogsFor).room := ⟨_, rfl⟩
  rw [← hR]
  have hR1 : R.frames = 3 := by rw [hR]; rfl
  have hR2 : R.locals = 71 := by rw [hR]; rfl
  obtain ⟨Q, hQ⟩ : ∃ Q : State → Prop, Q = MQ below (va_Qi (fun r' (_ : Unit) => r' = res9) (fun _ t => WU X (pk w k f0) t) (xF b0)) args s 0 0 (xF b0) := ⟨_, rfl⟩
  rw [← hQ]
  have hS : va_S (xF b0) s.heap s.heap [] := va_S.rf
  have hl := lv_entry ([.ref (xa X (51*k+0)), .int a1]) (n := 3) (Nat.le_of_ble_eq_true rfl)
  refine W.eq ((congrArg (fun z => entryFrame m z 3) ha).trans (lg_entry_eq m _ 3)) ?_
  generalize (lg_sl ([.ref (xa X (51*k+0)), .int a1]) ++ List.replicate (3 - (lg_sl ([.ref (xa X (51*k+0)), .int a1])).length) Slot.unset).toArray = ls at hl ⊢
  have hl : lv_has ls 3 [(0, .ref (xa X (51*k+0))), (1, .int a1)] := hl
  have hc_117 := (cwV 1 hts gX7_fewestLogsFor_X7_isWaiting rfl rfl rfl (by decide +kernel) ⟨by rw [hR1]; exact Nat.le_of_ble_eq_true rfl, by rw [hR2]; exact Nat.le_of_ble_eq_true rfl⟩ : CallW R s args RX7 RX7 117 yX7_isWaiting cX7_isWaiting 2 (some .boolean) wsX7_isWaiting rmX7_isWaiting 0 0 1)
  have hk_f68 := hts (.fieldLink RX7 68 "BakeTurns$State" "heat" "I") (by decide +kernel)
  have hc_210 := (cwV 2 hts gX7_fewestLogsFor_X7_reasonAt rfl rfl rfl (by decide +kernel) ⟨by rw [hR1]; exact Nat.le_of_ble_eq_true rfl, by rw [hR2]; exact Nat.le_of_ble_eq_true rfl⟩ : CallW R s args RX7 RX7 210 yX7_reasonAt cX7_reasonAt 10 (some .int) wsX7_reasonAt rmX7_reasonAt 0 0 2)
  unfold m7_fewestLogsFor at hf
  refine lv_aload_n hx hb dX7_fewestLogsFor_0 rfl (lv_at hl 0 rfl) ?_
  refine lv_iload_n hx hb dX7_fewestLogsFor_1 rfl (lv_at hl 1 rfl) ?_
  obtain ⟨x1, hc2, hf⟩ := lt1_e hf
  refine w_ci ⟨hx, hb, hml, hown, hts⟩ hP hK hS (k7_isWaiting l hX hk w hc2) hc_117 (st_recv (i0 := 0) hP hK hk (by decide) rfl rfl) rfl hl.1 rfl (Nat.le_of_ble_eq_true rfl) dX7_fewestLogsFor_2 ⟨Nat.zero_le _, Nat.zero_le _⟩ (fun H locs hP hS => ?_)
  refine lv_if_ne (tgt := 10) hx hb dX7_fewestLogsFor_5 (by decide) (fun h3 => ?_) (fun h3 => ?_)
  · rw [if_neg h3] at hf
    refine lv_iconst (v := 0) hx hb dX7_fewestLogsFor_10 (by decide) ?_
    refine lv_istore_n (lv' := [(2, .int 0), (0, .ref (xa X (51*k+0))), (1, .int a1)]) hx hb dX7_fewestLogsFor_11 rfl hl (by decide) rfl (fun ls hl => ?_)
    have L12 : ∀ (n : Nat) (x5 : Int32) (x6 : Int32)  (H : Heap) (locs : List Loc) (ls : Array Slot), m7_fewestLogsFor_L12 N n x5 x6 f0 = some res9 → HW X (pk w k f0) H → va_S (xF b0) s.heap H locs → lv_has ls 3 [(0, .ref (xa X (51*k+0))), (1, .int x5), (2, .int x6)] → W p l e R s m args below meth c H locs 0 0 Q (F0 m 12 ls []) := by
      intro n; induction n with
      | zero => intro x5 x6 H locs ls hf; rw [m7_fewestLogsFor_L12] at hf; cases hf
      | succ n ih =>
        intro x5 x6 H locs ls hf hP hS hl
        rw [m7_fewestLogsFor_L12] at hf
        refine lv_iload_n hx hb dX7_fewestLogsFor_12 rfl (lv_at hl 2 rfl) ?_
        refine lv_bipush (v := 16) hx hb dX7_fewestLogsFor_13 (by decide) ?_
        refine lv_icmp_gt (tgt := 58) hx hb dX7_fewestLogsFor_15 (by decide) (fun h7 => ?_) (fun h7 => ?_)
        · rw [if_pos h7] at hf
          refine lv_iconst (v := (-1)) hx hb dX7_fewestLogsFor_58 (by decide) ?_
          have hf := Option.some.inj hf
          obtain rfl := hf
          rw [hQ]
          exact w_iret hx hb hr hlocks hP hK hS dX7_fewestLogsFor_59 rfl rfl
        · rw [if_neg h7] at hf
          refine lv_aload_n hx hb dX7_fewestLogsFor_18 rfl (lv_at hl 0 rfl) ?_
          refine st_get (i0 := 0) hx hb hts iX7_fewestLogsFor_X7 hown hP hK hk (by decide) rfl rfl 6 (by decide) hk_f68 rfl dX7_fewestLogsFor_19 ?_
          refine lv_bipush (v := 25) hx hb dX7_fewestLogsFor_22 (by decide) ?_
          refine lv_iload_n hx hb dX7_fewestLogsFor_24 rfl (lv_at hl 2 rfl) ?_
          refine lv_imul hx hb dX7_fewestLogsFor_25 ?_
          refine lv_iadd hx hb dX7_fewestLogsFor_26 ?_
          refine lv_sipush (v := 400) hx hb dX7_fewestLogsFor_27 (by decide) ?_
          refine lv_icmp_gt (tgt := 58) hx hb dX7_fewestLogsFor_30 (by decide) (fun h8 => ?_) (fun h8 => ?_)
          · rw [if_pos h8] at hf
            refine lv_iconst (v := (-1)) hx hb dX7_fewestLogsFor_58 (by decide) ?_
            have hf := Option.some.inj hf
            obtain rfl := hf
            rw [hQ]
            exact w_iret hx hb hr hlocks hP hK hS dX7_fewestLogsFor_59 rfl rfl
          · rw [if_neg h8] at hf
            refine lv_aload_n hx hb dX7_fewestLogsFor_33 rfl (lv_at hl 0 rfl) ?_
            refine lv_iload_n hx hb dX7_fewestLogsFor_34 rfl (lv_at hl 1 rfl) ?_
            refine lv_aload_n hx hb dX7_fewestLogsFor_35 rfl (lv_at hl 0 rfl) ?_
            refine st_get (i0 := 0) hx hb hts iX7_fewestLogsFor_X7 hown hP hK hk (by decide) rfl rfl 6 (by decide) hk_f68 rfl dX7_fewestLogsFor_36 ?_
            refine lv_bipush (v := 25) hx hb dX7_fewestLogsFor_39 (by decide) ?_
            refine lv_iload_n hx hb dX7_fewestLogsFor_41 rfl (lv_at hl 2 rfl) ?_
            refine lv_imul hx hb dX7_fewestLogsFor_42 ?_
            refine lv_iadd hx hb dX7_fewestLogsFor_43 ?_
            obtain ⟨x9, hc10, hf⟩ := ob1_e hf
            refine w_ci ⟨hx, hb, hml, hown, hts⟩ hP hK hS (k7_reasonAt l hX hk w hc10) hc_210 (st_recv (i0 := 0) hP hK hk (by decide) rfl rfl) rfl hl.1 rfl (Nat.le_of_ble_eq_true rfl) dX7_fewestLogsFor_44 ⟨Nat.zero_le _, Nat.zero_le _⟩ (fun H locs hP hS => ?_)
            refine lv_if_ne (tgt := 52) hx hb dX7_fewestLogsFor_47 (by decide) (fun h11 => ?_) (fun h11 => ?_)
            · rw [if_neg h11] at hf
              obtain ⟨x12, ex12⟩ : ∃ y : Int32, y = x6 + 1 := ⟨_, rfl⟩
              replace hf := ltn_s ex12 hf
              refine lv_iinc (v := x12) (lv' := [(2, .int x12), (0, .ref (xa X (51*k+0))), (1, .int x5)]) hx hb dX7_fewestLogsFor_52 hl (k := 2) rfl (by rw [ex12]; rfl) (by decide) rfl (fun ls hl => ?_)
              refine lv_goto (tgt := 12) hx hb dX7_fewestLogsFor_55 (by decide) ?_
              exact ih x5 x12  _ _ _ hf hP hS (lv_sub hl [1, 2, 0] rfl)
            · rw [if_pos h11] at hf
              refine lv_iload_n hx hb dX7_fewestLogsFor_50 rfl (lv_at hl 2 rfl) ?_
              have hf := Option.some.inj hf
              obtain rfl := hf
              rw [hQ]
              exact w_iret hx hb hr hlocks hP hK hS dX7_fewestLogsFor_51 rfl rfl
    exact L12 N a1 0  _ _ _ hf hP hS (lv_sub hl [1, 2, 0] rfl)
  · rw [if_pos h3] at hf
    refine lv_iconst (v := (-1)) hx hb dX7_fewestLogsFor_8 (by decide) ?_
    have hf := Option.some.inj hf
    obtain rfl := hf
    rw [hQ]
    exact w_iret hx hb hr hlocks hP hK hS dX7_fewestLogsFor_9 rfl rfl
