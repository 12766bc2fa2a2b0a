abbrev rmX7_loadFirst : Room := { frames := 3, cells := 0, slots := 0, locals := 71 }
theorem iX7_loadFirst_X1 : ∀ w ∈ wsX10, w ∈ wsX7_loadFirst := by decide +kernel
theorem iX7_loadFirst_X7 : ∀ w ∈ wsX70, w ∈ wsX7_loadFirst := by decide +kernel
set_option maxHeartbeats 4000000 in
set_option maxRecDepth 100000 in
theorem k7_loadFirst (l : Launch) {X : bkX} {b0 : Nat} (hX : XO X b0) {k : Nat} (hk : k < 6) (w : bkW) {N : Nat} {f0 : bkA} {res9 : Int32} {f9 : bkA} (hf : m7_loadFirst N f0 = some (res9, f9)) : cI l yX7_loadFirst wsX7_loadFirst rmX7_loadFirst X b0 [.ref (xa X (51*k+0))] (pk w k f0) res9 (pk w k f9) := by
  refine Met.ofW (cc := cX7_loadFirst) (maxL := 7) (ret := (some .int)) (by decide) rfl ?_
  intro p e s m args below meth c s₁ B hml hv
  obtain ⟨ha, hP, hK⟩ := hv
  have hx := B.exec
  have hb := B.bytes
  have hr := B.returns
  have hts := atoms_spec (ws := wsX7_loadFirst) B.pre
  have hown : s.vm.findClass RX7 = some m.cls := findClass_of_methodNamed B.named
  have hlocks := B.notSynchronized
  obtain ⟨R, hR⟩ : ∃ R, R = (headSpec wsX7_loadFirst rmX7_loadFirst).room := ⟨_, rfl⟩
  rw [← hR]
  have hR1 : R.frames = 3 := by rw [hR]; rfl
  have hR2 : R.locals = 71 := by rw [hR]; rfl
  obtain ⟨Q, hQ⟩ : ∃ Q : State → Prop, Q = MQ below (va_Qi (fun r' (_ : Unit) => r' = res9) (fun _ t => WU X (pk w k f9) t) (xF b0)) args s 0 0 (xF b0) := ⟨_, rfl⟩
  rw [← hQ]
  have hS : va_S (xF b0) s.heap s.heap [] := va_S.rf
  have hl := lv_entry ([.ref (xa X (51*k+0))]) (n := 7) (Nat.le_of_ble_eq_true rfl)
  refine W.eq ((congrArg (fun z => entryFrame m z 7) ha).trans (lg_entry_eq m _ 7)) ?_
  generalize (lg_sl ([.ref (xa X (51*k+0))]) ++ List.replicate (7 - (lg_sl ([.ref (xa X (51*k+0))])).length) Slot.unset).toArray = ls at hl ⊢
  have hl : lv_has ls 7 [(0, .ref (xa X (51*k+0)))] := hl
  have hk_f64 := hts (.fieldLink RX7 64 "BakeTurns$State" "waiting" "I") (by decide +kernel)
  have hk_f44 := hts (.fieldLink RX7 44 "BakeTurns$State" "inLine" "LBakeTurns$Row;") (by decide +kernel)
  have hc_104 := (cwV 1 hts gX7_loadFirst_X6_at rfl rfl rfl (by decide +kernel) ⟨by rw [hR1]; exact Nat.le_of_ble_eq_true rfl, by rw [hR2]; exact Nat.le_of_ble_eq_true rfl⟩ : CallW R s args RX7 RX6 104 yX6_at cX6_at 2 (some .int) wsX6_at rmX6_at 0 0 1)
  have hk_f68 := hts (.fieldLink RX7 68 "BakeTurns$State" "heat" "I") (by decide +kernel)
  have hc_210 := (cwV 2 hts gX7_loadFirst_X7_reasonAt rfl rfl rfl (by decide +kernel) ⟨by rw [hR1]; exact Nat.le_of_ble_eq_true rfl, by rw [hR2]; exact Nat.le_of_ble_eq_true rfl⟩ : CallW R s args RX7 RX7 210 yX7_reasonAt cX7_reasonAt 10 (some .int) wsX7_reasonAt rmX7_reasonAt 0 0 2)
  have hk_f28 := hts (.fieldLink RX7 28 "BakeTurns$State" "doughs" "LBakeTurns$Doughs;") (by decide +kernel)
  have hk_f155 := hts (.fieldLink RX7 155 "BakeTurns$Doughs" "lastReason" "LBakeTurns$Row;") (by decide +kernel)
  have hc_127 := (cwV 2 hts gX7_loadFirst_X6_put rfl rfl rfl (by decide +kernel) ⟨by rw [hR1]; exact Nat.le_of_ble_eq_true rfl, by rw [hR2]; exact Nat.le_of_ble_eq_true rfl⟩ : CallW R s args RX7 RX6 127 yX6_put cX6_put 3 none wsX6_put rmX6_put 0 0 2)
  have hc_214 := (cwV 1 hts gX7_loadFirst_X7_load rfl rfl rfl (by decide +kernel) ⟨by rw [hR1]; exact Nat.le_of_ble_eq_true rfl, by rw [hR2]; exact Nat.le_of_ble_eq_true rfl⟩ : CallW R s args RX7 RX7 214 yX7_load cX7_load 6 none wsX7_load rmX7_load 0 0 1)
  have hk_f149 := hts (.fieldLink RX7 149 "BakeTurns$Doughs" "loaves" "LBakeTurns$Row;") (by decide +kernel)
  unfold m7_loadFirst at hf
  refine lv_aload_n hx hb dX7_loadFirst_0 rfl (lv_at hl 0 rfl) ?_
  refine st_get (i0 := 0) hx hb hts iX7_loadFirst_X7 hown hP hK hk (by decide) rfl rfl 5 (by decide) hk_f64 rfl dX7_loadFirst_1 ?_
  refine lv_topi (fun x1 ex1 => ?_)
  replace hf := ltn_s ex1 hf
  refine lv_istore_n (lv' := [(1, .int x1), (0, .ref (xa X (51*k+0)))]) hx hb dX7_loadFirst_4 rfl hl (by decide) rfl (fun ls hl => ?_)
  refine lv_iconst (v := 0) hx hb dX7_loadFirst_5 (by decide) ?_
  refine lv_istore_n (lv' := [(2, .int 0), (1, .int x1), (0, .ref (xa X (51*k+0)))]) hx hb dX7_loadFirst_6 rfl hl (by decide) rfl (fun ls hl => ?_)
  refine lv_iconst (v := 0) hx hb dX7_loadFirst_7 (by decide) ?_
  refine lv_istore_n (lv' := [(3, .int 0), (2, .int 0), (1, .int x1), (0, .ref (xa X (51*k+0)))]) hx hb dX7_loadFirst_8 rfl hl (by decide) rfl (fun ls hl => ?_)
  refine lv_iconst (v := 0) hx hb dX7_loadFirst_9 (by decide) ?_
  refine lv_istore (lv' := [(4, .int 0), (3, .int 0), (2, .int 0), (1, .int x1), (0, .ref (xa X (51*k+0)))]) hx hb dX7_loadFirst_10 hl (by decide) rfl (fun ls hl => ?_)
  have L12 : ∀ (n : Nat) (x3 : Int32) (x4 : Int32) (x5 : Int32) (x6 : Int32) (f7 : bkA) (o8 : Int32) (o9 : Int32) (of10 : bkA) (H : Heap) (locs : List Loc) (ls : Array Slot), m7_loadFirst_L12 N n x3 x4 x5 x6 f7 = some (o8, o9, of10) → HW X (pk w k f7) H → va_S (xF b0) s.heap H locs → lv_has ls 7 [(0, .ref (xa X (51*k+0))), (1, .int x3), (2, .int x4), (3, .int x5), (4, .int x6)] → (∀ (H1 : Heap) (locs1 : List Loc) (ls1 : Array Slot), HW X (pk w k of10) H1 → va_S (xF b0) s.heap H1 locs1 → lv_has ls1 7 [(0, .ref (xa X (51*k+0))), (2, .int o8), (3, .int o9)] → W p l e R s m args below meth c H1 locs1 0 0 Q (F0 m 109 ls1 [])) → W p l e R s m args below meth c H locs 0 0 Q (F0 m 12 ls []) := by
    intro n; induction n with
    | zero => intro x3 x4 x5 x6 f7 o8 o9 of10 H locs ls hf; rw [m7_loadFirst_L12] at hf; cases hf
    | succ n ih =>
      intro x3 x4 x5 x6 f7 o8 o9 of10 H locs ls hf hP hS hl K
      rw [m7_loadFirst_L12] at hf
      refine lv_iload hx hb dX7_loadFirst_12 (lv_at hl 4 rfl) ?_
      refine lv_iload_n hx hb dX7_loadFirst_14 rfl (lv_at hl 1 rfl) ?_
      refine lv_icmp_ge (tgt := 109) hx hb dX7_loadFirst_15 (by decide) (fun h11 => ?_) (fun h11 => ?_)
      · rw [if_pos h11] at hf
        have hf := Option.some.inj hf
        simp only [Prod.mk.injEq] at hf
        obtain ⟨rfl, rfl, rfl⟩ := hf
        exact K _ _ _ hP hS (lv_sub hl [0, 2, 3] rfl)
      · rw [if_neg h11] at hf
        refine lv_aload_n hx hb dX7_loadFirst_18 rfl (lv_at hl 0 rfl) ?_
        refine st_get (i0 := 0) hx hb hts iX7_loadFirst_X7 hown hP hK hk (by decide) rfl rfl 4 (by decide) hk_f44 rfl dX7_loadFirst_19 ?_
        refine lv_iload hx hb dX7_loadFirst_22 (lv_at hl 4 rfl) ?_
        refine st_at (j := 22) (n := 16) ⟨hx, hb, hml, hown, hts⟩ hP hK hS hk (by decide) rfl hc_104 hl.1 (Nat.le_of_ble_eq_true rfl) dX7_loadFirst_24 (fun H locs hP hS => ?_)
        refine lv_topi (fun x12 ex12 => ?_)
        replace hf := ltn_s ex12 hf
        refine lv_istore (lv' := [(5, .int x12), (0, .ref (xa X (51*k+0))), (1, .int x3), (2, .int x4), (3, .int x5), (4, .int x6)]) hx hb dX7_loadFirst_27 hl (by decide) rfl (fun ls hl => ?_)
        refine lv_iload_n hx hb dX7_loadFirst_29 rfl (lv_at hl 4 rfl) ?_
        obtain ⟨x16, ejK17, hf⟩ := ob1_e hf
        have K17 : ∀ (H : Heap) (locs : List Loc) (ls : Array Slot), HW X (pk w k f7) H → va_S (xF b0) s.heap H locs → lv_has ls 7 [(0, .ref (xa X (51*k+0))), (1, .int x3), (2, .int x4), (3, .int x5), (4, .int x6), (5, .int x12)] → W p l e R s m args below meth c H locs 0 0 Q (F0 m 47 ls [.int x16]) := by
          intro H locs ls hP hS hl
          refine lv_istore (lv' := [(6, .int x16), (0, .ref (xa X (51*k+0))), (1, .int x3), (2, .int x4), (3, .int x5), (4, .int x6), (5, .int x12)]) hx hb dX7_loadFirst_47 hl (by decide) rfl (fun ls hl => ?_)
          refine lv_iload hx hb dX7_loadFirst_49 (lv_at hl 0 rfl) ?_
          obtain ⟨x27, x28, f29, ejK30, hf⟩ := ob3_e hf
          have K30 : ∀ (H : Heap) (locs : List Loc) (ls : Array Slot), HW X (pk w k f29) H → va_S (xF b0) s.heap H locs → lv_has ls 7 [(0, .ref (xa X (51*k+0))), (1, .int x3), (2, .int x27), (3, .int x28), (4, .int x6)] → W p l e R s m args below meth c H locs 0 0 Q (F0 m 103 ls []) := by
            intro H locs ls hP hS hl
            obtain ⟨x37, ex37⟩ : ∃ y : Int32, y = x6 + 1 := ⟨_, rfl⟩
            replace hf := ltn_s ex37 hf
            refine lv_iinc (v := x37) (lv' := [(4, .int x37), (0, .ref (xa X (51*k+0))), (1, .int x3), (2, .int x27), (3, .int x28)]) hx hb dX7_loadFirst_103 hl (k := 4) rfl (by rw [ex37]; rfl) (by decide) rfl (fun ls hl => ?_)
            refine lv_goto (tgt := 12) hx hb dX7_loadFirst_106 (by decide) ?_
            exact ih x3 x27 x28 x37 f29 o8 o9 of10 _ _ _ hf hP hS (lv_sub hl [1, 2, 3, 4, 0] rfl) K
          clear hf
          refine lv_if_ne (tgt := 76) hx hb dX7_loadFirst_51 (by decide) (fun h20 => ?_) (fun h20 => ?_)
          · rw [if_neg h20] at ejK30
            refine lv_aload_n hx hb dX7_loadFirst_76 rfl (lv_at hl 1 rfl) ?_
            refine st_get (i0 := 0) hx hb hts iX7_loadFirst_X7 hown hP hK hk (by decide) rfl rfl 2 (by decide) hk_f28 rfl dX7_loadFirst_77 ?_
            refine st_get (i0 := 3) hx hb hts iX7_loadFirst_X1 hown hP hK hk (by decide) rfl rfl 6 (by decide) hk_f155 rfl dX7_loadFirst_80 ?_
            refine lv_iload hx hb dX7_loadFirst_83 (lv_at hl 6 rfl) ?_
            refine lv_iload hx hb dX7_loadFirst_85 (lv_at hl 0 rfl) ?_
            refine st_putr hX (j := 16) (n := 16) ⟨hx, hb, hml, hown, hts⟩ hP hK hS hk (by decide) rfl hc_127 hl.1 (Nat.le_of_ble_eq_true rfl) dX7_loadFirst_87 (fun f31 ef31 H locs hP hS => ?_)
            replace ejK30 := ltn_s ef31 ejK30
            refine lv_aload_n hx hb dX7_loadFirst_90 rfl (lv_at hl 1 rfl) ?_
            refine st_get (i0 := 0) hx hb hts iX7_loadFirst_X7 hown hP hK hk (by decide) rfl rfl 4 (by decide) hk_f44 rfl dX7_loadFirst_91 ?_
            refine lv_iload_n hx hb dX7_loadFirst_94 rfl (lv_at hl 3 rfl) ?_
            refine lv_iload hx hb dX7_loadFirst_95 (lv_at hl 6 rfl) ?_
            refine st_putr hX (j := 22) (n := 16) ⟨hx, hb, hml, hown, hts⟩ hP hK hS hk (by decide) rfl hc_127 hl.1 (Nat.le_of_ble_eq_true rfl) dX7_loadFirst_97 (fun f32 ef32 H locs hP hS => ?_)
            replace ejK30 := ltn_s ef32 ejK30
            obtain ⟨x33, ex33⟩ : ∃ y : Int32, y = x4 + 1 := ⟨_, rfl⟩
            replace ejK30 := ltn_s ex33 ejK30
            refine lv_iinc (v := x33) (lv' := [(2, .int x33), (6, .int x16), (0, .ref (xa X (51*k+0))), (1, .int x3), (3, .int x5), (4, .int x6), (5, .int x12)]) hx hb dX7_loadFirst_100 hl (k := 3) rfl (by rw [ex33]; rfl) (by decide) rfl (fun ls hl => ?_)
            have ejK30 := Option.some.inj ejK30
            simp only [Prod.mk.injEq] at ejK30
            obtain ⟨rfl, rfl, rfl⟩ := ejK30
            exact K30 _ _ _ hP hS (lv_sub hl [2, 3, 0, 4, 5] rfl)
          · rw [if_pos h20] at ejK30
            refine lv_aload_n hx hb dX7_loadFirst_54 rfl (lv_at hl 1 rfl) ?_
            refine lv_iload hx hb dX7_loadFirst_55 (lv_at hl 6 rfl) ?_
            obtain ⟨f34, hc35, ejK30⟩ := ob1_e ejK30
            refine w_cv ⟨hx, hb, hml, hown, hts⟩ hP hK hS (k7_load l hX hk w hc35) hc_214 (st_recv (i0 := 0) hP hK hk (by decide) rfl rfl) rfl hl.1 rfl (Nat.le_of_ble_eq_true rfl) dX7_loadFirst_57 ⟨Nat.zero_le _, Nat.zero_le _⟩ (fun H locs hP hS => ?_)
            refine lv_aload_n hx hb dX7_loadFirst_60 rfl (lv_at hl 1 rfl) ?_
            refine st_get (i0 := 0) hx hb hts iX7_loadFirst_X7 hown hP hK hk (by decide) rfl rfl 2 (by decide) hk_f28 rfl dX7_loadFirst_61 ?_
            refine st_get (i0 := 3) hx hb hts iX7_loadFirst_X1 hown hP hK hk (by decide) rfl rfl 3 (by decide) hk_f149 rfl dX7_loadFirst_64 ?_
            refine lv_iload hx hb dX7_loadFirst_67 (lv_at hl 6 rfl) ?_
            refine st_at (j := 13) (n := 16) ⟨hx, hb, hml, hown, hts⟩ hP hK hS hk (by decide) rfl hc_104 hl.1 (Nat.le_of_ble_eq_true rfl) dX7_loadFirst_69 (fun H locs hP hS => ?_)
            refine lv_topi (fun x36 ex36 => ?_)
            replace ejK30 := ltn_s ex36 ejK30
            refine lv_istore_n (lv' := [(3, .int x36), (6, .int x16), (0, .ref (xa X (51*k+0))), (1, .int x3), (2, .int x4), (4, .int x6), (5, .int x12)]) hx hb dX7_loadFirst_72 rfl hl (by decide) rfl (fun ls hl => ?_)
            refine lv_goto (tgt := 103) hx hb dX7_loadFirst_73 (by decide) ?_
            have ejK30 := Option.some.inj ejK30
            simp only [Prod.mk.injEq] at ejK30
            obtain ⟨rfl, rfl, rfl⟩ := ejK30
            exact K30 _ _ _ hP hS (lv_sub hl [2, 3, 4, 0, 5] rfl)
        clear hf
        refine lv_if_le (tgt := 37) hx hb dX7_loadFirst_30 (by decide) (fun h13 => ?_) (fun h13 => ?_)
        · rw [if_pos h13] at ejK17
          refine lv_aload_n hx hb dX7_loadFirst_37 rfl (lv_at hl 1 rfl) ?_
          refine lv_iload hx hb dX7_loadFirst_38 (lv_at hl 0 rfl) ?_
          refine lv_aload_n hx hb dX7_loadFirst_40 rfl (lv_at hl 1 rfl) ?_
          refine st_get (i0 := 0) hx hb hts iX7_loadFirst_X7 hown hP hK hk (by decide) rfl rfl 6 (by decide) hk_f68 rfl dX7_loadFirst_41 ?_
          obtain ⟨x18, hc19, ejK17⟩ := ob1_e ejK17
          refine w_ci ⟨hx, hb, hml, hown, hts⟩ hP hK hS (k7_reasonAt l hX hk w hc19) hc_210 (st_recv (i0 := 0) hP hK hk (by decide) rfl rfl) rfl hl.1 rfl (Nat.le_of_ble_eq_true rfl) dX7_loadFirst_44 ⟨Nat.zero_le _, Nat.zero_le _⟩ (fun H locs hP hS => ?_)
          have ejK17 := Option.some.inj ejK17
          obtain rfl := ejK17
          exact K17 _ _ _ hP hS (lv_sub hl [1, 2, 3, 4, 5, 0] rfl)
        · rw [if_neg h13] at ejK17
          refine lv_iconst (v := 1) hx hb dX7_loadFirst_33 (by decide) ?_
          refine lv_goto (tgt := 47) hx hb dX7_loadFirst_34 (by decide) ?_
          have ejK17 := Option.some.inj ejK17
          obtain rfl := ejK17
          exact K17 _ _ _ hP hS (lv_sub hl [1, 2, 3, 4, 5, 0] rfl)
  obtain ⟨x38, x39, f40, hc41, hf⟩ := ob3_e hf
  refine L12 N x1 0 0 0 f0 x38 x39 f40 _ _ _ hc41 hP hS (lv_sub hl [4, 3, 2, 1, 0] rfl) (fun H locs ls hP hS hl => ?_)
  refine lv_aload_n hx hb dX7_loadFirst_109 rfl (lv_at hl 0 rfl) ?_
  refine lv_iload_n hx hb dX7_loadFirst_110 rfl (lv_at hl 1 rfl) ?_
  refine st_put (i0 := 0) hx hb hts iX7_loadFirst_X7 tyX7 tyX7_ok nmX7 hown hX hP hK hS hk (by decide) rfl rfl 5 (by decide) hk_f64 rfl rfl (Nat.le_of_ble_eq_true rfl) es_3 dX7_loadFirst_111 (fun f42 ef42 H locs hP hS => ?_)
  replace hf := ltn_s ef42 hf
  refine lv_iload_n hx hb dX7_loadFirst_114 rfl (lv_at hl 2 rfl) ?_
  have hf := Option.some.inj hf
  simp only [Prod.mk.injEq] at hf
  obtain ⟨rfl, rfl⟩ := hf
  rw [hQ]
  exact w_iret hx hb hr hlocks hP hK hS dX7_loadFirst_115 rfl rfl
abbrev rmX7_passTicks : Room := { frames := 4, cells := 0, slots := 0, locals := 97 }
theorem iX7_passTicks_X7 : ∀ w ∈ wsX70, w ∈ wsX7_passTicks := by decide +kernel
set_option maxHeartbeats 4000000 in
set_option maxRecDepth 100000 in
theorem k7_passTicks (l : Launch) {X : bkX} {b0 : Nat} (hX : XO X b0) {k : Nat} (hk : k < 6) (w : bkW) {N : Nat} {f0 : bkA} {a1 : Int32} {res9 : Int32} {f9 : bkA} (hf : m7_passTicks N f0 a1 = some (res9, f9)) : cI l yX7_passTicks wsX7_passTicks rmX7_passTicks X b0 [.ref (xa X (51*k+0)), .int a1] (pk w k f0) res9 (pk w k f9) := by
  refine Met.ofW (cc := cX7_passTicks) (maxL := 6) (ret := (some .int)) (by decide) rfl ?_
  intro p e s m args below meth c s₁ B hml hv
  obtain ⟨ha, hP, hK⟩ := hv
  have hx := B.exec
  have hb := B.bytes
  have hr := B.returns
  have hts := atoms_spec (ws := wsX7_passTicks) B.pre
  have hown : s.vm.findClass RX7 = some m.cls := findClass_of_methodNamed B.named
  have hlocks := B.notSynchronized
  obtain ⟨R, hR⟩ : ∃ R, R = (headSpec wsX7_passTicks rmX7_passTicks).room := ⟨_, rfl⟩
  rw [← hR]
  have hR1 : R.frames = 4 := by rw [hR]; rfl
  have hR2 : R.locals = 97 := by rw [hR]; rfl
  obtain ⟨Q, hQ⟩ : ∃ Q : State → Prop, Q = MQ below (va_Qi (fun r' (_ : Unit) => r' = res9) (fun _ t => WU X (pk w k f9) t) (xF b0)) args s 0 0 (xF b0) := ⟨_, rfl⟩
  rw [← hQ]
  have hS : va_S (xF b0) s.heap s.heap [] := va_S.rf
  have hl := lv_entry ([.ref (xa X (51*k+0)), .int a1]) (n := 6) (Nat.le_of_ble_eq_true rfl)
  refine W.eq ((congrArg (fun z => entryFrame m z 6) ha).trans (lg_entry_eq m _ 6)) ?_
  generalize (lg_sl ([.ref (xa X (51*k+0)), .int a1]) ++ List.replicate (6 - (lg_sl ([.ref (xa X (51*k+0)), .int a1])).length) Slot.unset).toArray = ls at hl ⊢
  have hl : lv_has ls 6 [(0, .ref (xa X (51*k+0))), (1, .int a1)] := hl
  have hc_195 := (cwV 0 hts gX7_passTicks_X7_growOlder rfl rfl rfl (by decide +kernel) ⟨by rw [hR1]; exact Nat.le_of_ble_eq_true rfl, by rw [hR2]; exact Nat.le_of_ble_eq_true rfl⟩ : CallW R s args RX7 RX7 195 yX7_growOlder cX7_growOlder 6 none wsX7_growOlder rmX7_growOlder 0 0 0)
  have hc_198 := (cwV 0 hts gX7_passTicks_X7_loadFirst rfl rfl rfl (by decide +kernel) ⟨by rw [hR1]; exact Nat.le_of_ble_eq_true rfl, by rw [hR2]; exact Nat.le_of_ble_eq_true rfl⟩ : CallW R s args RX7 RX7 198 yX7_loadFirst cX7_loadFirst 7 (some .int) wsX7_loadFirst rmX7_loadFirst 0 0 0)
  have hc_201 := (cwV 0 hts gX7_passTicks_X7_heatLoaves rfl rfl rfl (by decide +kernel) ⟨by rw [hR1]; exact Nat.le_of_ble_eq_true rfl, by rw [hR2]; exact Nat.le_of_ble_eq_true rfl⟩ : CallW R s args RX7 RX7 201 yX7_heatLoaves cX7_heatLoaves 5 none wsX7_heatLoaves rmX7_heatLoaves 0 0 0)
  have hc_204 := (cwV 0 hts gX7_passTicks_X7_takeOutDone rfl rfl rfl (by decide +kernel) ⟨by rw [hR1]; exact Nat.le_of_ble_eq_true rfl, by rw [hR2]; exact Nat.le_of_ble_eq_true rfl⟩ : CallW R s args RX7 RX7 204 yX7_takeOutDone cX7_takeOutDone 3 (some .int) wsX7_takeOutDone rmX7_takeOutDone 0 0 0)
  have hc_207 := (cwV 2 hts gX7_passTicks_X7_coolDown rfl rfl rfl (by decide +kernel) ⟨by rw [hR1]; exact Nat.le_of_ble_eq_true rfl, by rw [hR2]; exact Nat.le_of_ble_eq_true rfl⟩ : CallW R s args RX7 RX7 207 yX7_coolDown cX7_coolDown 5 none wsX7_coolDown rmX7_coolDown 0 0 2)
  have hk_f71 := hts (.fieldLink RX7 71 "BakeTurns$State" "ticks" "I") (by decide +kernel)
  unfold m7_passTicks at hf
  refine lv_iconst (v := 0) hx hb dX7_passTicks_0 (by decide) ?_
  refine lv_istore_n (lv' := [(2, .int 0), (0, .ref (xa X (51*k+0))), (1, .int a1)]) hx hb dX7_passTicks_1 rfl hl (by decide) rfl (fun ls hl => ?_)
  refine lv_iconst (v := 0) hx hb dX7_passTicks_2 (by decide) ?_
  refine lv_istore_n (lv' := [(3, .int 0), (2, .int 0), (0, .ref (xa X (51*k+0))), (1, .int a1)]) hx hb dX7_passTicks_3 rfl hl (by decide) rfl (fun ls hl => ?_)
  have L4 : ∀ (n : Nat) (x2 : Int32) (x3 : Int32) (x4 : Int32) (f5 : bkA) (o6 : Int32) (of7 : bkA) (H : Heap) (locs : List Loc) (ls : Array Slot), m7_passTicks_L4 N n x2 x3 x4 f5 = some (o6, of7) → HW X (pk w k f5) H → va_S (xF b0) s.heap H locs → lv_has ls 6 [(0, .ref (xa X (51*k+0))), (1, .int x2), (2, .int x3), (3, .int x4)] → (∀ (H1 : Heap) (locs1 : List Loc) (ls1 : Array Slot), HW X (pk w k of7) H1 → va_S (xF b0) s.heap H1 locs1 → lv_has ls1 6 [(2, .int o6)] → W p l e R s m args below meth c H1 locs1 0 0 Q (F0 m 58 ls1 [])) → W p l e R s m args below meth c H locs 0 0 Q (F0 m 4 ls []) := by
    intro n; induction n with
    | zero => intro x2 x3 x4 f5 o6 of7 H locs ls hf; rw [m7_passTicks_L4] at hf; cases hf
    | succ n ih =>
      intro x2 x3 x4 f5 o6 of7 H locs ls hf hP hS hl K
      rw [m7_passTicks_L4] at hf
      refine lv_iload_n hx hb dX7_passTicks_4 rfl (lv_at hl 3 rfl) ?_
      refine lv_iload_n hx hb dX7_passTicks_5 rfl (lv_at hl 1 rfl) ?_
      refine lv_icmp_ge (tgt := 58) hx hb dX7_passTicks_6 (by decide) (fun h8 => ?_) (fun h8 => ?_)
      · rw [if_pos h8] at hf
        have hf := Option.some.inj hf
        simp only [Prod.mk.injEq] at hf
        obtain ⟨rfl, rfl⟩ := hf
        exact K _ _ _ hP hS (lv_sub hl [2] rfl)
      · rw [if_neg h8] at hf
        refine lv_aload_n hx hb dX7_passTicks_9 rfl (lv_at hl 0 rfl) ?_
        obtain ⟨f9, hc10, hf⟩ := ob1_e hf
        refine w_cv ⟨hx, hb, hml, hown, hts⟩ hP hK hS (k7_growOlder l hX hk w hc10) hc_195 (st_recv (i0 := 0) hP hK hk (by decide) rfl rfl) rfl hl.1 rfl (Nat.le_of_ble_eq_true rfl) dX7_passTicks_10 ⟨Nat.zero_le _, Nat.zero_le _⟩ (fun H locs hP hS => ?_)
        refine lv_aload_n hx hb dX7_passTicks_13 rfl (lv_at hl 0 rfl) ?_
        obtain ⟨x11, f12, hc13, hf⟩ := ob2_e hf
        refine w_ci ⟨hx, hb, hml, hown, hts⟩ hP hK hS (k7_loadFirst l hX hk w hc13) hc_198 (st_recv (i0 := 0) hP hK hk (by decide) rfl rfl) rfl hl.1 rfl (Nat.le_of_ble_eq_true rfl) dX7_passTicks_14 ⟨Nat.zero_le _, Nat.zero_le _⟩ (fun H locs hP hS => ?_)
        refine lv_istore (lv' := [(4, .int x11), (0, .ref (xa X (51*k+0))), (1, .int x2), (2, .int x3), (3, .int x4)]) hx hb dX7_passTicks_17 hl (by decide) rfl (fun ls hl => ?_)
        refine lv_aload_n hx hb dX7_passTicks_19 rfl (lv_at hl 1 rfl) ?_
        obtain ⟨f14, hc15, hf⟩ := ob1_e hf
        refine w_cv ⟨hx, hb, hml, hown, hts⟩ hP hK hS (k7_heatLoaves l hX hk w hc15) hc_201 (st_recv (i0 := 0) hP hK hk (by decide) rfl rfl) rfl hl.1 rfl (Nat.le_of_ble_eq_true rfl) dX7_passTicks_20 ⟨Nat.zero_le _, Nat.zero_le _⟩ (fun H locs hP hS => ?_)
        refine lv_aload_n hx hb dX7_passTicks_23 rfl (lv_at hl 1 rfl) ?_
        obtain ⟨x16, f17, hc18, hf⟩ := ob2_e hf
        refine w_ci ⟨hx, hb, hml, hown, hts⟩ hP hK hS (k7_takeOutDone l hX hk w hc18) hc_204 (st_recv (i0 := 0) hP hK hk (by decide) rfl rfl) rfl hl.1 rfl (Nat.le_of_ble_eq_true rfl) dX7_passTicks_24 ⟨Nat.zero_le _, Nat.zero_le _⟩ (fun H locs hP hS => ?_)
        refine lv_istore (lv' := [(5, .int x16), (4, .int x11), (0, .ref (xa X (51*k+0))), (1, .int x2), (2, .int x3), (3, .int x4)]) hx hb dX7_passTicks_27 hl (by decide) rfl (fun ls hl => ?_)
        refine lv_aload_n hx hb dX7_passTicks_29 rfl (lv_at hl 2 rfl) ?_
        refine lv_iload hx hb dX7_passTicks_30 (lv_at hl 1 rfl) ?_
        refine lv_iload hx hb dX7_passTicks_32 (lv_at hl 0 rfl) ?_
        obtain ⟨f19, hc20, hf⟩ := lt1_e hf
        refine w_cv ⟨hx, hb, hml, hown, hts⟩ hP hK hS (k7_coolDown l hX hk w hc20) hc_207 (st_recv (i0 := 0) hP hK hk (by decide) rfl rfl) rfl hl.1 rfl (Nat.le_of_ble_eq_true rfl) dX7_passTicks_34 ⟨Nat.zero_le _, Nat.zero_le _⟩ (fun H locs hP hS => ?_)
        refine lv_aload_n hx hb dX7_passTicks_37 rfl (lv_at hl 2 rfl) ?_
        refine lv_dup hx hb dX7_passTicks_38 rfl ?_
        refine st_get (i0 := 0) hx hb hts iX7_passTicks_X7 hown hP hK hk (by decide) rfl rfl 7 (by decide) hk_f71 rfl dX7_passTicks_39 ?_
        refine lv_iconst (v := 1) hx hb dX7_passTicks_42 (by decide) ?_
        refine lv_iadd hx hb dX7_passTicks_43 ?_
        refine st_put (i0 := 0) hx hb hts iX7_passTicks_X7 tyX7 tyX7_ok nmX7 hown hX hP hK hS hk (by decide) rfl rfl 7 (by decide) hk_f71 rfl rfl (Nat.le_of_ble_eq_true rfl) es_5 dX7_passTicks_44 (fun f21 ef21 H locs hP hS => ?_)
        replace hf := ltn_s ef21 hf
        refine lv_iload_n hx hb dX7_passTicks_47 rfl (lv_at hl 4 rfl) ?_
        refine lv_iload hx hb dX7_passTicks_48 (lv_at hl 0 rfl) ?_
        refine lv_iadd hx hb dX7_passTicks_50 ?_
        refine lv_topi (fun x22 ex22 => ?_)
        replace hf := ltn_s ex22 hf
        refine lv_istore_n (lv' := [(2, .int x22), (5, .int x16), (4, .int x11), (0, .ref (xa X (51*k+0))), (1, .int x2), (3, .int x4)]) hx hb dX7_passTicks_51 rfl hl (by decide) rfl (fun ls hl => ?_)
        obtain ⟨x23, ex23⟩ : ∃ y : Int32, y = x4 + 1 := ⟨_, rfl⟩
        replace hf := ltn_s ex23 hf
        refine lv_iinc (v := x23) (lv' := [(3, .int x23), (2, .int x22), (5, .int x16), (4, .int x11), (0, .ref (xa X (51*k+0))), (1, .int x2)]) hx hb dX7_passTicks_52 hl (k := 5) rfl (by rw [ex23]; rfl) (by decide) rfl (fun ls hl => ?_)
        refine lv_goto (tgt := 4) hx hb dX7_passTicks_55 (by decide) ?_
        exact ih x2 x22 x23 f21 o6 of7 _ _ _ hf hP hS (lv_sub hl [4, 5, 1, 0] rfl) K
  obtain ⟨x24, f25, hc26, hf⟩ := ob2_e hf
  refine L4 N a1 0 0 f0 x24 f25 _ _ _ hc26 hP hS (lv_sub hl [2, 3, 1, 0] rfl) (fun H locs ls hP hS hl => ?_)
  refine lv_iload_n hx hb dX7_passTicks_58 rfl (lv_at hl 0 rfl) ?_
  have hf := Option.some.inj hf
  simp only [Prod.mk.injEq] at hf
  obtain ⟨rfl, rfl⟩ := hf
  rw [hQ]
  exact w_iret hx hb hr hlocks hP hK hS dX7_passTicks_59 rfl rfl
