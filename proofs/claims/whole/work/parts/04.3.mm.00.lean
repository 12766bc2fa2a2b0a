abbrev rmX9_thrown : Room := { frames := 0, cells := 0, slots := 0, locals := 0 }
theorem iX9_thrown_X9 : ∀ w ∈ wsX90, w ∈ wsX9_thrown := by decide +kernel
set_option maxHeartbeats 4000000 in
set_option maxRecDepth 100000 in
theorem k9_thrown (l : Launch) {X : bkX} {b0 : Nat} (hX : XO X b0) (w : bkW) {s0 : Nat → Int32} {u0 : Nat → Int32} {sv0 : Nat → Int32} {tx0 : Nat → Int32} {ow0 : Nat → Int32} {rs0 : Nat → Int64} {rn0 : Nat → Int32} {nu0 : Nat → Int32} {q0 : Nat → Int32} {res9 : Int32} (hf : m9_thrown q0 = res9) : cI l yX9_thrown wsX9_thrown rmX9_thrown X b0 [.ref (xa X 314)] (pmm w s0 u0 sv0 tx0 ow0 rs0 rn0 nu0 q0) res9 (pmm w s0 u0 sv0 tx0 ow0 rs0 rn0 nu0 q0) := by
  refine Met.ofW (cc := cX9_thrown) (maxL := 1) (ret := (some .int)) (by decide) rfl ?_
  intro p e s m args below meth c s₁ B hml hv
  obtain ⟨ha, hP, hK⟩ := hv
  have hx := B.exec
  have hb := B.bytes
  have hr := B.returns
  have hts := atoms_spec (ws := wsX9_thrown) B.pre
  have hown : s.vm.findClass RX9 = some m.cls := findClass_of_methodNamed B.named
  have hlocks := B.notSynchronized
  obtain ⟨R, hR⟩ : ∃ R, R = (headSpec wsX9_thrown rmX9_thrown).room := ⟨_, rfl⟩
  rw [← hR]
  have hR1 : R.frames = 0 := by rw [hR]; rfl
  have hR2 : R.locals = 0 := by rw [hR]; rfl
  obtain ⟨Q, hQ⟩ : ∃ Q : State → Prop, Q = MQ below (va_Qi (fun r' (_ : Unit) => r' = res9) (fun _ t => WU X (pmm w s0 u0 sv0 tx0 ow0 rs0 rn0 nu0 q0) t) (xF b0)) args s 0 0 (xF b0) := ⟨_, rfl⟩
  rw [← hQ]
  have hS : va_S (xF b0) s.heap s.heap [] := va_S.rf
  have hl := lv_entry ([.ref (xa X 314)]) (n := 1) (Nat.le_of_ble_eq_true rfl)
  refine W.eq ((congrArg (fun z => entryFrame m z 1) ha).trans (lg_entry_eq m _ 1)) ?_
  generalize (lg_sl ([.ref (xa X 314)]) ++ List.replicate (1 - (lg_sl ([.ref (xa X 314)])).length) Slot.unset).toArray = ls at hl ⊢
  have hl : lv_has ls 1 [(0, .ref (xa X 314))] := hl
  have hk_f35 := hts (.fieldLink RX9 35 "BakeTurnsModel" "thrown" "I") (by decide +kernel)
  unfold m9_thrown at hf
  refine lv_aload_n hx hb dX9_thrown_0 rfl (lv_at hl 0 rfl) ?_
  refine w_get hx hb hts iX9_thrown_X9 hown hP hK (by decide) emb_mm rfl 0 (by decide) hk_f35 rfl dX9_thrown_1 ?_
  obtain rfl := hf
  rw [hQ]
  exact w_iret hx hb hr hlocks hP hK hS dX9_thrown_4 rfl rfl
abbrev rmX9_save : Room := { frames := 0, cells := 0, slots := 0, locals := 0 }
theorem iX9_save_X9 : ∀ w ∈ wsX90, w ∈ wsX9_save := by decide +kernel
set_option maxHeartbeats 4000000 in
set_option maxRecDepth 100000 in
theorem k9_save (l : Launch) {X : bkX} {b0 : Nat} (hX : XO X b0) (w : bkW) {N : Nat} {s0 : Nat → Int32} {u0 : Nat → Int32} {sv0 : Nat → Int32} {tx0 : Nat → Int32} {ow0 : Nat → Int32} {rs0 : Nat → Int64} {rn0 : Nat → Int32} {nu0 : Nat → Int32} {q0 : Nat → Int32} {sv9 : Nat → Int32} {q9 : Nat → Int32} (hf : m9_save N s0 sv0 q0 = some (sv9, q9)) : cV l yX9_save wsX9_save rmX9_save X b0 [.ref (xa X 314)] (pmm w s0 u0 sv0 tx0 ow0 rs0 rn0 nu0 q0) (pmm w s0 u0 sv9 tx0 ow0 rs0 rn0 nu0 q9) := by
  refine Met.ofW (cc := cX9_save) (maxL := 2) (ret := none) (by decide) rfl ?_
  intro p e s m args below meth c s₁ B hml hv
  obtain ⟨ha, hP, hK⟩ := hv
  have hx := B.exec
  have hb := B.bytes
  have hr := B.returns
  have hts := atoms_spec (ws := wsX9_save) B.pre
  have hown : s.vm.findClass RX9 = some m.cls := findClass_of_methodNamed B.named
  have hlocks := B.notSynchronized
  obtain ⟨R, hR⟩ : ∃ R, R = (headSpec wsX9_save rmX9_save).room := ⟨_, rfl⟩
  rw [← hR]
  have hR1 : R.frames = 0 := by rw [hR]; rfl
  have hR2 : R.locals = 0 := by rw [hR]; rfl
  obtain ⟨Q, hQ⟩ : ∃ Q : State → Prop, Q = MQ below (va_Qv (fun (_ : Unit) => True) (fun _ t => WU X (pmm w s0 u0 sv9 tx0 ow0 rs0 rn0 nu0 q9) t) (xF b0)) args s 0 0 (xF b0) := ⟨_, rfl⟩
  rw [← hQ]
  have hS : va_S (xF b0) s.heap s.heap [] := va_S.rf
  have hl := lv_entry ([.ref (xa X 314)]) (n := 2) (Nat.le_of_ble_eq_true rfl)
  refine W.eq ((congrArg (fun z => entryFrame m z 2) ha).trans (lg_entry_eq m _ 2)) ?_
  generalize (lg_sl ([.ref (xa X 314)]) ++ List.replicate (2 - (lg_sl ([.ref (xa X 314)])).length) Slot.unset).toArray = ls at hl ⊢
  have hl : lv_has ls 2 [(0, .ref (xa X 314))] := hl
  have hk_f39 := hts (.fieldLink RX9 39 "BakeTurnsModel" "savedMany" "I") (by decide +kernel)
  have hk_f16 := hts (.fieldLink RX9 16 "BakeTurnsModel" "saved" "[I") (by decide +kernel)
  have hk_f7 := hts (.fieldLink RX9 7 "BakeTurnsModel" "s" "[I") (by decide +kernel)
  unfold m9_save at hf
  refine lv_aload_n hx hb dX9_save_0 rfl (lv_at hl 0 rfl) ?_
  refine w_get hx hb hts iX9_save_X9 hown hP hK (by decide) emb_mm rfl 4 (by decide) hk_f39 rfl dX9_save_1 ?_
  refine lv_iconst (v := 4) hx hb dX9_save_4 (by decide) ?_
  obtain ⟨sv14, q15, ejK16, hf⟩ := ob2_e hf
  have K16 : ∀ (H : Heap) (locs : List Loc) (ls : Array Slot), HW X (pmm w s0 u0 sv14 tx0 ow0 rs0 rn0 nu0 q15) H → va_S (xF b0) s.heap H locs → lv_has ls 2 [(0, .ref (xa X 314))] → W p l e R s m args below meth c H locs 0 0 Q (F0 m 49 ls []) := by
    intro H locs ls hP hS hl
    refine lv_iconst (v := 0) hx hb dX9_save_49 (by decide) ?_
    refine lv_istore_n (lv' := [(1, .int 0), (0, .ref (xa X 314))]) hx hb dX9_save_50 rfl hl (by decide) rfl (fun ls hl => ?_)
    have L51 : ∀ (n : Nat) (x30 : Int32) (sv31 : Nat → Int32) (osv32 : Nat → Int32) (H : Heap) (locs : List Loc) (ls : Array Slot), m9_save_L51 N n x30 s0 sv31 q15 = some osv32 → HW X (pmm w s0 u0 sv31 tx0 ow0 rs0 rn0 nu0 q15) H → va_S (xF b0) s.heap H locs → lv_has ls 2 [(0, .ref (xa X 314)), (1, .int x30)] → (∀ (H1 : Heap) (locs1 : List Loc) (ls1 : Array Slot), HW X (pmm w s0 u0 osv32 tx0 ow0 rs0 rn0 nu0 q15) H1 → va_S (xF b0) s.heap H1 locs1 → lv_has ls1 2 [(0, .ref (xa X 314))] → W p l e R s m args below meth c H1 locs1 0 0 Q (F0 m 85 ls1 [])) → W p l e R s m args below meth c H locs 0 0 Q (F0 m 51 ls []) := by
      intro n; induction n with
      | zero => intro x30 sv31 osv32 H locs ls hf; rw [m9_save_L51] at hf; cases hf
      | succ n ih =>
        intro x30 sv31 osv32 H locs ls hf hP hS hl K
        rw [m9_save_L51] at hf
        refine lv_iload_n hx hb dX9_save_51 rfl (lv_at hl 1 rfl) ?_
        refine lv_sipush (v := 265) hx hb dX9_save_52 (by decide) ?_
        refine lv_icmp_ge (tgt := 85) hx hb dX9_save_55 (by decide) (fun h33 => ?_) (fun h33 => ?_)
        · rw [if_pos h33] at hf
          have hf := Option.some.inj hf
          obtain rfl := hf
          exact K _ _ _ hP hS (lv_sub hl [0] rfl)
        · rw [if_neg h33] at hf
          refine lv_aload_n hx hb dX9_save_58 rfl (lv_at hl 0 rfl) ?_
          refine w_get hx hb hts iX9_save_X9 hown hP hK (by decide) emb_mm rfl 3 (by decide) hk_f16 rfl dX9_save_59 ?_
          refine lv_sipush (v := 265) hx hb dX9_save_62 (by decide) ?_
          refine lv_aload_n hx hb dX9_save_65 rfl (lv_at hl 0 rfl) ?_
          refine w_get hx hb hts iX9_save_X9 hown hP hK (by decide) emb_mm rfl 4 (by decide) hk_f39 rfl dX9_save_66 ?_
          refine lv_imul hx hb dX9_save_69 ?_
          refine lv_iload_n hx hb dX9_save_70 rfl (lv_at hl 1 rfl) ?_
          refine lv_iadd hx hb dX9_save_71 ?_
          refine lv_aload_n hx hb dX9_save_72 rfl (lv_at hl 0 rfl) ?_
          refine w_get hx hb hts iX9_save_X9 hown hP hK (by decide) emb_mm rfl 1 (by decide) hk_f7 rfl dX9_save_73 ?_
          refine lv_iload_n hx hb dX9_save_76 rfl (lv_at hl 1 rfl) ?_
          obtain ⟨hin34, hf⟩ := ck_e hf
          refine ar_ald (g := s0) hx hb AR_s rfl hP hK hin34 dX9_save_77 ?_
          obtain ⟨hin35, hf⟩ := ck_e hf
          refine ar_ast (g := sv31) hx hb hX AR_sv rfl (fun z => pmm w s0 u0 z tx0 ow0 rs0 rn0 nu0 q15) (fun z => pmm_sv) hP hK hS hin35 dX9_save_78 (fun sv36 esv36 H locs hP hS => ?_)
          replace hf := ltn_s esv36 hf
          obtain ⟨x37, ex37⟩ : ∃ y : Int32, y = x30 + 1 := ⟨_, rfl⟩
          replace hf := ltn_s ex37 hf
          refine lv_iinc (v := x37) (lv' := [(1, .int x37), (0, .ref (xa X 314))]) hx hb dX9_save_79 hl (k := 1) rfl (by rw [ex37]; rfl) (by decide) rfl (fun ls hl => ?_)
          refine lv_goto (tgt := 51) hx hb dX9_save_82 (by decide) ?_
          exact ih x37 sv36 osv32 _ _ _ hf hP hS (lv_sub hl [1, 0] rfl) K
    obtain ⟨sv38, hc39, hf⟩ := ob1_e hf
    refine L51 N 0 sv14 sv38 _ _ _ hc39 hP hS (lv_sub hl [1, 0] rfl) (fun H locs ls hP hS hl => ?_)
    refine lv_aload_n hx hb dX9_save_85 rfl (lv_at hl 0 rfl) ?_
    refine lv_dup hx hb dX9_save_86 rfl ?_
    refine w_get hx hb hts iX9_save_X9 hown hP hK (by decide) emb_mm rfl 4 (by decide) hk_f39 rfl dX9_save_87 ?_
    refine lv_iconst (v := 1) hx hb dX9_save_90 (by decide) ?_
    refine lv_iadd hx hb dX9_save_91 ?_
    refine mm_put hx hb hts iX9_save_X9 hown hX hP hK hS 4 (by decide) hk_f39 rfl rfl (Nat.le_of_ble_eq_true rfl) (mm_es1 _) dX9_save_92 (fun q40 eq40 H locs hP hS => ?_)
    replace hf := ltn_s eq40 hf
    have hf := Option.some.inj hf
    simp only [Prod.mk.injEq] at hf
    obtain ⟨rfl, rfl⟩ := hf
    rw [hQ]
    exact w_vret hx hb hr hlocks hP hK hS dX9_save_95 rfl
  clear hf
  refine lv_icmp_ne (tgt := 49) hx hb dX9_save_5 (by decide) (fun h1 => ?_) (fun h1 => ?_)
  · rw [if_neg h1] at ejK16
    have ejK16 := Option.some.inj ejK16
    simp only [Prod.mk.injEq] at ejK16
    obtain ⟨rfl, rfl⟩ := ejK16
    exact K16 _ _ _ hP hS (lv_sub hl [0] rfl)
  · rw [if_pos h1] at ejK16
    refine lv_iconst (v := 0) hx hb dX9_save_8 (by decide) ?_
    refine lv_istore_n (lv' := [(1, .int 0), (0, .ref (xa X 314))]) hx hb dX9_save_9 rfl hl (by decide) rfl (fun ls hl => ?_)
    have L10 : ∀ (n : Nat) (x18 : Int32) (sv19 : Nat → Int32) (osv20 : Nat → Int32) (H : Heap) (locs : List Loc) (ls : Array Slot), m9_save_L10 N n x18 sv19 = some osv20 → HW X (pmm w s0 u0 sv19 tx0 ow0 rs0 rn0 nu0 q0) H → va_S (xF b0) s.heap H locs → lv_has ls 2 [(0, .ref (xa X 314)), (1, .int x18)] → (∀ (H1 : Heap) (locs1 : List Loc) (ls1 : Array Slot), HW X (pmm w s0 u0 osv20 tx0 ow0 rs0 rn0 nu0 q0) H1 → va_S (xF b0) s.heap H1 locs1 → lv_has ls1 2 [(0, .ref (xa X 314))] → W p l e R s m args below meth c H1 locs1 0 0 Q (F0 m 39 ls1 [])) → W p l e R s m args below meth c H locs 0 0 Q (F0 m 10 ls []) := by
      intro n; induction n with
      | zero => intro x18 sv19 osv20 H locs ls hf; rw [m9_save_L10] at hf; cases hf
      | succ n ih =>
        intro x18 sv19 osv20 H locs ls hf hP hS hl K
        rw [m9_save_L10] at hf
        refine lv_iload_n hx hb dX9_save_10 rfl (lv_at hl 1 rfl) ?_
        refine lv_sipush (v := 795) hx hb dX9_save_11 (by decide) ?_
        refine lv_icmp_ge (tgt := 39) hx hb dX9_save_14 (by decide) (fun h21 => ?_) (fun h21 => ?_)
        · rw [if_pos h21] at hf
          have hf := Option.some.inj hf
          obtain rfl := hf
          exact K _ _ _ hP hS (lv_sub hl [0] rfl)
        · rw [if_neg h21] at hf
          refine lv_aload_n hx hb dX9_save_17 rfl (lv_at hl 0 rfl) ?_
          refine w_get hx hb hts iX9_save_X9 hown hP hK (by decide) emb_mm rfl 3 (by decide) hk_f16 rfl dX9_save_18 ?_
          refine lv_iload_n hx hb dX9_save_21 rfl (lv_at hl 1 rfl) ?_
          refine lv_aload_n hx hb dX9_save_22 rfl (lv_at hl 0 rfl) ?_
          refine w_get hx hb hts iX9_save_X9 hown hP hK (by decide) emb_mm rfl 3 (by decide) hk_f16 rfl dX9_save_23 ?_
          refine lv_iload_n hx hb dX9_save_26 rfl (lv_at hl 1 rfl) ?_
          refine lv_sipush (v := 265) hx hb dX9_save_27 (by decide) ?_
          refine lv_iadd hx hb dX9_save_30 ?_
          obtain ⟨hin22, hf⟩ := ck_e hf
          refine ar_ald (g := sv19) hx hb AR_sv rfl hP hK hin22 dX9_save_31 ?_
          obtain ⟨hin23, hf⟩ := ck_e hf
          refine ar_ast (g := sv19) hx hb hX AR_sv rfl (fun z => pmm w s0 u0 z tx0 ow0 rs0 rn0 nu0 q0) (fun z => pmm_sv) hP hK hS hin23 dX9_save_32 (fun sv24 esv24 H locs hP hS => ?_)
          replace hf := ltn_s esv24 hf
          obtain ⟨x25, ex25⟩ : ∃ y : Int32, y = x18 + 1 := ⟨_, rfl⟩
          replace hf := ltn_s ex25 hf
          refine lv_iinc (v := x25) (lv' := [(1, .int x25), (0, .ref (xa X 314))]) hx hb dX9_save_33 hl (k := 1) rfl (by rw [ex25]; rfl) (by decide) rfl (fun ls hl => ?_)
          refine lv_goto (tgt := 10) hx hb dX9_save_36 (by decide) ?_
          exact ih x25 sv24 osv20 _ _ _ hf hP hS (lv_sub hl [1, 0] rfl) K
    obtain ⟨sv26, hc27, ejK16⟩ := ob1_e ejK16
    refine L10 N 0 sv0 sv26 _ _ _ hc27 hP hS (lv_sub hl [1, 0] rfl) (fun H locs ls hP hS hl => ?_)
    refine lv_aload_n hx hb dX9_save_39 rfl (lv_at hl 0 rfl) ?_
    refine lv_dup hx hb dX9_save_40 rfl ?_
    refine w_get hx hb hts iX9_save_X9 hown hP hK (by decide) emb_mm rfl 4 (by decide) hk_f39 rfl dX9_save_41 ?_
    refine lv_iconst (v := 1) hx hb dX9_save_44 (by decide) ?_
    refine lv_isub hx hb dX9_save_45 ?_
    refine mm_put hx hb hts iX9_save_X9 hown hX hP hK hS 4 (by decide) hk_f39 rfl rfl (Nat.le_of_ble_eq_true rfl) (mm_es1 _) dX9_save_46 (fun q28 eq28 H locs hP hS => ?_)
    replace ejK16 := ltn_s eq28 ejK16
    have ejK16 := Option.some.inj ejK16
    simp only [Prod.mk.injEq] at ejK16
    obtain ⟨rfl, rfl⟩ := ejK16
    exact K16 _ _ _ hP hS (lv_sub hl [0] rfl)
abbrev rmX9_isKind : Room := { frames := 1, cells := 0, slots := 0, locals := 22 }
theorem iX9_isKind_X9 : ∀ w ∈ wsX90, w ∈ wsX9_isKind := by decide +kernel
set_option maxHeartbeats 4000000 in
set_option maxRecDepth 100000 in
theorem k9_isKind (l : Launch) {X : bkX} {b0 : Nat} (hX : XO X b0) (w : bkW) {s0 : Nat → Int32} {u0 : Nat → Int32} {sv0 : Nat → Int32} {tx0 : Nat → Int32} {ow0 : Nat → Int32} {rs0 : Nat → Int64} {rn0 : Nat → Int32} {nu0 : Nat → Int32} {q0 : Nat → Int32} {a1 : Int32} {res9 : Int32} (hf : m9_isKind s0 a1 = some res9) : cI l yX9_isKind wsX9_isKind rmX9_isKind X b0 [.ref (xa X 314), .int a1] (pmm w s0 u0 sv0 tx0 ow0 rs0 rn0 nu0 q0) res9 (pmm w s0 u0 sv0 tx0 ow0 rs0 rn0 nu0 q0) := by
  refine Met.ofW (cc := cX9_isKind) (maxL := 2) (ret := (some .boolean)) (by decide) rfl ?_
  intro p e s m args below meth c s₁ B hml hv
  obtain ⟨ha, hP, hK⟩ := hv
  have hx := B.exec
  have hb := B.bytes
  have hr := B.returns
  have hts := atoms_spec (ws := wsX9_isKind) B.pre
  have hown : s.vm.findClass RX9 = some m.cls := findClass_of_methodNamed B.named
  have hlocks := B.notSynchronized
  obtain ⟨R, hR⟩ : ∃ R, R = (headSpec wsX9_isKind rmX9_isKind).room := ⟨_, rfl⟩
  rw [← hR]
  have hR1 : R.frames = 1 := by rw [hR]; rfl
  have hR2 : R.locals = 22 := by rw [hR]; rfl
  obtain ⟨Q, hQ⟩ : ∃ Q : State → Prop, Q = MQ below (va_Qi (fun r' (_ : Unit) => r' = res9) (fun _ t => WU X (pmm w s0 u0 sv0 tx0 ow0 rs0 rn0 nu0 q0) t) (xF b0)) args s 0 0 (xF b0) := ⟨_, rfl⟩
  rw [← hQ]
  have hS : va_S (xF b0) s.heap s.heap [] := va_S.rf
  have hl := lv_entry ([.ref (xa X 314), .int a1]) (n := 2) (Nat.le_of_ble_eq_true rfl)
  refine W.eq ((congrArg (fun z => entryFrame m z 2) ha).trans (lg_entry_eq m _ 2)) ?_
  generalize (lg_sl ([.ref (xa X 314), .int a1]) ++ List.replicate (2 - (lg_sl ([.ref (xa X 314), .int a1])).length) Slot.unset).toArray = ls at hl ⊢
  have hl : lv_has ls 2 [(0, .ref (xa X 314)), (1, .int a1)] := hl
  have hk_f7 := hts (.fieldLink RX9 7 "BakeTurnsModel" "s" "[I") (by decide +kernel)
  have hc_49 := (cwS 3 hts gX9_isKind_X9_in rfl rfl rfl (by decide +kernel) ⟨by rw [hR1]; exact Nat.le_of_ble_eq_true rfl, by rw [hR2]; exact Nat.le_of_ble_eq_true rfl⟩ : CallB R s args RX9 49 yX9_in cX9_in 3 (some .boolean) wsX9_in rmX9_in 0 0 3 ∧ (Cond.static yX9_in).before args s = true)
  unfold m9_isKind at hf
  refine lv_iload_n hx hb dX9_isKind_0 rfl (lv_at hl 1 rfl) ?_
  refine lv_iconst (v := 0) hx hb dX9_isKind_1 (by decide) ?_
  refine lv_aload_n hx hb dX9_isKind_2 rfl (lv_at hl 0 rfl) ?_
  refine w_get hx hb hts iX9_isKind_X9 hown hP hK (by decide) emb_mm rfl 1 (by decide) hk_f7 rfl dX9_isKind_3 ?_
  refine lv_iconst (v := 2) hx hb dX9_isKind_6 (by decide) ?_
  obtain ⟨hin1, hf⟩ := ck_e hf
  refine ar_ald (g := s0) hx hb AR_s rfl hP hK hin1 dX9_isKind_7 ?_
  refine lv_iconst (v := 1) hx hb dX9_isKind_8 (by decide) ?_
  refine lv_isub hx hb dX9_isKind_9 ?_
  obtain ⟨x2, hc3, hf⟩ := lt1_e hf
  refine w_csi ⟨hx, hb, hml, hown, hts⟩ hP hK hS (k9_in l hX (pmm w s0 u0 sv0 tx0 ow0 rs0 rn0 nu0 q0) hc3) hc_49 rfl hl.1 rfl (Nat.le_of_ble_eq_true rfl) dX9_isKind_10 ⟨Nat.zero_le _, Nat.zero_le _⟩ (fun H locs hP hS => ?_)
  obtain ⟨hb4, hf⟩ := ckp_e hf
  have hf := Option.some.inj hf
  obtain rfl := hf
  rw [hQ]
  exact w_zret hx hb hr hlocks hP hK hS dX9_isKind_13 hb4 rfl rfl
abbrev rmX9_isHouse : Room := { frames := 1, cells := 0, slots := 0, locals := 22 }
theorem iX9_isHouse_X9 : ∀ w ∈ wsX90, w ∈ wsX9_isHouse := by decide +kernel
set_option maxHeartbeats 4000000 in
set_option maxRecDepth 100000 in
theorem k9_isHouse (l : Launch) {X : bkX} {b0 : Nat} (hX : XO X b0) (w : bkW) {s0 : Nat → Int32} {u0 : Nat → Int32} {sv0 : Nat → Int32} {tx0 : Nat → Int32} {ow0 : Nat → Int32} {rs0 : Nat → Int64} {rn0 : Nat → Int32} {nu0 : Nat → Int32} {q0 : Nat → Int32} {a1 : Int32} {res9 : Int32} (hf : m9_isHouse s0 a1 = some res9) : cI l yX9_isHouse wsX9_isHouse rmX9_isHouse X b0 [.ref (xa X 314), .int a1] (pmm w s0 u0 sv0 tx0 ow0 rs0 rn0 nu0 q0) res9 (pmm w s0 u0 sv0 tx0 ow0 rs0 rn0 nu0 q0) := by
  refine Met.ofW (cc := cX9_isHouse) (maxL := 2) (ret := (some .boolean)) (by decide) rfl ?_
  intro p e s m args below meth c s₁ B hml hv
  obtain ⟨ha, hP, hK⟩ := hv
  have hx := B.exec
  have hb := B.bytes
  have hr := B.returns
  have hts := atoms_spec (ws := wsX9_isHouse) B.pre
  have hown : s.vm.findClass RX9 = some m.cls := findClass_of_methodNamed B.named
  have hlocks := B.notSynchronized
  obtain ⟨R, hR⟩ : ∃ R, R = (headSpec wsX9_isHouse rmX9_isHouse).room := ⟨_, rfl⟩
  rw [← hR]
  have hR1 : R.frames = 1 := by rw [hR]; rfl
  have hR2 : R.locals = 22 := by rw [hR]; rfl
  obtain ⟨Q, hQ⟩ : ∃ Q : State → Prop, Q = MQ below (va_Qi (fun r' (_ : Unit) => r' = res9) (fun _ t => WU X (pmm w s0 u0 sv0 tx0 ow0 rs0 rn0 nu0 q0) t) (xF b0)) args s 0 0 (xF b0) := ⟨_, rfl⟩
  rw [← hQ]
  have hS : va_S (xF b0) s.heap s.heap [] := va_S.rf
  have hl := lv_entry ([.ref (xa X 314), .int a1]) (n := 2) (Nat.le_of_ble_eq_true rfl)
  refine W.eq ((congrArg (fun z => entryFrame m z 2) ha).trans (lg_entry_eq m _ 2)) ?_
  generalize (lg_sl ([.ref (xa X 314), .int a1]) ++ List.replicate (2 - (lg_sl ([.ref (xa X 314), .int a1])).length) Slot.unset).toArray = ls at hl ⊢
  have hl : lv_has ls 2 [(0, .ref (xa X 314)), (1, .int a1)] := hl
  have hk_f7 := hts (.fieldLink RX9 7 "BakeTurnsModel" "s" "[I") (by decide +kernel)
  have hc_49 := (cwS 3 hts gX9_isHouse_X9_in rfl rfl rfl (by decide +kernel) ⟨by rw [hR1]; exact Nat.le_of_ble_eq_true rfl, by rw [hR2]; exact Nat.le_of_ble_eq_true rfl⟩ : CallB R s args RX9 49 yX9_in cX9_in 3 (some .boolean) wsX9_in rmX9_in 0 0 3 ∧ (Cond.static yX9_in).before args s = true)
  unfold m9_isHouse at hf
  refine lv_iload_n hx hb dX9_isHouse_0 rfl (lv_at hl 1 rfl) ?_
  refine lv_iconst (v := 0) hx hb dX9_isHouse_1 (by decide) ?_
  refine lv_aload_n hx hb dX9_isHouse_2 rfl (lv_at hl 0 rfl) ?_
  refine w_get hx hb hts iX9_isHouse_X9 hown hP hK (by decide) emb_mm rfl 1 (by decide) hk_f7 rfl dX9_isHouse_3 ?_
  refine lv_iconst (v := 3) hx hb dX9_isHouse_6 (by decide) ?_
  obtain ⟨hin1, hf⟩ := ck_e hf
  refine ar_ald (g := s0) hx hb AR_s rfl hP hK hin1 dX9_isHouse_7 ?_
  refine lv_iconst (v := 1) hx hb dX9_isHouse_8 (by decide) ?_
  refine lv_isub hx hb dX9_isHouse_9 ?_
  obtain ⟨x2, hc3, hf⟩ := lt1_e hf
  refine w_csi ⟨hx, hb, hml, hown, hts⟩ hP hK hS (k9_in l hX (pmm w s0 u0 sv0 tx0 ow0 rs0 rn0 nu0 q0) hc3) hc_49 rfl hl.1 rfl (Nat.le_of_ble_eq_true rfl) dX9_isHouse_10 ⟨Nat.zero_le _, Nat.zero_le _⟩ (fun H locs hP hS => ?_)
  obtain ⟨hb4, hf⟩ := ckp_e hf
  have hf := Option.some.inj hf
  obtain rfl := hf
  rw [hQ]
  exact w_zret hx hb hr hlocks hP hK hS dX9_isHouse_13 hb4 rfl rfl
abbrev rmX9_isDough : Room := { frames := 1, cells := 0, slots := 0, locals := 22 }
theorem iX9_isDough_X9 : ∀ w ∈ wsX90, w ∈ wsX9_isDough := by decide +kernel
set_option maxHeartbeats 4000000 in
set_option maxRecDepth 100000 in
theorem k9_isDough (l : Launch) {X : bkX} {b0 : Nat} (hX : XO X b0) (w : bkW) {s0 : Nat → Int32} {u0 : Nat → Int32} {sv0 : Nat → Int32} {tx0 : Nat → Int32} {ow0 : Nat → Int32} {rs0 : Nat → Int64} {rn0 : Nat → Int32} {nu0 : Nat → Int32} {q0 : Nat → Int32} {a1 : Int32} {res9 : Int32} (hf : m9_isDough s0 a1 = some res9) : cI l yX9_isDough wsX9_isDough rmX9_isDough X b0 [.ref (xa X 314), .int a1] (pmm w s0 u0 sv0 tx0 ow0 rs0 rn0 nu0 q0) res9 (pmm w s0 u0 sv0 tx0 ow0 rs0 rn0 nu0 q0) := by
  refine Met.ofW (cc := cX9_isDough) (maxL := 2) (ret := (some .boolean)) (by decide) rfl ?_
  intro p e s m args below meth c s₁ B hml hv
  obtain ⟨ha, hP, hK⟩ := hv
  have hx := B.exec
  have hb := B.bytes
  have hr := B.returns
  have hts := atoms_spec (ws := wsX9_isDough) B.pre
  have hown : s.vm.findClass RX9 = some m.cls := findClass_of_methodNamed B.named
  have hlocks := B.notSynchronized
  obtain ⟨R, hR⟩ : ∃ R, R = (headSpec wsX9_isDough rmX9_isDough).room := ⟨_, rfl⟩
  rw [← hR]
  have hR1 : R.frames = 1 := by rw [hR]; rfl
  have hR2 : R.locals = 22 := by rw [hR]; rfl
  obtain ⟨Q, hQ⟩ : ∃ Q : State → Prop, Q = MQ below (va_Qi (fun r' (_ : Unit) => r' = res9) (fun _ t => WU X (pmm w s0 u0 sv0 tx0 ow0 rs0 rn0 nu0 q0) t) (xF b0)) args s 0 0 (xF b0) := ⟨_, rfl⟩
  rw [← hQ]
  have hS : va_S (xF b0) s.heap s.heap [] := va_S.rf
  have hl := lv_entry ([.ref (xa X 314), .int a1]) (n := 2) (Nat.le_of_ble_eq_true rfl)
  refine W.eq ((congrArg (fun z => entryFrame m z 2) ha).trans (lg_entry_eq m _ 2)) ?_
  generalize (lg_sl ([.ref (xa X 314), .int a1]) ++ List.replicate (2 - (lg_sl ([.ref (xa X 314), .int a1])).length) Slot.unset).toArray = ls at hl ⊢
  have hl : lv_has ls 2 [(0, .ref (xa X 314)), (1, .int a1)] := hl
  have hk_f7 := hts (.fieldLink RX9 7 "BakeTurnsModel" "s" "[I") (by decide +kernel)
  have hc_49 := (cwS 3 hts gX9_isDough_X9_in rfl rfl rfl (by decide +kernel) ⟨by rw [hR1]; exact Nat.le_of_ble_eq_true rfl, by rw [hR2]; exact Nat.le_of_ble_eq_true rfl⟩ : CallB R s args RX9 49 yX9_in cX9_in 3 (some .boolean) wsX9_in rmX9_in 0 0 3 ∧ (Cond.static yX9_in).before args s = true)
  unfold m9_isDough at hf
  refine lv_iload_n hx hb dX9_isDough_0 rfl (lv_at hl 1 rfl) ?_
  refine lv_iconst (v := 0) hx hb dX9_isDough_1 (by decide) ?_
  refine lv_aload_n hx hb dX9_isDough_2 rfl (lv_at hl 0 rfl) ?_
  refine w_get hx hb hts iX9_isDough_X9 hown hP hK (by decide) emb_mm rfl 1 (by decide) hk_f7 rfl dX9_isDough_3 ?_
  refine lv_iconst (v := 4) hx hb dX9_isDough_6 (by decide) ?_
  obtain ⟨hin1, hf⟩ := ck_e hf
  refine ar_ald (g := s0) hx hb AR_s rfl hP hK hin1 dX9_isDough_7 ?_
  refine lv_iconst (v := 1) hx hb dX9_isDough_8 (by decide) ?_
  refine lv_isub hx hb dX9_isDough_9 ?_
  obtain ⟨x2, hc3, hf⟩ := lt1_e hf
  refine w_csi ⟨hx, hb, hml, hown, hts⟩ hP hK hS (k9_in l hX (pmm w s0 u0 sv0 tx0 ow0 rs0 rn0 nu0 q0) hc3) hc_49 rfl hl.1 rfl (Nat.le_of_ble_eq_true rfl) dX9_isDough_10 ⟨Nat.zero_le _, Nat.zero_le _⟩ (fun H locs hP hS => ?_)
  obtain ⟨hb4, hf⟩ := ckp_e hf
  have hf := Option.some.inj hf
  obtain rfl := hf
  rw [hQ]
  exact w_zret hx hb hr hlocks hP hK hS dX9_isDough_13 hb4 rfl rfl
abbrev rmX9_passNow : Room := { frames := 6, cells := 0, slots := 0, locals := 139 }
theorem iX9_passNow_X9 : ∀ w ∈ wsX90, w ∈ wsX9_passNow := by decide +kernel
set_option maxHeartbeats 4000000 in
set_option maxRecDepth 100000 in
theorem k9_passNow (l : Launch) {X : bkX} {b0 : Nat} (hX : XO X b0) (w : bkW) {N : Nat} {s0 : Nat → Int32} {u0 : Nat → Int32} {sv0 : Nat → Int32} {tx0 : Nat → Int32} {ow0 : Nat → Int32} {rs0 : Nat → Int64} {rn0 : Nat → Int32} {nu0 : Nat → Int32} {q0 : Nat → Int32} {a1 : Int32} {res9 : Int32} {s9 : Nat → Int32} (hf : m9_passNow N s0 a1 = some (res9, s9)) : cI l yX9_passNow wsX9_passNow rmX9_passNow X b0 [.ref (xa X 314), .int a1] (pmm w s0 u0 sv0 tx0 ow0 rs0 rn0 nu0 q0) res9 (pmm w s9 u0 sv0 tx0 ow0 rs0 rn0 nu0 q0) := by
  refine Met.ofW (cc := cX9_passNow) (maxL := 4) (ret := (some .int)) (by decide) rfl ?_
  intro p e s m args below meth c s₁ B hml hv
  obtain ⟨ha, hP, hK⟩ := hv
  have hx := B.exec
  have hb := B.bytes
  have hr := B.returns
  have hts := atoms_spec (ws := wsX9_passNow) B.pre
  have hown : s.vm.findClass RX9 = some m.cls := findClass_of_methodNamed B.named
  have hlocks := B.notSynchronized
  obtain ⟨R, hR⟩ : ∃ R, R = (headSpec wsX9_passNow rmX9_passNow).room := ⟨_, rfl⟩
  rw [← hR]
  have hR1 : R.frames = 6 := by rw [hR]; rfl
  have hR2 : R.locals = 139 := by rw [hR]; rfl
  obtain ⟨Q, hQ⟩ : ∃ Q : State → Prop, Q = MQ below (va_Qi (fun r' (_ : Unit) => r' = res9) (fun _ t => WU X (pmm w s9 u0 sv0 tx0 ow0 rs0 rn0 nu0 q0) t) (xF b0)) args s 0 0 (xF b0) := ⟨_, rfl⟩
  rw [← hQ]
  have hS : va_S (xF b0) s.heap s.heap [] := va_S.rf
  have hl := lv_entry ([.ref (xa X 314), .int a1]) (n := 4) (Nat.le_of_ble_eq_true rfl)
  refine W.eq ((congrArg (fun z => entryFrame m z 4) ha).trans (lg_entry_eq m _ 4)) ?_
  generalize (lg_sl ([.ref (xa X 314), .int a1]) ++ List.replicate (4 - (lg_sl ([.ref (xa X 314), .int a1])).length) Slot.unset).toArray = ls at hl ⊢
  have hl : lv_has ls 4 [(0, .ref (xa X 314)), (1, .int a1)] := hl
  have hk_f7 := hts (.fieldLink RX9 7 "BakeTurnsModel" "s" "[I") (by decide +kernel)
  have hc_105 := (cwS 1 hts gX9_passNow_X9_tick rfl rfl rfl (by decide +kernel) ⟨by rw [hR1]; exact Nat.le_of_ble_eq_true rfl, by rw [hR2]; exact Nat.le_of_ble_eq_true rfl⟩ : CallB R s args RX9 105 yX9_tick cX9_tick 5 (some .int) wsX9_tick rmX9_tick 0 0 1 ∧ (Cond.static yX9_tick).before args s = true)
  unfold m9_passNow at hf
  refine lv_iconst (v := 0) hx hb dX9_passNow_0 (by decide) ?_
  refine lv_istore_n (lv' := [(2, .int 0), (0, .ref (xa X 314)), (1, .int a1)]) hx hb dX9_passNow_1 rfl hl (by decide) rfl (fun ls hl => ?_)
  refine lv_iconst (v := 0) hx hb dX9_passNow_2 (by decide) ?_
  refine lv_istore_n (lv' := [(3, .int 0), (2, .int 0), (0, .ref (xa X 314)), (1, .int a1)]) hx hb dX9_passNow_3 rfl hl (by decide) rfl (fun ls hl => ?_)
  have L4 : ∀ (n : Nat) (x2 : Int32) (x3 : Int32) (x4 : Int32) (s5 : Nat → Int32) (o6 : Int32) (os7 : Nat → Int32) (H : Heap) (locs : List Loc) (ls : Array Slot), m9_passNow_L4 N n x2 x3 x4 s5 = some (o6, os7) → HW X (pmm w s5 u0 sv0 tx0 ow0 rs0 rn0 nu0 q0) H → va_S (xF b0) s.heap H locs → lv_has ls 4 [(0, .ref (xa X 314)), (1, .int x2), (2, .int x3), (3, .int x4)] → (∀ (H1 : Heap) (locs1 : List Loc) (ls1 : Array Slot), HW X (pmm w os7 u0 sv0 tx0 ow0 rs0 rn0 nu0 q0) H1 → va_S (xF b0) s.heap H1 locs1 → lv_has ls1 4 [(2, .int o6)] → W p l e R s m args below meth c H1 locs1 0 0 Q (F0 m 25 ls1 [])) → W p l e R s m args below meth c H locs 0 0 Q (F0 m 4 ls []) := by
    intro n; induction n with
    | zero => intro x2 x3 x4 s5 o6 os7 H locs ls hf; rw [m9_passNow_L4] at hf; cases hf
    | succ n ih =>
      intro x2 x3 x4 s5 o6 os7 H locs ls hf hP hS hl K
      rw [m9_passNow_L4] at hf
      refine lv_iload_n hx hb dX9_passNow_4 rfl (lv_at hl 3 rfl) ?_
      refine lv_iload_n hx hb dX9_passNow_5 rfl (lv_at hl 1 rfl) ?_
      refine lv_icmp_ge (tgt := 25) hx hb dX9_passNow_6 (by decide) (fun h8 => ?_) (fun h8 => ?_)
      · rw [if_pos h8] at hf
        have hf := Option.some.inj hf
        simp only [Prod.mk.injEq] at hf
        obtain ⟨rfl, rfl⟩ := hf
        exact K _ _ _ hP hS (lv_sub hl [2] rfl)
      · rw [if_neg h8] at hf
        refine lv_iload_n hx hb dX9_passNow_9 rfl (lv_at hl 2 rfl) ?_
        refine lv_aload_n hx hb dX9_passNow_10 rfl (lv_at hl 0 rfl) ?_
        refine w_get hx hb hts iX9_passNow_X9 hown hP hK (by decide) emb_mm rfl 1 (by decide) hk_f7 rfl dX9_passNow_11 ?_
        obtain ⟨x9, s10, hc11, hf⟩ := ob2_e hf
        refine w_csi ⟨hx, hb, hml, hown, hts⟩ hP hK hS (by have hM := k9_tick l hX AR_s (pmm w s5 u0 sv0 tx0 ow0 rs0 rn0 nu0 q0) hc11; simp only [pmm_s] at hM; exact hM) hc_105 rfl hl.1 rfl (Nat.le_of_ble_eq_true rfl) dX9_passNow_14 ⟨Nat.zero_le _, Nat.zero_le _⟩ (fun H locs hP hS => ?_)
        refine lv_iadd hx hb dX9_passNow_17 ?_
        refine lv_topi (fun x12 ex12 => ?_)
        replace hf := ltn_s ex12 hf
        refine lv_istore_n (lv' := [(2, .int x12), (0, .ref (xa X 314)), (1, .int x2), (3, .int x4)]) hx hb dX9_passNow_18 rfl hl (by decide) rfl (fun ls hl => ?_)
        obtain ⟨x13, ex13⟩ : ∃ y : Int32, y = x4 + 1 := ⟨_, rfl⟩
        replace hf := ltn_s ex13 hf
        refine lv_iinc (v := x13) (lv' := [(3, .int x13), (2, .int x12), (0, .ref (xa X 314)), (1, .int x2)]) hx hb dX9_passNow_19 hl (k := 3) rfl (by rw [ex13]; rfl) (by decide) rfl (fun ls hl => ?_)
        refine lv_goto (tgt := 4) hx hb dX9_passNow_22 (by decide) ?_
        exact ih x2 x12 x13 s10 o6 os7 _ _ _ hf hP hS (lv_sub hl [2, 3, 1, 0] rfl) K
  obtain ⟨x14, s15, hc16, hf⟩ := ob2_e hf
  refine L4 N a1 0 0 s0 x14 s15 _ _ _ hc16 hP hS (lv_sub hl [2, 3, 1, 0] rfl) (fun H locs ls hP hS hl => ?_)
  refine lv_iload_n hx hb dX9_passNow_25 rfl (lv_at hl 0 rfl) ?_
  have hf := Option.some.inj hf
  simp only [Prod.mk.injEq] at hf
  obtain ⟨rfl, rfl⟩ := hf
  rw [hQ]
  exact w_iret hx hb hr hlocks hP hK hS dX9_passNow_26 rfl rfl
abbrev rmX9_kindCode : Room := { frames := 1, cells := 0, slots := 0, locals := 22 }
theorem iX9_kindCode_X9 : ∀ w ∈ wsX90, w ∈ wsX9_kindCode := by decide +kernel
set_option maxHeartbeats 4000000 in
set_option maxRecDepth 100000 in
theorem k9_kindCode (l : Launch) {X : bkX} {b0 : Nat} (hX : XO X b0) (w : bkW) {s0 : Nat → Int32} {u0 : Nat → Int32} {sv0 : Nat → Int32} {tx0 : Nat → Int32} {ow0 : Nat → Int32} {rs0 : Nat → Int64} {rn0 : Nat → Int32} {nu0 : Nat → Int32} {q0 : Nat → Int32} {a1 : Int32} {a2 : Int32} {a3 : Int32} {a4 : Int32} {a5 : Int32} {res9 : Int32} (hf : m9_kindCode s0 a1 a2 a3 a4 a5 = some res9) : cI l yX9_kindCode wsX9_kindCode rmX9_kindCode X b0 [.ref (xa X 314), .int a1, .int a2, .int a3, .int a4, .int a5] (pmm w s0 u0 sv0 tx0 ow0 rs0 rn0 nu0 q0) res9 (pmm w s0 u0 sv0 tx0 ow0 rs0 rn0 nu0 q0) := by
  refine Met.ofW (cc := cX9_kindCode) (maxL := 6) (ret := (some .int)) (by decide) rfl ?_
  intro p e s m args below meth c s₁ B hml hv
  obtain ⟨ha, hP, hK⟩ := hv
  have hx := B.exec
  have hb := B.bytes
  have hr := B.returns
  have hts := atoms_spec (ws := wsX9_kindCode) B.pre
  have hown : s.vm.findClass RX9 = some m.cls := findClass_of_methodNamed B.named
  have hlocks := B.notSynchronized
  obtain ⟨R, hR⟩ : ∃ R, R = (headSpec wsX9_kindCode rmX9_kindCode).room := ⟨_, rfl⟩
  rw [← hR]
  have hR1 : R.frames = 1 := by rw [hR]; rfl
  have hR2 : R.locals = 22 := by rw [hR]; rfl
  obtain ⟨Q, hQ⟩ : ∃ Q : State → Prop, Q = MQ below (va_Qi (fun r' (_ : Unit) => r' = res9) (fun _ t => WU X (pmm w s0 u0 sv0 tx0 ow0 rs0 rn0 nu0 q0) t) (xF b0)) args s 0 0 (xF b0) := ⟨_, rfl⟩
  rw [← hQ]
  have hS : va_S (xF b0) s.heap s.heap [] := va_S.rf
  have hl := lv_entry ([.ref (xa X 314), .int a1, .int a2, .int a3, .int a4, .int a5]) (n := 6) (Nat.le_of_ble_eq_true rfl)
  refine W.eq ((congrArg (fun z => entryFrame m z 6) ha).trans (lg_entry_eq m _ 6)) ?_
  generalize (lg_sl ([.ref (xa X 314), .int a1, .int a2, .int a3, .int a4, .int a5]) ++ List.replicate (6 - (lg_sl ([.ref (xa X 314), .int a1, .int a2, .int a3, .int a4, .int a5])).length) Slot.unset).toArray = ls at hl ⊢
  have hl : lv_has ls 6 [(0, .ref (xa X 314)), (1, .int a1), (2, .int a2), (3, .int a3), (4, .int a4), (5, .int a5)] := hl
  have hc_49 := (cwS 3 hts gX9_kindCode_X9_in rfl rfl rfl (by decide +kernel) ⟨by rw [hR1]; exact Nat.le_of_ble_eq_true rfl, by rw [hR2]; exact Nat.le_of_ble_eq_true rfl⟩ : CallB R s args RX9 49 yX9_in cX9_in 3 (some .boolean) wsX9_in rmX9_in 0 0 3 ∧ (Cond.static yX9_in).before args s = true)
  have hk_f7 := hts (.fieldLink RX9 7 "BakeTurnsModel" "s" "[I") (by decide +kernel)
  unfold m9_kindCode at hf
  refine lv_iload_n hx hb dX9_kindCode_0 rfl (lv_at hl 1 rfl) ?_
  refine lv_bipush (v := 50) hx hb dX9_kindCode_1 (by decide) ?_
  refine lv_sipush (v := 350) hx hb dX9_kindCode_3 (by decide) ?_
  obtain ⟨x1, hc2, hf⟩ := lt1_e hf
  refine w_csi ⟨hx, hb, hml, hown, hts⟩ hP hK hS (k9_in l hX (pmm w s0 u0 sv0 tx0 ow0 rs0 rn0 nu0 q0) hc2) hc_49 rfl hl.1 rfl (Nat.le_of_ble_eq_true rfl) dX9_kindCode_6 ⟨Nat.zero_le _, Nat.zero_le _⟩ (fun H locs hP hS => ?_)
  refine lv_if_eq (tgt := 55) hx hb dX9_kindCode_9 (by decide) (fun h3 => ?_) (fun h3 => ?_)
  · rw [if_pos h3] at hf
    refine lv_iconst (v := 1) hx hb dX9_kindCode_55 (by decide) ?_
    have hf := Option.some.inj hf
    obtain rfl := hf
    rw [hQ]
    exact w_iret hx hb hr hlocks hP hK hS dX9_kindCode_56 rfl rfl
  · rw [if_neg h3] at hf
    refine lv_iload_n hx hb dX9_kindCode_12 rfl (lv_at hl 2 rfl) ?_
    refine lv_iload_n hx hb dX9_kindCode_13 rfl (lv_at hl 1 rfl) ?_
    refine lv_sipush (v := 400) hx hb dX9_kindCode_14 (by decide) ?_
    obtain ⟨x4, hc5, hf⟩ := lt1_e hf
    refine w_csi ⟨hx, hb, hml, hown, hts⟩ hP hK hS (k9_in l hX (pmm w s0 u0 sv0 tx0 ow0 rs0 rn0 nu0 q0) hc5) hc_49 rfl hl.1 rfl (Nat.le_of_ble_eq_true rfl) dX9_kindCode_17 ⟨Nat.zero_le _, Nat.zero_le _⟩ (fun H locs hP hS => ?_)
    refine lv_if_eq (tgt := 55) hx hb dX9_kindCode_20 (by decide) (fun h6 => ?_) (fun h6 => ?_)
    · rw [if_pos h6] at hf
      refine lv_iconst (v := 1) hx hb dX9_kindCode_55 (by decide) ?_
      have hf := Option.some.inj hf
      obtain rfl := hf
      rw [hQ]
      exact w_iret hx hb hr hlocks hP hK hS dX9_kindCode_56 rfl rfl
    · rw [if_neg h6] at hf
      refine lv_iload_n hx hb dX9_kindCode_23 rfl (lv_at hl 3 rfl) ?_
      refine lv_iconst (v := 1) hx hb dX9_kindCode_24 (by decide) ?_
      refine lv_bipush (v := 20) hx hb dX9_kindCode_25 (by decide) ?_
      obtain ⟨x7, hc8, hf⟩ := lt1_e hf
      refine w_csi ⟨hx, hb, hml, hown, hts⟩ hP hK hS (k9_in l hX (pmm w s0 u0 sv0 tx0 ow0 rs0 rn0 nu0 q0) hc8) hc_49 rfl hl.1 rfl (Nat.le_of_ble_eq_true rfl) dX9_kindCode_27 ⟨Nat.zero_le _, Nat.zero_le _⟩ (fun H locs hP hS => ?_)
      refine lv_if_eq (tgt := 55) hx hb dX9_kindCode_30 (by decide) (fun h9 => ?_) (fun h9 => ?_)
      · rw [if_pos h9] at hf
        refine lv_iconst (v := 1) hx hb dX9_kindCode_55 (by decide) ?_
        have hf := Option.some.inj hf
        obtain rfl := hf
        rw [hQ]
        exact w_iret hx hb hr hlocks hP hK hS dX9_kindCode_56 rfl rfl
      · rw [if_neg h9] at hf
        refine lv_iload hx hb dX9_kindCode_33 (lv_at hl 4 rfl) ?_
        refine lv_iconst (v := 0) hx hb dX9_kindCode_35 (by decide) ?_
        refine lv_bipush (v := 30) hx hb dX9_kindCode_36 (by decide) ?_
        obtain ⟨x10, hc11, hf⟩ := lt1_e hf
        refine w_csi ⟨hx, hb, hml, hown, hts⟩ hP hK hS (k9_in l hX (pmm w s0 u0 sv0 tx0 ow0 rs0 rn0 nu0 q0) hc11) hc_49 rfl hl.1 rfl (Nat.le_of_ble_eq_true rfl) dX9_kindCode_38 ⟨Nat.zero_le _, Nat.zero_le _⟩ (fun H locs hP hS => ?_)
        refine lv_if_eq (tgt := 55) hx hb dX9_kindCode_41 (by decide) (fun h12 => ?_) (fun h12 => ?_)
        · rw [if_pos h12] at hf
          refine lv_iconst (v := 1) hx hb dX9_kindCode_55 (by decide) ?_
          have hf := Option.some.inj hf
          obtain rfl := hf
          rw [hQ]
          exact w_iret hx hb hr hlocks hP hK hS dX9_kindCode_56 rfl rfl
        · rw [if_neg h12] at hf
          refine lv_iload hx hb dX9_kindCode_44 (lv_at hl 5 rfl) ?_
          refine lv_iconst (v := 1) hx hb dX9_kindCode_46 (by decide) ?_
          refine lv_bipush (v := 40) hx hb dX9_kindCode_47 (by decide) ?_
          obtain ⟨x13, hc14, hf⟩ := lt1_e hf
          refine w_csi ⟨hx, hb, hml, hown, hts⟩ hP hK hS (k9_in l hX (pmm w s0 u0 sv0 tx0 ow0 rs0 rn0 nu0 q0) hc14) hc_49 rfl hl.1 rfl (Nat.le_of_ble_eq_true rfl) dX9_kindCode_49 ⟨Nat.zero_le _, Nat.zero_le _⟩ (fun H locs hP hS => ?_)
          refine lv_if_ne (tgt := 57) hx hb dX9_kindCode_52 (by decide) (fun h15 => ?_) (fun h15 => ?_)
          · rw [if_neg h15] at hf
            refine lv_aload_n hx hb dX9_kindCode_57 rfl (lv_at hl 0 rfl) ?_
            refine w_get hx hb hts iX9_kindCode_X9 hown hP hK (by decide) emb_mm rfl 1 (by decide) hk_f7 rfl dX9_kindCode_58 ?_
            refine lv_iconst (v := 2) hx hb dX9_kindCode_61 (by decide) ?_
            obtain ⟨hin16, hf⟩ := ck_e hf
            refine ar_ald (g := s0) hx hb AR_s rfl hP hK hin16 dX9_kindCode_62 ?_
            refine lv_iconst (v := 5) hx hb dX9_kindCode_63 (by decide) ?_
            refine lv_icmp_ne (tgt := 71) hx hb dX9_kindCode_64 (by decide) (fun h17 => ?_) (fun h17 => ?_)
            · rw [if_neg h17] at hf
              refine lv_iconst (v := 0) hx hb dX9_kindCode_71 (by decide) ?_
              have hf := Option.some.inj hf
              obtain rfl := hf
              rw [hQ]
              exact w_iret hx hb hr hlocks hP hK hS dX9_kindCode_72 rfl rfl
            · rw [if_pos h17] at hf
              refine lv_iconst (v := 2) hx hb dX9_kindCode_67 (by decide) ?_
              refine lv_goto (tgt := 72) hx hb dX9_kindCode_68 (by decide) ?_
              have hf := Option.some.inj hf
              obtain rfl := hf
              rw [hQ]
              exact w_iret hx hb hr hlocks hP hK hS dX9_kindCode_72 rfl rfl
          · rw [if_pos h15] at hf
            refine lv_iconst (v := 1) hx hb dX9_kindCode_55 (by decide) ?_
            have hf := Option.some.inj hf
            obtain rfl := hf
            rw [hQ]
            exact w_iret hx hb hr hlocks hP hK hS dX9_kindCode_56 rfl rfl
abbrev rmX9_addKindNow : Room := { frames := 0, cells := 0, slots := 0, locals := 0 }
theorem iX9_addKindNow_X9 : ∀ w ∈ wsX90, w ∈ wsX9_addKindNow := by decide +kernel
set_option maxHeartbeats 4000000 in
set_option maxRecDepth 100000 in
theorem k9_addKindNow (l : Launch) {X : bkX} {b0 : Nat} (hX : XO X b0) (w : bkW) {s0 : Nat → Int32} {u0 : Nat → Int32} {sv0 : Nat → Int32} {tx0 : Nat → Int32} {ow0 : Nat → Int32} {rs0 : Nat → Int64} {rn0 : Nat → Int32} {nu0 : Nat → Int32} {q0 : Nat → Int32} {a1 : Int32} {a2 : Int32} {a3 : Int32} {a4 : Int32} {a5 : Int32} {res9 : Int32} {s9 : Nat → Int32} (hf : m9_addKindNow s0 a1 a2 a3 a4 a5 = some (res9, s9)) : cI l yX9_addKindNow wsX9_addKindNow rmX9_addKindNow X b0 [.ref (xa X 314), .int a1, .int a2, .int a3, .int a4, .int a5] (pmm w s0 u0 sv0 tx0 ow0 rs0 rn0 nu0 q0) res9 (pmm w s9 u0 sv0 tx0 ow0 rs0 rn0 nu0 q0) := by
  refine Met.ofW (cc := cX9_addKindNow) (maxL := 7) (ret := (some .int)) (by decide) rfl ?_
  intro p e s m args below meth c s₁ B hml hv
  obtain ⟨ha, hP, hK⟩ := hv
  have hx := B.exec
  have hb := B.bytes
  have hr := B.returns
  have hts := atoms_spec (ws := wsX9_addKindNow) B.pre
  have hown : s.vm.findClass RX9 = some m.cls := findClass_of_methodNamed B.named
  have hlocks := B.notSynchronized
  obtain ⟨R, hR⟩ : ∃ R, R = (headSpec wsX9_addKindNow rmX9_addKindNow).room := ⟨_, rfl⟩
  rw [← hR]
  have hR1 : R.frames = 0 := by rw [hR]; rfl
  have hR2 : R.locals = 0 := by rw [hR]; rfl
  obtain ⟨Q, hQ⟩ : ∃ Q : State → Prop, Q = MQ below (va_Qi (fun r' (_ : Unit) => r' = res9) (fun _ t => WU X (pmm w s9 u0 sv0 tx0 ow0 rs0 rn0 nu0 q0) t) (xF b0)) args s 0 0 (xF b0) := ⟨_, rfl⟩
  rw [← hQ]
  have hS : va_S (xF b0) s.heap s.heap [] := va_S.rf
  have hl := lv_entry ([.ref (xa X 314), .int a1, .int a2, .int a3, .int a4, .int a5]) (n := 7) (Nat.le_of_ble_eq_true rfl)
  refine W.eq ((congrArg (fun z => entryFrame m z 7) ha).trans (lg_entry_eq m _ 7)) ?_
  generalize (lg_sl ([.ref (xa X 314), .int a1, .int a2, .int a3, .int a4, .int a5]) ++ List.replicate (7 - (lg_sl ([.ref (xa X 314), .int a1, .int a2, .int a3, .int a4, .int a5])).length) Slot.unset).toArray = ls at hl ⊢
  have hl : lv_has ls 7 [(0, .ref (xa X 314)), (1, .int a1), (2, .int a2), (3, .int a3), (4, .int a4), (5, .int a5)] := hl
  have hk_f7 := hts (.fieldLink RX9 7 "BakeTurnsModel" "s" "[I") (by decide +kernel)
  unfold m9_addKindNow at hf
  refine lv_bipush (v := 12) hx hb dX9_addKindNow_0 (by decide) ?_
  refine lv_iconst (v := 5) hx hb dX9_addKindNow_2 (by decide) ?_
  refine lv_aload_n hx hb dX9_addKindNow_3 rfl (lv_at hl 0 rfl) ?_
  refine w_get hx hb hts iX9_addKindNow_X9 hown hP hK (by decide) emb_mm rfl 1 (by decide) hk_f7 rfl dX9_addKindNow_4 ?_
  refine lv_iconst (v := 2) hx hb dX9_addKindNow_7 (by decide) ?_
  obtain ⟨hin1, hf⟩ := ck_e hf
  refine ar_ald (g := s0) hx hb AR_s rfl hP hK hin1 dX9_addKindNow_8 ?_
  refine lv_imul hx hb dX9_addKindNow_9 ?_
  refine lv_iadd hx hb dX9_addKindNow_10 ?_
  refine lv_topi (fun x2 ex2 => ?_)
  replace hf := ltn_s ex2 hf
  refine lv_istore (lv' := [(6, .int x2), (0, .ref (xa X 314)), (1, .int a1), (2, .int a2), (3, .int a3), (4, .int a4), (5, .int a5)]) hx hb dX9_addKindNow_11 hl (by decide) rfl (fun ls hl => ?_)
  refine lv_aload_n hx hb dX9_addKindNow_13 rfl (lv_at hl 1 rfl) ?_
  refine w_get hx hb hts iX9_addKindNow_X9 hown hP hK (by decide) emb_mm rfl 1 (by decide) hk_f7 rfl dX9_addKindNow_14 ?_
  refine lv_iload hx hb dX9_addKindNow_17 (lv_at hl 0 rfl) ?_
  refine lv_iconst (v := 0) hx hb dX9_addKindNow_19 (by decide) ?_
  refine lv_iadd hx hb dX9_addKindNow_20 ?_
  refine lv_iload_n hx hb dX9_addKindNow_21 rfl (lv_at hl 2 rfl) ?_
  obtain ⟨hin3, hf⟩ := ck_e hf
  refine ar_ast (g := s0) hx hb hX AR_s rfl (fun z => pmm w z u0 sv0 tx0 ow0 rs0 rn0 nu0 q0) (fun z => pmm_s) hP hK hS hin3 dX9_addKindNow_22 (fun s4 es4 H locs hP hS => ?_)
  replace hf := ltn_s es4 hf
  refine lv_aload_n hx hb dX9_addKindNow_23 rfl (lv_at hl 1 rfl) ?_
  refine w_get hx hb hts iX9_addKindNow_X9 hown hP hK (by decide) emb_mm rfl 1 (by decide) hk_f7 rfl dX9_addKindNow_24 ?_
  refine lv_iload hx hb dX9_addKindNow_27 (lv_at hl 0 rfl) ?_
  refine lv_iconst (v := 1) hx hb dX9_addKindNow_29 (by decide) ?_
  refine lv_iadd hx hb dX9_addKindNow_30 ?_
  refine lv_iload_n hx hb dX9_addKindNow_31 rfl (lv_at hl 3 rfl) ?_
  obtain ⟨hin5, hf⟩ := ck_e hf
  refine ar_ast (g := s4) hx hb hX AR_s rfl (fun z => pmm w z u0 sv0 tx0 ow0 rs0 rn0 nu0 q0) (fun z => pmm_s) hP hK hS hin5 dX9_addKindNow_32 (fun s6 es6 H locs hP hS => ?_)
  replace hf := ltn_s es6 hf
  refine lv_aload_n hx hb dX9_addKindNow_33 rfl (lv_at hl 1 rfl) ?_
  refine w_get hx hb hts iX9_addKindNow_X9 hown hP hK (by decide) emb_mm rfl 1 (by decide) hk_f7 rfl dX9_addKindNow_34 ?_
  refine lv_iload hx hb dX9_addKindNow_37 (lv_at hl 0 rfl) ?_
  refine lv_iconst (v := 2) hx hb dX9_addKindNow_39 (by decide) ?_
  refine lv_iadd hx hb dX9_addKindNow_40 ?_
  refine lv_iload_n hx hb dX9_addKindNow_41 rfl (lv_at hl 4 rfl) ?_
  obtain ⟨hin7, hf⟩ := ck_e hf
  refine ar_ast (g := s6) hx hb hX AR_s rfl (fun z => pmm w z u0 sv0 tx0 ow0 rs0 rn0 nu0 q0) (fun z => pmm_s) hP hK hS hin7 dX9_addKindNow_42 (fun s8 es8 H locs hP hS => ?_)
  replace hf := ltn_s es8 hf
  refine lv_aload_n hx hb dX9_addKindNow_43 rfl (lv_at hl 1 rfl) ?_
  refine w_get hx hb hts iX9_addKindNow_X9 hown hP hK (by decide) emb_mm rfl 1 (by decide) hk_f7 rfl dX9_addKindNow_44 ?_
  refine lv_iload hx hb dX9_addKindNow_47 (lv_at hl 0 rfl) ?_
  refine lv_iconst (v := 3) hx hb dX9_addKindNow_49 (by decide) ?_
  refine lv_iadd hx hb dX9_addKindNow_50 ?_
  refine lv_iload hx hb dX9_addKindNow_51 (lv_at hl 5 rfl) ?_
  obtain ⟨hin9, hf⟩ := ck_e hf
  refine ar_ast (g := s8) hx hb hX AR_s rfl (fun z => pmm w z u0 sv0 tx0 ow0 rs0 rn0 nu0 q0) (fun z => pmm_s) hP hK hS hin9 dX9_addKindNow_53 (fun s10 es10 H locs hP hS => ?_)
  replace hf := ltn_s es10 hf
  refine lv_aload_n hx hb dX9_addKindNow_54 rfl (lv_at hl 1 rfl) ?_
  refine w_get hx hb hts iX9_addKindNow_X9 hown hP hK (by decide) emb_mm rfl 1 (by decide) hk_f7 rfl dX9_addKindNow_55 ?_
  refine lv_iload hx hb dX9_addKindNow_58 (lv_at hl 0 rfl) ?_
  refine lv_iconst (v := 4) hx hb dX9_addKindNow_60 (by decide) ?_
  refine lv_iadd hx hb dX9_addKindNow_61 ?_
  refine lv_iload hx hb dX9_addKindNow_62 (lv_at hl 6 rfl) ?_
  obtain ⟨hin11, hf⟩ := ck_e hf
  refine ar_ast (g := s10) hx hb hX AR_s rfl (fun z => pmm w z u0 sv0 tx0 ow0 rs0 rn0 nu0 q0) (fun z => pmm_s) hP hK hS hin11 dX9_addKindNow_64 (fun s12 es12 H locs hP hS => ?_)
  replace hf := ltn_s es12 hf
  refine lv_aload_n hx hb dX9_addKindNow_65 rfl (lv_at hl 1 rfl) ?_
  refine w_get hx hb hts iX9_addKindNow_X9 hown hP hK (by decide) emb_mm rfl 1 (by decide) hk_f7 rfl dX9_addKindNow_66 ?_
  refine lv_iconst (v := 2) hx hb dX9_addKindNow_69 (by decide) ?_
  refine lv_dup2_11 hx hb dX9_addKindNow_70 rfl rfl ?_
  obtain ⟨hin13, hf⟩ := ck_e hf
  refine ar_ald (g := s12) hx hb AR_s rfl hP hK hin13 dX9_addKindNow_71 ?_
  refine lv_iconst (v := 1) hx hb dX9_addKindNow_72 (by decide) ?_
  refine lv_iadd hx hb dX9_addKindNow_73 ?_
  obtain ⟨hin14, hf⟩ := ck_e hf
  refine ar_ast (g := s12) hx hb hX AR_s rfl (fun z => pmm w z u0 sv0 tx0 ow0 rs0 rn0 nu0 q0) (fun z => pmm_s) hP hK hS hin14 dX9_addKindNow_74 (fun s15 es15 H locs hP hS => ?_)
  replace hf := ltn_s es15 hf
  refine lv_aload_n hx hb dX9_addKindNow_75 rfl (lv_at hl 1 rfl) ?_
  refine w_get hx hb hts iX9_addKindNow_X9 hown hP hK (by decide) emb_mm rfl 1 (by decide) hk_f7 rfl dX9_addKindNow_76 ?_
  refine lv_iconst (v := 2) hx hb dX9_addKindNow_79 (by decide) ?_
  obtain ⟨hin16, hf⟩ := ck_e hf
  refine ar_ald (g := s15) hx hb AR_s rfl hP hK hin16 dX9_addKindNow_80 ?_
  refine lv_iconst (v := 1) hx hb dX9_addKindNow_81 (by decide) ?_
  refine lv_isub hx hb dX9_addKindNow_82 ?_
  have hf := Option.some.inj hf
  simp only [Prod.mk.injEq] at hf
  obtain ⟨rfl, rfl⟩ := hf
  rw [hQ]
  exact w_iret hx hb hr hlocks hP hK hS dX9_addKindNow_83 rfl rfl
abbrev rmX9_addKind : Room := { frames := 2, cells := 0, slots := 0, locals := 47 }
theorem iX9_addKind_X9 : ∀ w ∈ wsX90, w ∈ wsX9_addKind := by decide +kernel
set_option maxHeartbeats 4000000 in
set_option maxRecDepth 100000 in
theorem k9_addKind (l : Launch) {X : bkX} {b0 : Nat} (hX : XO X b0) (w : bkW) {N : Nat} {s0 : Nat → Int32} {u0 : Nat → Int32} {sv0 : Nat → Int32} {tx0 : Nat → Int32} {ow0 : Nat → Int32} {rs0 : Nat → Int64} {rn0 : Nat → Int32} {nu0 : Nat → Int32} {q0 : Nat → Int32} {a1 : Int32} {a2 : Int32} {a3 : Int32} {a4 : Int32} {a5 : Int32} {res9 : Int32} {s9 : Nat → Int32} {sv9 : Nat → Int32} {q9 : Nat → Int32} (hf : m9_addKind N s0 sv0 q0 a1 a2 a3 a4 a5 = some (res9, s9, sv9, q9)) : cI l yX9_addKind wsX9_addKind rmX9_addKind X b0 [.ref (xa X 314), .int a1, .int a2, .int a3, .int a4, .int a5] (pmm w s0 u0 sv0 tx0 ow0 rs0 rn0 nu0 q0) res9 (pmm w s9 u0 sv9 tx0 ow0 rs0 rn0 nu0 q9) := by
  refine Met.ofW (cc := cX9_addKind) (maxL := 6) (ret := (some .int)) (by decide) rfl ?_
  intro p e s m args below meth c s₁ B hml hv
  obtain ⟨ha, hP, hK⟩ := hv
  have hx := B.exec
  have hb := B.bytes
  have hr := B.returns
  have hts := atoms_spec (ws := wsX9_addKind) B.pre
  have hown : s.vm.findClass RX9 = some m.cls := findClass_of_methodNamed B.named
  have hlocks := B.notSynchronized
  obtain ⟨R, hR⟩ : ∃ R, R = (headSpec wsX9_addKind rmX9_addKind).room := ⟨_, rfl⟩
  rw [← hR]
  have hR1 : R.frames = 2 := by rw [hR]; rfl
  have hR2 : R.locals = 47 := by rw [hR]; rfl
  obtain ⟨Q, hQ⟩ : ∃ Q : State → Prop, Q = MQ below (va_Qi (fun r' (_ : Unit) => r' = res9) (fun _ t => WU X (pmm w s9 u0 sv9 tx0 ow0 rs0 rn0 nu0 q9) t) (xF b0)) args s 0 0 (xF b0) := ⟨_, rfl⟩
  rw [← hQ]
  have hS : va_S (xF b0) s.heap s.heap [] := va_S.rf
  have hl := lv_entry ([.ref (xa X 314), .int a1, .int a2, .int a3, .int a4, .int a5]) (n := 6) (Nat.le_of_ble_eq_true rfl)
  refine W.eq ((congrArg (fun z => entryFrame m z 6) ha).trans (lg_entry_eq m _ 6)) ?_
  generalize (lg_sl ([.ref (xa X 314), .int a1, .int a2, .int a3, .int a4, .int a5]) ++ List.replicate (6 - (lg_sl ([.ref (xa X 314), .int a1, .int a2, .int a3, .int a4, .int a5])).length) Slot.unset).toArray = ls at hl ⊢
  have hl : lv_has ls 6 [(0, .ref (xa X 314)), (1, .int a1), (2, .int a2), (3, .int a3), (4, .int a4), (5, .int a5)] := hl
  have hc_108 := (cwV 5 hts gX9_addKind_X9_kindCode rfl rfl rfl (by decide +kernel) ⟨by rw [hR1]; exact Nat.le_of_ble_eq_true rfl, by rw [hR2]; exact Nat.le_of_ble_eq_true rfl⟩ : CallW R s args RX9 RX9 108 yX9_kindCode cX9_kindCode 6 (some .int) wsX9_kindCode rmX9_kindCode 0 0 5)
  have hk_f35 := hts (.fieldLink RX9 35 "BakeTurnsModel" "thrown" "I") (by decide +kernel)
  have hc_112 := (cwV 0 hts gX9_addKind_X9_save rfl rfl rfl (by decide +kernel) ⟨by rw [hR1]; exact Nat.le_of_ble_eq_true rfl, by rw [hR2]; exact Nat.le_of_ble_eq_true rfl⟩ : CallW R s args RX9 RX9 112 yX9_save cX9_save 2 none wsX9_save rmX9_save 0 0 0)
  have hc_115 := (cwV 5 hts gX9_addKind_X9_addKindNow rfl rfl rfl (by decide +kernel) ⟨by rw [hR1]; exact Nat.le_of_ble_eq_true rfl, by rw [hR2]; exact Nat.le_of_ble_eq_true rfl⟩ : CallW R s args RX9 RX9 115 yX9_addKindNow cX9_addKindNow 7 (some .int) wsX9_addKindNow rmX9_addKindNow 0 0 5)
  unfold m9_addKind at hf
  refine lv_aload_n hx hb dX9_addKind_0 rfl (lv_at hl 0 rfl) ?_
  refine lv_aload_n hx hb dX9_addKind_1 rfl (lv_at hl 0 rfl) ?_
  refine lv_iload_n hx hb dX9_addKind_2 rfl (lv_at hl 1 rfl) ?_
  refine lv_iload_n hx hb dX9_addKind_3 rfl (lv_at hl 2 rfl) ?_
  refine lv_iload_n hx hb dX9_addKind_4 rfl (lv_at hl 3 rfl) ?_
  refine lv_iload hx hb dX9_addKind_5 (lv_at hl 4 rfl) ?_
  refine lv_iload hx hb dX9_addKind_7 (lv_at hl 5 rfl) ?_
  obtain ⟨x1, hc2, hf⟩ := ob1_e hf
  refine w_ci ⟨hx, hb, hml, hown, hts⟩ hP hK hS (k9_kindCode l hX w hc2) hc_108 (w_recv hP hK (by decide) emb_mm rfl) rfl hl.1 rfl (Nat.le_of_ble_eq_true rfl) dX9_addKind_9 ⟨Nat.zero_le _, Nat.zero_le _⟩ (fun H locs hP hS => ?_)
  refine mm_put hx hb hts iX9_addKind_X9 hown hX hP hK hS 0 (by decide) hk_f35 rfl rfl (Nat.le_of_ble_eq_true rfl) (mm_es0 _) dX9_addKind_12 (fun q3 eq3 H locs hP hS => ?_)
  replace hf := ltn_s eq3 hf
  refine lv_aload_n hx hb dX9_addKind_15 rfl (lv_at hl 0 rfl) ?_
  refine w_get hx hb hts iX9_addKind_X9 hown hP hK (by decide) emb_mm rfl 0 (by decide) hk_f35 rfl dX9_addKind_16 ?_
  refine lv_if_le (tgt := 24) hx hb dX9_addKind_19 (by decide) (fun h4 => ?_) (fun h4 => ?_)
  · rw [if_pos h4] at hf
    refine lv_aload_n hx hb dX9_addKind_24 rfl (lv_at hl 0 rfl) ?_
    obtain ⟨sv5, q6, hc7, hf⟩ := ob2_e hf
    refine w_cv ⟨hx, hb, hml, hown, hts⟩ hP hK hS (k9_save l hX w hc7) hc_112 (w_recv hP hK (by decide) emb_mm rfl) rfl hl.1 rfl (Nat.le_of_ble_eq_true rfl) dX9_addKind_25 ⟨Nat.zero_le _, Nat.zero_le _⟩ (fun H locs hP hS => ?_)
    refine lv_aload_n hx hb dX9_addKind_28 rfl (lv_at hl 0 rfl) ?_
    refine lv_iload_n hx hb dX9_addKind_29 rfl (lv_at hl 1 rfl) ?_
    refine lv_iload_n hx hb dX9_addKind_30 rfl (lv_at hl 2 rfl) ?_
    refine lv_iload_n hx hb dX9_addKind_31 rfl (lv_at hl 3 rfl) ?_
    refine lv_iload hx hb dX9_addKind_32 (lv_at hl 4 rfl) ?_
    refine lv_iload hx hb dX9_addKind_34 (lv_at hl 5 rfl) ?_
    obtain ⟨x8, s9, hc10, hf⟩ := ob2_e hf
    refine w_ci ⟨hx, hb, hml, hown, hts⟩ hP hK hS (k9_addKindNow l hX w hc10) hc_115 (w_recv hP hK (by decide) emb_mm rfl) rfl hl.1 rfl (Nat.le_of_ble_eq_true rfl) dX9_addKind_36 ⟨Nat.zero_le _, Nat.zero_le _⟩ (fun H locs hP hS => ?_)
    have hf := Option.some.inj hf
    simp only [Prod.mk.injEq] at hf
    obtain ⟨rfl, rfl, rfl, rfl⟩ := hf
    rw [hQ]
    exact w_iret hx hb hr hlocks hP hK hS dX9_addKind_39 rfl rfl
  · rw [if_neg h4] at hf
    refine lv_iconst (v := 0) hx hb dX9_addKind_22 (by decide) ?_
    have hf := Option.some.inj hf
    simp only [Prod.mk.injEq] at hf
    obtain ⟨rfl, rfl, rfl, rfl⟩ := hf
    rw [hQ]
    exact w_iret hx hb hr hlocks hP hK hS dX9_addKind_23 rfl rfl
abbrev rmX9_addHouseNow : Room := { frames := 0, cells := 0, slots := 0, locals := 0 }
theorem iX9_addHouseNow_X9 : ∀ w ∈ wsX90, w ∈ wsX9_addHouseNow := by decide +kernel
set_option maxHeartbeats 4000000 in
set_option maxRecDepth 100000 in
theorem k9_addHouseNow (l : Launch) {X : bkX} {b0 : Nat} (hX : XO X b0) (w : bkW) {N : Nat} {s0 : Nat → Int32} {u0 : Nat → Int32} {sv0 : Nat → Int32} {tx0 : Nat → Int32} {ow0 : Nat → Int32} {rs0 : Nat → Int64} {rn0 : Nat → Int32} {nu0 : Nat → Int32} {q0 : Nat → Int32} {res9 : Int32} {s9 : Nat → Int32} (hf : m9_addHouseNow N s0 = some (res9, s9)) : cI l yX9_addHouseNow wsX9_addHouseNow rmX9_addHouseNow X b0 [.ref (xa X 314)] (pmm w s0 u0 sv0 tx0 ow0 rs0 rn0 nu0 q0) res9 (pmm w s9 u0 sv0 tx0 ow0 rs0 rn0 nu0 q0) := by
  refine Met.ofW (cc := cX9_addHouseNow) (maxL := 2) (ret := (some .int)) (by decide) rfl ?_
  intro p e s m args below meth c s₁ B hml hv
  obtain ⟨ha, hP, hK⟩ := hv
  have hx := B.exec
  have hb := B.bytes
  have hr := B.returns
  have hts := atoms_spec (ws := wsX9_addHouseNow) B.pre
  have hown : s.vm.findClass RX9 = some m.cls := findClass_of_methodNamed B.named
  have hlocks := B.notSynchronized
  obtain ⟨R, hR⟩ : ∃ R, R = (headSpec wsX9_addHouseNow rmX9_addHouseNow).room := ⟨_, rfl⟩
  rw [← hR]
  have hR1 : R.frames = 0 := by rw [hR]; rfl
  have hR2 : R.locals = 0 := by rw [hR]; rfl
  obtain ⟨Q, hQ⟩ : ∃ Q : State → Prop, Q = MQ below (va_Qi (fun r' (_ : Unit) => r' = res9) (fun _ t => WU X (pmm w s9 u0 sv0 tx0 ow0 rs0 rn0 nu0 q0) t) (xF b0)) args s 0 0 (xF b0) := ⟨_, rfl⟩
  rw [← hQ]
  have hS : va_S (xF b0) s.heap s.heap [] := va_S.rf
  have hl := lv_entry ([.ref (xa X 314)]) (n := 2) (Nat.le_of_ble_eq_true rfl)
  refine W.eq ((congrArg (fun z => entryFrame m z 2) ha).trans (lg_entry_eq m _ 2)) ?_
  generalize (lg_sl ([.ref (xa X 314)]) ++ List.replicate (2 - (lg_sl ([.ref (xa X 314)])).length) Slot.unset).toArray = ls at hl ⊢
  have hl : lv_has ls 2 [(0, .ref (xa X 314))] := hl
  have hk_f7 := hts (.fieldLink RX9 7 "BakeTurnsModel" "s" "[I") (by decide +kernel)
  unfold m9_addHouseNow at hf
  refine lv_iconst (v := 0) hx hb dX9_addHouseNow_0 (by decide) ?_
  refine lv_istore_n (lv' := [(1, .int 0), (0, .ref (xa X 314))]) hx hb dX9_addHouseNow_1 rfl hl (by decide) rfl (fun ls hl => ?_)
  have L2 : ∀ (n : Nat) (x2 : Int32) (s3 : Nat → Int32) (os4 : Nat → Int32) (H : Heap) (locs : List Loc) (ls : Array Slot), m9_addHouseNow_L2 N n x2 s3 = some os4 → HW X (pmm w s3 u0 sv0 tx0 ow0 rs0 rn0 nu0 q0) H → va_S (xF b0) s.heap H locs → lv_has ls 2 [(0, .ref (xa X 314)), (1, .int x2)] → (∀ (H1 : Heap) (locs1 : List Loc) (ls1 : Array Slot), HW X (pmm w os4 u0 sv0 tx0 ow0 rs0 rn0 nu0 q0) H1 → va_S (xF b0) s.heap H1 locs1 → lv_has ls1 2 [(0, .ref (xa X 314))] → W p l e R s m args below meth c H1 locs1 0 0 Q (F0 m 34 ls1 [])) → W p l e R s m args below meth c H locs 0 0 Q (F0 m 2 ls []) := by
    intro n; induction n with
    | zero => intro x2 s3 os4 H locs ls hf; rw [m9_addHouseNow_L2] at hf; cases hf
    | succ n ih =>
      intro x2 s3 os4 H locs ls hf hP hS hl K
      rw [m9_addHouseNow_L2] at hf
      refine lv_iload_n hx hb dX9_addHouseNow_2 rfl (lv_at hl 1 rfl) ?_
      refine lv_bipush (v := 6) hx hb dX9_addHouseNow_3 (by decide) ?_
      refine lv_icmp_ge (tgt := 34) hx hb dX9_addHouseNow_5 (by decide) (fun h5 => ?_) (fun h5 => ?_)
      · rw [if_pos h5] at hf
        have hf := Option.some.inj hf
        obtain rfl := hf
        exact K _ _ _ hP hS (lv_sub hl [0] rfl)
      · rw [if_neg h5] at hf
        refine lv_aload_n hx hb dX9_addHouseNow_8 rfl (lv_at hl 0 rfl) ?_
        refine w_get hx hb hts iX9_addHouseNow_X9 hown hP hK (by decide) emb_mm rfl 1 (by decide) hk_f7 rfl dX9_addHouseNow_9 ?_
        refine lv_bipush (v := 37) hx hb dX9_addHouseNow_12 (by decide) ?_
        refine lv_bipush (v := 6) hx hb dX9_addHouseNow_14 (by decide) ?_
        refine lv_aload_n hx hb dX9_addHouseNow_16 rfl (lv_at hl 0 rfl) ?_
        refine w_get hx hb hts iX9_addHouseNow_X9 hown hP hK (by decide) emb_mm rfl 1 (by decide) hk_f7 rfl dX9_addHouseNow_17 ?_
        refine lv_iconst (v := 3) hx hb dX9_addHouseNow_20 (by decide) ?_
        obtain ⟨hin6, hf⟩ := ck_e hf
        refine ar_ald (g := s3) hx hb AR_s rfl hP hK hin6 dX9_addHouseNow_21 ?_
        refine lv_imul hx hb dX9_addHouseNow_22 ?_
        refine lv_iadd hx hb dX9_addHouseNow_23 ?_
        refine lv_iload_n hx hb dX9_addHouseNow_24 rfl (lv_at hl 1 rfl) ?_
        refine lv_iadd hx hb dX9_addHouseNow_25 ?_
        refine lv_iconst (v := 0) hx hb dX9_addHouseNow_26 (by decide) ?_
        obtain ⟨hin7, hf⟩ := ck_e hf
        refine ar_ast (g := s3) hx hb hX AR_s rfl (fun z => pmm w z u0 sv0 tx0 ow0 rs0 rn0 nu0 q0) (fun z => pmm_s) hP hK hS hin7 dX9_addHouseNow_27 (fun s8 es8 H locs hP hS => ?_)
        replace hf := ltn_s es8 hf
        obtain ⟨x9, ex9⟩ : ∃ y : Int32, y = x2 + 1 := ⟨_, rfl⟩
        replace hf := ltn_s ex9 hf
        refine lv_iinc (v := x9) (lv' := [(1, .int x9), (0, .ref (xa X 314))]) hx hb dX9_addHouseNow_28 hl (k := 1) rfl (by rw [ex9]; rfl) (by decide) rfl (fun ls hl => ?_)
        refine lv_goto (tgt := 2) hx hb dX9_addHouseNow_31 (by decide) ?_
        exact ih x9 s8 os4 _ _ _ hf hP hS (lv_sub hl [1, 0] rfl) K
  obtain ⟨s10, hc11, hf⟩ := ob1_e hf
  refine L2 N 0 s0 s10 _ _ _ hc11 hP hS (lv_sub hl [1, 0] rfl) (fun H locs ls hP hS hl => ?_)
  refine lv_aload_n hx hb dX9_addHouseNow_34 rfl (lv_at hl 0 rfl) ?_
  refine w_get hx hb hts iX9_addHouseNow_X9 hown hP hK (by decide) emb_mm rfl 1 (by decide) hk_f7 rfl dX9_addHouseNow_35 ?_
  refine lv_iconst (v := 3) hx hb dX9_addHouseNow_38 (by decide) ?_
  refine lv_dup2_11 hx hb dX9_addHouseNow_39 rfl rfl ?_
  obtain ⟨hin12, hf⟩ := ck_e hf
  refine ar_ald (g := s10) hx hb AR_s rfl hP hK hin12 dX9_addHouseNow_40 ?_
  refine lv_iconst (v := 1) hx hb dX9_addHouseNow_41 (by decide) ?_
  refine lv_iadd hx hb dX9_addHouseNow_42 ?_
  obtain ⟨hin13, hf⟩ := ck_e hf
  refine ar_ast (g := s10) hx hb hX AR_s rfl (fun z => pmm w z u0 sv0 tx0 ow0 rs0 rn0 nu0 q0) (fun z => pmm_s) hP hK hS hin13 dX9_addHouseNow_43 (fun s14 es14 H locs hP hS => ?_)
  replace hf := ltn_s es14 hf
  refine lv_aload_n hx hb dX9_addHouseNow_44 rfl (lv_at hl 0 rfl) ?_
  refine w_get hx hb hts iX9_addHouseNow_X9 hown hP hK (by decide) emb_mm rfl 1 (by decide) hk_f7 rfl dX9_addHouseNow_45 ?_
  refine lv_iconst (v := 3) hx hb dX9_addHouseNow_48 (by decide) ?_
  obtain ⟨hin15, hf⟩ := ck_e hf
  refine ar_ald (g := s14) hx hb AR_s rfl hP hK hin15 dX9_addHouseNow_49 ?_
  refine lv_iconst (v := 1) hx hb dX9_addHouseNow_50 (by decide) ?_
  refine lv_isub hx hb dX9_addHouseNow_51 ?_
  have hf := Option.some.inj hf
  simp only [Prod.mk.injEq] at hf
  obtain ⟨rfl, rfl⟩ := hf
  rw [hQ]
  exact w_iret hx hb hr hlocks hP hK hS dX9_addHouseNow_52 rfl rfl
abbrev rmX9_addHouse : Room := { frames := 1, cells := 0, slots := 0, locals := 21 }
theorem iX9_addHouse_X9 : ∀ w ∈ wsX90, w ∈ wsX9_addHouse := by decide +kernel
set_option maxHeartbeats 4000000 in
set_option maxRecDepth 100000 in
theorem k9_addHouse (l : Launch) {X : bkX} {b0 : Nat} (hX : XO X b0) (w : bkW) {N : Nat} {s0 : Nat → Int32} {u0 : Nat → Int32} {sv0 : Nat → Int32} {tx0 : Nat → Int32} {ow0 : Nat → Int32} {rs0 : Nat → Int64} {rn0 : Nat → Int32} {nu0 : Nat → Int32} {q0 : Nat → Int32} {res9 : Int32} {s9 : Nat → Int32} {sv9 : Nat → Int32} {q9 : Nat → Int32} (hf : m9_addHouse N s0 sv0 q0 = some (res9, s9, sv9, q9)) : cI l yX9_addHouse wsX9_addHouse rmX9_addHouse X b0 [.ref (xa X 314)] (pmm w s0 u0 sv0 tx0 ow0 rs0 rn0 nu0 q0) res9 (pmm w s9 u0 sv9 tx0 ow0 rs0 rn0 nu0 q9) := by
  refine Met.ofW (cc := cX9_addHouse) (maxL := 1) (ret := (some .int)) (by decide) rfl ?_
  intro p e s m args below meth c s₁ B hml hv
  obtain ⟨ha, hP, hK⟩ := hv
  have hx := B.exec
  have hb := B.bytes
  have hr := B.returns
  have hts := atoms_spec (ws := wsX9_addHouse) B.pre
  have hown : s.vm.findClass RX9 = some m.cls := findClass_of_methodNamed B.named
  have hlocks := B.notSynchronized
  obtain ⟨R, hR⟩ : ∃ R, R = (headSpec wsX9_addHouse rmX9_addHouse).room := ⟨_, rfl⟩
  rw [← hR]
  have hR1 : R.frames = 1 := by rw [hR]; rfl
  have hR2 : R.locals = 21 := by rw [hR]; rfl
  obtain ⟨Q, hQ⟩ : ∃ Q : State → Prop, Q = MQ below (va_Qi (fun r' (_ : Unit) => r' = res9) (fun _ t => WU X (pmm w s9 u0 sv9 tx0 ow0 rs0 rn0 nu0 q9) t) (xF b0)) args s 0 0 (xF b0) := ⟨_, rfl⟩
  rw [← hQ]
  have hS : va_S (xF b0) s.heap s.heap [] := va_S.rf
  have hl := lv_entry ([.ref (xa X 314)]) (n := 1) (Nat.le_of_ble_eq_true rfl)
  refine W.eq ((congrArg (fun z => entryFrame m z 1) ha).trans (lg_entry_eq m _ 1)) ?_
  generalize (lg_sl ([.ref (xa X 314)]) ++ List.replicate (1 - (lg_sl ([.ref (xa X 314)])).length) Slot.unset).toArray = ls at hl ⊢
  have hl : lv_has ls 1 [(0, .ref (xa X 314))] := hl
  have hk_f7 := hts (.fieldLink RX9 7 "BakeTurnsModel" "s" "[I") (by decide +kernel)
  have hk_f35 := hts (.fieldLink RX9 35 "BakeTurnsModel" "thrown" "I") (by decide +kernel)
  have hc_112 := (cwV 0 hts gX9_addHouse_X9_save rfl rfl rfl (by decide +kernel) ⟨by rw [hR1]; exact Nat.le_of_ble_eq_true rfl, by rw [hR2]; exact Nat.le_of_ble_eq_true rfl⟩ : CallW R s args RX9 RX9 112 yX9_save cX9_save 2 none wsX9_save rmX9_save 0 0 0)
  have hc_118 := (cwV 0 hts gX9_addHouse_X9_addHouseNow rfl rfl rfl (by decide +kernel) ⟨by rw [hR1]; exact Nat.le_of_ble_eq_true rfl, by rw [hR2]; exact Nat.le_of_ble_eq_true rfl⟩ : CallW R s args RX9 RX9 118 yX9_addHouseNow cX9_addHouseNow 2 (some .int) wsX9_addHouseNow rmX9_addHouseNow 0 0 0)
  unfold m9_addHouse at hf
  refine lv_aload_n hx hb dX9_addHouse_0 rfl (lv_at hl 0 rfl) ?_
  refine lv_aload_n hx hb dX9_addHouse_1 rfl (lv_at hl 0 rfl) ?_
  refine w_get hx hb hts iX9_addHouse_X9 hown hP hK (by decide) emb_mm rfl 1 (by decide) hk_f7 rfl dX9_addHouse_2 ?_
  refine lv_iconst (v := 3) hx hb dX9_addHouse_5 (by decide) ?_
  obtain ⟨hin1, hf⟩ := ck_e hf
  refine ar_ald (g := s0) hx hb AR_s rfl hP hK hin1 dX9_addHouse_6 ?_
  refine lv_bipush (v := 8) hx hb dX9_addHouse_7 (by decide) ?_
  obtain ⟨x3, ejK4, hf⟩ := lt1_e hf
  have K4 : ∀ (H : Heap) (locs : List Loc) (ls : Array Slot), HW X (pmm w s0 u0 sv0 tx0 ow0 rs0 rn0 nu0 q0) H → va_S (xF b0) s.heap H locs → lv_has ls 1 [(0, .ref (xa X 314))] → W p l e R s m args below meth c H locs 0 0 Q (F0 m 17 ls [.int x3, .ref (xa X 314)]) := by
    intro H locs ls hP hS hl
    refine mm_put hx hb hts iX9_addHouse_X9 hown hX hP hK hS 0 (by decide) hk_f35 rfl rfl (Nat.le_of_ble_eq_true rfl) (mm_es0 _) dX9_addHouse_17 (fun q5 eq5 H locs hP hS => ?_)
    replace hf := ltn_s eq5 hf
    refine lv_aload_n hx hb dX9_addHouse_20 rfl (lv_at hl 0 rfl) ?_
    refine w_get hx hb hts iX9_addHouse_X9 hown hP hK (by decide) emb_mm rfl 0 (by decide) hk_f35 rfl dX9_addHouse_21 ?_
    refine lv_if_le (tgt := 29) hx hb dX9_addHouse_24 (by decide) (fun h6 => ?_) (fun h6 => ?_)
    · rw [if_pos h6] at hf
      refine lv_aload_n hx hb dX9_addHouse_29 rfl (lv_at hl 0 rfl) ?_
      obtain ⟨sv7, q8, hc9, hf⟩ := ob2_e hf
      refine w_cv ⟨hx, hb, hml, hown, hts⟩ hP hK hS (k9_save l hX w hc9) hc_112 (w_recv hP hK (by decide) emb_mm rfl) rfl hl.1 rfl (Nat.le_of_ble_eq_true rfl) dX9_addHouse_30 ⟨Nat.zero_le _, Nat.zero_le _⟩ (fun H locs hP hS => ?_)
      refine lv_aload_n hx hb dX9_addHouse_33 rfl (lv_at hl 0 rfl) ?_
      obtain ⟨x10, s11, hc12, hf⟩ := ob2_e hf
      refine w_ci ⟨hx, hb, hml, hown, hts⟩ hP hK hS (k9_addHouseNow l hX w hc12) hc_118 (w_recv hP hK (by decide) emb_mm rfl) rfl hl.1 rfl (Nat.le_of_ble_eq_true rfl) dX9_addHouse_34 ⟨Nat.zero_le _, Nat.zero_le _⟩ (fun H locs hP hS => ?_)
      have hf := Option.some.inj hf
      simp only [Prod.mk.injEq] at hf
      obtain ⟨rfl, rfl, rfl, rfl⟩ := hf
      rw [hQ]
      exact w_iret hx hb hr hlocks hP hK hS dX9_addHouse_37 rfl rfl
    · rw [if_neg h6] at hf
      refine lv_iconst (v := 0) hx hb dX9_addHouse_27 (by decide) ?_
      have hf := Option.some.inj hf
      simp only [Prod.mk.injEq] at hf
      obtain ⟨rfl, rfl, rfl, rfl⟩ := hf
      rw [hQ]
      exact w_iret hx hb hr hlocks hP hK hS dX9_addHouse_28 rfl rfl
  clear hf
  refine lv_icmp_ne (tgt := 16) hx hb dX9_addHouse_9 (by decide) (fun h2 => ?_) (fun h2 => ?_)
  · rw [if_neg h2] at ejK4
    refine lv_iconst (v := 0) hx hb dX9_addHouse_16 (by decide) ?_
    obtain rfl := ejK4
    exact K4 _ _ _ hP hS (lv_sub hl [0] rfl)
  · rw [if_pos h2] at ejK4
    refine lv_iconst (v := 1) hx hb dX9_addHouse_12 (by decide) ?_
    refine lv_goto (tgt := 17) hx hb dX9_addHouse_13 (by decide) ?_
    obtain rfl := ejK4
    exact K4 _ _ _ hP hS (lv_sub hl [0] rfl)
abbrev rmX9_doughCode : Room := { frames := 2, cells := 0, slots := 0, locals := 43 }
theorem iX9_doughCode_X9 : ∀ w ∈ wsX90, w ∈ wsX9_doughCode := by decide +kernel
set_option maxHeartbeats 4000000 in
set_option maxRecDepth 100000 in
theorem k9_doughCode (l : Launch) {X : bkX} {b0 : Nat} (hX : XO X b0) (w : bkW) {s0 : Nat → Int32} {u0 : Nat → Int32} {sv0 : Nat → Int32} {tx0 : Nat → Int32} {ow0 : Nat → Int32} {rs0 : Nat → Int64} {rn0 : Nat → Int32} {nu0 : Nat → Int32} {q0 : Nat → Int32} {a1 : Int32} {a2 : Int32} {a3 : Int32} {res9 : Int32} (hf : m9_doughCode s0 a1 a2 a3 = some res9) : cI l yX9_doughCode wsX9_doughCode rmX9_doughCode X b0 [.ref (xa X 314), .int a1, .int a2, .int a3] (pmm w s0 u0 sv0 tx0 ow0 rs0 rn0 nu0 q0) res9 (pmm w s0 u0 sv0 tx0 ow0 rs0 rn0 nu0 q0) := by
  refine Met.ofW (cc := cX9_doughCode) (maxL := 4) (ret := (some .int)) (by decide) rfl ?_
  intro p e s m args below meth c s₁ B hml hv
  obtain ⟨ha, hP, hK⟩ := hv
  have hx := B.exec
  have hb := B.bytes
  have hr := B.returns
  have hts := atoms_spec (ws := wsX9_doughCode) B.pre
  have hown : s.vm.findClass RX9 = some m.cls := findClass_of_methodNamed B.named
  have hlocks := B.notSynchronized
  obtain ⟨R, hR⟩ : ∃ R, R = (headSpec wsX9_doughCode rmX9_doughCode).room := ⟨_, rfl⟩
  rw [← hR]
  have hR1 : R.frames = 2 := by rw [hR]; rfl
  have hR2 : R.locals = 43 := by rw [hR]; rfl
  obtain ⟨Q, hQ⟩ : ∃ Q : State → Prop, Q = MQ below (va_Qi (fun r' (_ : Unit) => r' = res9) (fun _ t => WU X (pmm w s0 u0 sv0 tx0 ow0 rs0 rn0 nu0 q0) t) (xF b0)) args s 0 0 (xF b0) := ⟨_, rfl⟩
  rw [← hQ]
  have hS : va_S (xF b0) s.heap s.heap [] := va_S.rf
  have hl := lv_entry ([.ref (xa X 314), .int a1, .int a2, .int a3]) (n := 4) (Nat.le_of_ble_eq_true rfl)
  refine W.eq ((congrArg (fun z => entryFrame m z 4) ha).trans (lg_entry_eq m _ 4)) ?_
  generalize (lg_sl ([.ref (xa X 314), .int a1, .int a2, .int a3]) ++ List.replicate (4 - (lg_sl ([.ref (xa X 314), .int a1, .int a2, .int a3])).length) Slot.unset).toArray = ls at hl ⊢
  have hl : lv_has ls 4 [(0, .ref (xa X 314)), (1, .int a1), (2, .int a2), (3, .int a3)] := hl
  have hc_122 := (cwV 1 hts gX9_doughCode_X9_isHouse rfl rfl rfl (by decide +kernel) ⟨by rw [hR1]; exact Nat.le_of_ble_eq_true rfl, by rw [hR2]; exact Nat.le_of_ble_eq_true rfl⟩ : CallW R s args RX9 RX9 122 yX9_isHouse cX9_isHouse 2 (some .boolean) wsX9_isHouse rmX9_isHouse 0 0 1)
  have hc_126 := (cwV 1 hts gX9_doughCode_X9_isKind rfl rfl rfl (by decide +kernel) ⟨by rw [hR1]; exact Nat.le_of_ble_eq_true rfl, by rw [hR2]; exact Nat.le_of_ble_eq_true rfl⟩ : CallW R s args RX9 RX9 126 yX9_isKind cX9_isKind 2 (some .boolean) wsX9_isKind rmX9_isKind 0 0 1)
  have hc_49 := (cwS 3 hts gX9_doughCode_X9_in rfl rfl rfl (by decide +kernel) ⟨by rw [hR1]; exact Nat.le_of_ble_eq_true rfl, by rw [hR2]; exact Nat.le_of_ble_eq_true rfl⟩ : CallB R s args RX9 49 yX9_in cX9_in 3 (some .boolean) wsX9_in rmX9_in 0 0 3 ∧ (Cond.static yX9_in).before args s = true)
  have hk_f7 := hts (.fieldLink RX9 7 "BakeTurnsModel" "s" "[I") (by decide +kernel)
  unfold m9_doughCode at hf
  refine lv_aload_n hx hb dX9_doughCode_0 rfl (lv_at hl 0 rfl) ?_
  refine lv_iload_n hx hb dX9_doughCode_1 rfl (lv_at hl 1 rfl) ?_
  obtain ⟨x1, hc2, hf⟩ := ob1_e hf
  refine w_ci ⟨hx, hb, hml, hown, hts⟩ hP hK hS (k9_isHouse l hX w hc2) hc_122 (w_recv hP hK (by decide) emb_mm rfl) rfl hl.1 rfl (Nat.le_of_ble_eq_true rfl) dX9_doughCode_2 ⟨Nat.zero_le _, Nat.zero_le _⟩ (fun H locs hP hS => ?_)
  refine lv_if_eq (tgt := 16) hx hb dX9_doughCode_5 (by decide) (fun h3 => ?_) (fun h3 => ?_)
  · rw [if_pos h3] at hf
    refine lv_iconst (v := 1) hx hb dX9_doughCode_16 (by decide) ?_
    have hf := Option.some.inj hf
    obtain rfl := hf
    rw [hQ]
    exact w_iret hx hb hr hlocks hP hK hS dX9_doughCode_17 rfl rfl
  · rw [if_neg h3] at hf
    refine lv_aload_n hx hb dX9_doughCode_8 rfl (lv_at hl 0 rfl) ?_
    refine lv_iload_n hx hb dX9_doughCode_9 rfl (lv_at hl 2 rfl) ?_
    obtain ⟨x4, hc5, hf⟩ := ob1_e hf
    refine w_ci ⟨hx, hb, hml, hown, hts⟩ hP hK hS (k9_isKind l hX w hc5) hc_126 (w_recv hP hK (by decide) emb_mm rfl) rfl hl.1 rfl (Nat.le_of_ble_eq_true rfl) dX9_doughCode_10 ⟨Nat.zero_le _, Nat.zero_le _⟩ (fun H locs hP hS => ?_)
    refine lv_if_ne (tgt := 18) hx hb dX9_doughCode_13 (by decide) (fun h6 => ?_) (fun h6 => ?_)
    · rw [if_neg h6] at hf
      refine lv_iload_n hx hb dX9_doughCode_18 rfl (lv_at hl 3 rfl) ?_
      refine lv_iconst (v := 1) hx hb dX9_doughCode_19 (by decide) ?_
      refine lv_iconst (v := 4) hx hb dX9_doughCode_20 (by decide) ?_
      obtain ⟨x7, hc8, hf⟩ := lt1_e hf
      refine w_csi ⟨hx, hb, hml, hown, hts⟩ hP hK hS (k9_in l hX (pmm w s0 u0 sv0 tx0 ow0 rs0 rn0 nu0 q0) hc8) hc_49 rfl hl.1 rfl (Nat.le_of_ble_eq_true rfl) dX9_doughCode_21 ⟨Nat.zero_le _, Nat.zero_le _⟩ (fun H locs hP hS => ?_)
      refine lv_if_ne (tgt := 31) hx hb dX9_doughCode_24 (by decide) (fun h9 => ?_) (fun h9 => ?_)
      · rw [if_neg h9] at hf
        refine lv_aload_n hx hb dX9_doughCode_31 rfl (lv_at hl 0 rfl) ?_
        refine w_get hx hb hts iX9_doughCode_X9 hown hP hK (by decide) emb_mm rfl 1 (by decide) hk_f7 rfl dX9_doughCode_32 ?_
        refine lv_iconst (v := 4) hx hb dX9_doughCode_35 (by decide) ?_
        obtain ⟨hin10, hf⟩ := ck_e hf
        refine ar_ald (g := s0) hx hb AR_s rfl hP hK hin10 dX9_doughCode_36 ?_
        refine lv_bipush (v := 16) hx hb dX9_doughCode_37 (by decide) ?_
        refine lv_icmp_ne (tgt := 46) hx hb dX9_doughCode_39 (by decide) (fun h11 => ?_) (fun h11 => ?_)
        · rw [if_neg h11] at hf
          refine lv_iconst (v := 0) hx hb dX9_doughCode_46 (by decide) ?_
          have hf := Option.some.inj hf
          obtain rfl := hf
          rw [hQ]
          exact w_iret hx hb hr hlocks hP hK hS dX9_doughCode_47 rfl rfl
        · rw [if_pos h11] at hf
          refine lv_iconst (v := 3) hx hb dX9_doughCode_42 (by decide) ?_
          refine lv_goto (tgt := 47) hx hb dX9_doughCode_43 (by decide) ?_
          have hf := Option.some.inj hf
          obtain rfl := hf
          rw [hQ]
          exact w_iret hx hb hr hlocks hP hK hS dX9_doughCode_47 rfl rfl
      · rw [if_pos h9] at hf
        refine lv_iconst (v := 2) hx hb dX9_doughCode_27 (by decide) ?_
        refine lv_goto (tgt := 47) hx hb dX9_doughCode_28 (by decide) ?_
        have hf := Option.some.inj hf
        obtain rfl := hf
        rw [hQ]
        exact w_iret hx hb hr hlocks hP hK hS dX9_doughCode_47 rfl rfl
    · rw [if_pos h6] at hf
      refine lv_iconst (v := 1) hx hb dX9_doughCode_16 (by decide) ?_
      have hf := Option.some.inj hf
      obtain rfl := hf
      rw [hQ]
      exact w_iret hx hb hr hlocks hP hK hS dX9_doughCode_17 rfl rfl
