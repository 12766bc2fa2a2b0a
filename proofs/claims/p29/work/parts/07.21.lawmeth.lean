abbrev rmL_cell : Room := { frames := 0, cells := 0, slots := 0, locals := 0 }
set_option maxHeartbeats 4000000 in
set_option maxRecDepth 100000 in
theorem kL_cell (l : Launch) {b L : Nat} {xs : Nat → Int32} {a1 res9 : Int32} (hf : mL_cell L xs a1 = some res9) : Met l yL_cell wsL_cell rmL_cell (va_Pc [.ref b, .int a1] (fun U => va_X b L xs U U.heap)) (va_Qi (fun r' (_ : Unit) => r' = res9) (fun _ _ => True) (fun _ => False)) 0 0 (fun _ => False) := by
  refine Met.ofW (cc := cL_cell) (maxL := 2) (ret := some .int) (by decide) rfl ?_
  intro p e s m args below meth c s₁ B hml hv
  obtain ⟨ha, hXs⟩ := hv
  have hx := B.exec
  have hb := B.bytes
  have hr := B.returns
  have hlocks := B.notSynchronized
  have hbl : b < s.heap.size := by
    obtain ⟨scr, h1, _⟩ := hXs
    exact (Array.getElem?_eq_some_iff.mp h1).1
  have hS : va_S (fun _ => False) s.heap s.heap [] := va_S.rf
  have hl := lv_entry ([.ref b, .int a1]) (n := 2) (Nat.le_of_ble_eq_true rfl)
  refine W.eq ((congrArg (fun z => entryFrame m z 2) ha).trans (lg_entry_eq m _ 2)) ?_
  generalize (lg_sl ([.ref b, .int a1]) ++ List.replicate (2 - (lg_sl ([.ref b, .int a1])).length) Slot.unset).toArray = ls at hl ⊢
  have hl : lv_has ls 2 [(0, .ref b), (1, .int a1)] := hl
  refine lv_iload_n hx hb dL_cell_0 rfl (lv_at hl 1 rfl) ?_
  refine lv_aload_n hx hb dL_cell_1 rfl (lv_at hl 0 rfl) ?_
  refine va_slen hx hb hXs hbl (fun q => q) hS dL_cell_2 ?_
  unfold mL_cell at hf
  refine lv_icmp_ge (tgt := 12) hx hb dL_cell_3 (by decide) (fun h => ?_) (fun h => ?_)
  · rw [if_pos h] at hf
    have hf := Option.some.inj hf
    refine lv_sipush (v := 7919) hx hb dL_cell_12 (by decide) ?_
    refine lv_iload_n hx hb dL_cell_15 rfl (lv_at hl 1 rfl) ?_
    refine lv_iconst (v := 3) hx hb dL_cell_16 (by decide) ?_
    refine lv_iadd hx hb dL_cell_17 ?_
    refine lv_imul hx hb dL_cell_18 ?_
    refine lv_iload_n hx hb dL_cell_19 rfl (lv_at hl 1 rfl) ?_
    refine lv_bipush (v := 11) hx hb dL_cell_20 (by decide) ?_
    refine lv_iadd hx hb dL_cell_22 ?_
    refine lv_imul hx hb dL_cell_23 ?_
    exact W.iret hx hb hr (fun t ht hW => ⟨⟨_, (), rfl, hf, trivial⟩, hS.F ht⟩) hS.2.2 dL_cell_24 hlocks
  · rw [if_neg h] at hf
    obtain ⟨hin, hf⟩ := ck_e hf
    have hf := Option.some.inj hf
    refine lv_aload_n hx hb dL_cell_6 rfl (lv_at hl 0 rfl) ?_
    refine lv_iload_n hx hb dL_cell_7 rfl (lv_at hl 1 rfl) ?_
    refine va_sld hx hb hXs hbl (fun q => q) hS hin dL_cell_8 ?_
    refine lv_goto (tgt := 24) hx hb dL_cell_9 (by decide) ?_
    exact W.iret hx hb hr (fun t ht hW => ⟨⟨_, (), rfl, hf, trivial⟩, hS.F ht⟩) hS.2.2 dL_cell_24 hlocks
theorem x_blind {b L : Nat} {xs : Nat → Int32} {as : List Value} : FrameBlind (va_Pc as (fun U => va_X b L xs U U.heap)) := fun _ _ _ _ h => ⟨h.1, va_X.moved (Vm.Alike.refl _) h.2⟩
abbrev rmL_low : Room := { frames := 0, cells := 0, slots := 0, locals := 0 }
set_option maxHeartbeats 4000000 in
set_option maxRecDepth 100000 in
theorem kL_low (l : Launch) {X : bkX} {b0 : Nat} (hX : XO X b0) (w : bkW) {a0 : Int32} {a1 : Int32} {res9 : Int32} (hf : mL_low a0 a1 = some res9) : cI l yL_low wsL_low rmL_low X b0 [.int a0, .int a1] w res9 w := by
  refine Met.ofW (cc := cL_low) (maxL := 2) (ret := (some .int)) (by decide) rfl ?_
  intro p e s m args below meth c s₁ B hml hv
  obtain ⟨ha, hP, hK⟩ := hv
  have hx := B.exec
  have hb := B.bytes
  have hr := B.returns
  have hts := atoms_spec (ws := wsL_low) B.pre
  have hown : s.vm.findClass RL = some m.cls := findClass_of_methodNamed B.named
  have hlocks := B.notSynchronized
  obtain ⟨R, hR⟩ : ∃ R, R = (headSpec wsL_low rmL_low).room := ⟨_, rfl⟩
  rw [← hR]
  have hR1 : R.frames = 0 := by rw [hR]; rfl
  have hR2 : R.locals = 0 := by rw [hR]; rfl
  obtain ⟨Q, hQ⟩ : ∃ Q : State → Prop, Q = MQ below (va_Qi (fun r' (_ : Unit) => r' = res9) (fun _ t => WU X w t) (xF b0)) args s 0 0 (xF b0) := ⟨_, rfl⟩
  rw [← hQ]
  have hS : va_S (xF b0) s.heap s.heap [] := va_S.rf
  have hl := lv_entry ([.int a0, .int a1]) (n := 2) (Nat.le_of_ble_eq_true rfl)
  refine W.eq ((congrArg (fun z => entryFrame m z 2) ha).trans (lg_entry_eq m _ 2)) ?_
  generalize (lg_sl ([.int a0, .int a1]) ++ List.replicate (2 - (lg_sl ([.int a0, .int a1])).length) Slot.unset).toArray = ls at hl ⊢
  have hl : lv_has ls 2 [(0, .int a0), (1, .int a1)] := hl
  have hk_c7 := hts (.constant RL 7 2147483647) (by decide +kernel)
  unfold mL_low at hf
  refine lv_iload_n hx hb dL_low_0 rfl (lv_at hl 0 rfl) ?_
  refine lv_ldc (v := 2147483647) hx hb hown hk_c7 dL_low_1 ?_
  refine lv_iand hx hb dL_low_3 ?_
  refine lv_iload_n hx hb dL_low_4 rfl (lv_at hl 1 rfl) ?_
  obtain ⟨hz1, hf⟩ := ckp_e hf
  refine lv_irem hx hb dL_low_5 hz1 ?_
  have hf := Option.some.inj hf
  obtain rfl := hf
  rw [hQ]
  exact w_iret hx hb hr hlocks hP hK hS dL_low_6 rfl rfl
abbrev rmL_many : Room := { frames := 0, cells := 0, slots := 0, locals := 0 }
set_option maxHeartbeats 4000000 in
set_option maxRecDepth 100000 in
theorem kL_many (l : Launch) {X : bkX} {b0 : Nat} (hX : XO X b0) (w : bkW) {N : Nat} {a0 : Int32} {res9 : Int32} (hf : mL_many N a0 = some res9) : cI l yL_many wsL_many rmL_many X b0 [.int a0] w res9 w := by
  refine Met.ofW (cc := cL_many) (maxL := 3) (ret := (some .int)) (by decide) rfl ?_
  intro p e s m args below meth c s₁ B hml hv
  obtain ⟨ha, hP, hK⟩ := hv
  have hx := B.exec
  have hb := B.bytes
  have hr := B.returns
  have hts := atoms_spec (ws := wsL_many) B.pre
  have hown : s.vm.findClass RL = some m.cls := findClass_of_methodNamed B.named
  have hlocks := B.notSynchronized
  obtain ⟨R, hR⟩ : ∃ R, R = (headSpec wsL_many rmL_many).room := ⟨_, rfl⟩
  rw [← hR]
  have hR1 : R.frames = 0 := by rw [hR]; rfl
  have hR2 : R.locals = 0 := by rw [hR]; rfl
  obtain ⟨Q, hQ⟩ : ∃ Q : State → Prop, Q = MQ below (va_Qi (fun r' (_ : Unit) => r' = res9) (fun _ t => WU X w t) (xF b0)) args s 0 0 (xF b0) := ⟨_, rfl⟩
  rw [← hQ]
  have hS : va_S (xF b0) s.heap s.heap [] := va_S.rf
  have hl := lv_entry ([.int a0]) (n := 3) (Nat.le_of_ble_eq_true rfl)
  refine W.eq ((congrArg (fun z => entryFrame m z 3) ha).trans (lg_entry_eq m _ 3)) ?_
  generalize (lg_sl ([.int a0]) ++ List.replicate (3 - (lg_sl ([.int a0])).length) Slot.unset).toArray = ls at hl ⊢
  have hl : lv_has ls 3 [(0, .int a0)] := hl
  unfold mL_many at hf
  refine lv_iconst (v := 0) hx hb dL_many_0 (by decide) ?_
  refine lv_istore_n (lv' := [(1, .int 0), (0, .int a0)]) hx hb dL_many_1 rfl hl (by decide) rfl (fun ls hl => ?_)
  refine lv_iconst (v := 0) hx hb dL_many_2 (by decide) ?_
  refine lv_istore_n (lv' := [(2, .int 0), (1, .int 0), (0, .int a0)]) hx hb dL_many_3 rfl hl (by decide) rfl (fun ls hl => ?_)
  have L4 : ∀ (n : Nat) (x2 : Int32) (x3 : Int32) (x4 : Int32)  (o5 : Int32) (H : Heap) (locs : List Loc) (ls : Array Slot), mL_many_L4 N n x2 x3 x4 = some o5 → HW X w H → va_S (xF b0) s.heap H locs → lv_has ls 3 [(0, .int x2), (1, .int x3), (2, .int x4)] → (∀ (H1 : Heap) (locs1 : List Loc) (ls1 : Array Slot), HW X w H1 → va_S (xF b0) s.heap H1 locs1 → lv_has ls1 3 [(1, .int o5)] → W p l e R s m args below meth c H1 locs1 0 0 Q (F0 m 24 ls1 [])) → W p l e R s m args below meth c H locs 0 0 Q (F0 m 4 ls []) := by
    intro n; induction n with
    | zero => intro x2 x3 x4 o5 H locs ls hf; rw [mL_many_L4] at hf; cases hf
    | succ n ih =>
      intro x2 x3 x4 o5 H locs ls hf hP hS hl K
      rw [mL_many_L4] at hf
      refine lv_iload_n hx hb dL_many_4 rfl (lv_at hl 2 rfl) ?_
      refine lv_bipush (v := 31) hx hb dL_many_5 (by decide) ?_
      refine lv_icmp_ge (tgt := 24) hx hb dL_many_7 (by decide) (fun h6 => ?_) (fun h6 => ?_)
      · rw [if_pos h6] at hf
        have hf := Option.some.inj hf
        obtain rfl := hf
        exact K _ _ _ hP hS (lv_sub hl [1] rfl)
      · rw [if_neg h6] at hf
        refine lv_iload_n hx hb dL_many_10 rfl (lv_at hl 1 rfl) ?_
        refine lv_iload_n hx hb dL_many_11 rfl (lv_at hl 0 rfl) ?_
        refine lv_iload_n hx hb dL_many_12 rfl (lv_at hl 2 rfl) ?_
        refine lv_ishr hx hb dL_many_13 ?_
        refine lv_iconst (v := 1) hx hb dL_many_14 (by decide) ?_
        refine lv_iand hx hb dL_many_15 ?_
        refine lv_iadd hx hb dL_many_16 ?_
        refine lv_topi (fun x7 ex7 => ?_)
        replace hf := ltn_s ex7 hf
        refine lv_istore_n (lv' := [(1, .int x7), (0, .int x2), (2, .int x4)]) hx hb dL_many_17 rfl hl (by decide) rfl (fun ls hl => ?_)
        obtain ⟨x8, ex8⟩ : ∃ y : Int32, y = x4 + 1 := ⟨_, rfl⟩
        replace hf := ltn_s ex8 hf
        refine lv_iinc (v := x8) (lv' := [(2, .int x8), (1, .int x7), (0, .int x2)]) hx hb dL_many_18 hl (k := 2) rfl (by rw [ex8]; rfl) (by decide) rfl (fun ls hl => ?_)
        refine lv_goto (tgt := 4) hx hb dL_many_21 (by decide) ?_
        exact ih x2 x7 x8 o5 _ _ _ hf hP hS (lv_sub hl [2, 1, 0] rfl) K
  obtain ⟨x9, hc10, hf⟩ := ob1_e hf
  refine L4 N a0 0 0  x9 _ _ _ hc10 hP hS (lv_sub hl [2, 1, 0] rfl) (fun H locs ls hP hS hl => ?_)
  refine lv_iload_n hx hb dL_many_24 rfl (lv_at hl 0 rfl) ?_
  have hf := Option.some.inj hf
  obtain rfl := hf
  rw [hQ]
  exact w_iret hx hb hr hlocks hP hK hS dL_many_25 rfl rfl
