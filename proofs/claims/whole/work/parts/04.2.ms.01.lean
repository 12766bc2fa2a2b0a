abbrev rmX9_isFreeIn : Room := { frames := 1, cells := 0, slots := 0, locals := 22 }
set_option maxHeartbeats 4000000 in
set_option maxRecDepth 100000 in
theorem k9_isFreeIn (l : Launch) {X : bkX} {b0 : Nat} (hX : XO X b0) {ca a : Nat} (hA : AR X ca a 265) (w : bkW) {r0 : Nat → Int32} {a1 : Int32} {a2 : Int32} {a3 : Int32} {res9 : Int32} (hf : m9_isFreeIn r0 a1 a2 a3 = some res9) : cI l yX9_isFreeIn wsX9_isFreeIn rmX9_isFreeIn X b0 [.ref (xa X ca), .int a1, .int a2, .int a3] (ua w a r0) res9 (ua w a r0) := by
  refine Met.ofW (cc := cX9_isFreeIn) (maxL := 4) (ret := (some .boolean)) (by decide) rfl ?_
  intro p e s m args below meth c s₁ B hml hv
  obtain ⟨ha, hP, hK⟩ := hv
  have hx := B.exec
  have hb := B.bytes
  have hr := B.returns
  have hts := atoms_spec (ws := wsX9_isFreeIn) B.pre
  have hown : s.vm.findClass RX9 = some m.cls := findClass_of_methodNamed B.named
  have hlocks := B.notSynchronized
  obtain ⟨R, hR⟩ : ∃ R, R = (headSpec wsX9_isFreeIn rmX9_isFreeIn).room := ⟨_, rfl⟩
  rw [← hR]
  have hR1 : R.frames = 1 := by rw [hR]; rfl
  have hR2 : R.locals = 22 := by rw [hR]; rfl
  obtain ⟨Q, hQ⟩ : ∃ Q : State → Prop, Q = MQ below (va_Qi (fun r' (_ : Unit) => r' = res9) (fun _ t => WU X (ua w a r0) t) (xF b0)) args s 0 0 (xF b0) := ⟨_, rfl⟩
  rw [← hQ]
  have hS : va_S (xF b0) s.heap s.heap [] := va_S.rf
  have hl := lv_entry ([.ref (xa X ca), .int a1, .int a2, .int a3]) (n := 4) (Nat.le_of_ble_eq_true rfl)
  refine W.eq ((congrArg (fun z => entryFrame m z 4) ha).trans (lg_entry_eq m _ 4)) ?_
  generalize (lg_sl ([.ref (xa X ca), .int a1, .int a2, .int a3]) ++ List.replicate (4 - (lg_sl ([.ref (xa X ca), .int a1, .int a2, .int a3])).length) Slot.unset).toArray = ls at hl ⊢
  have hl : lv_has ls 4 [(0, .ref (xa X ca)), (1, .int a1), (2, .int a2), (3, .int a3)] := hl
  have hc_68 := (cwS 3 hts gX9_isFreeIn_X9_at rfl rfl rfl (by decide +kernel) ⟨by rw [hR1]; exact Nat.le_of_ble_eq_true rfl, by rw [hR2]; exact Nat.le_of_ble_eq_true rfl⟩ : CallB R s args RX9 68 yX9_at cX9_at 3 (some .int) wsX9_at rmX9_at 0 0 3 ∧ (Cond.static yX9_at).before args s = true)
  have hc_71 := (cwS 2 hts gX9_isFreeIn_X9_heatAt rfl rfl rfl (by decide +kernel) ⟨by rw [hR1]; exact Nat.le_of_ble_eq_true rfl, by rw [hR2]; exact Nat.le_of_ble_eq_true rfl⟩ : CallB R s args RX9 71 yX9_heatAt cX9_heatAt 3 (some .int) wsX9_heatAt rmX9_heatAt 0 0 2 ∧ (Cond.static yX9_heatAt).before args s = true)
  have hc_49 := (cwS 3 hts gX9_isFreeIn_X9_in rfl rfl rfl (by decide +kernel) ⟨by rw [hR1]; exact Nat.le_of_ble_eq_true rfl, by rw [hR2]; exact Nat.le_of_ble_eq_true rfl⟩ : CallB R s args RX9 49 yX9_in cX9_in 3 (some .boolean) wsX9_in rmX9_in 0 0 3 ∧ (Cond.static yX9_in).before args s = true)
  unfold m9_isFreeIn at hf
  refine lv_aload_n hx hb dX9_isFreeIn_0 rfl (lv_at hl 0 rfl) ?_
  refine lv_iload_n hx hb dX9_isFreeIn_1 rfl (lv_at hl 1 rfl) ?_
  refine lv_iconst (v := 0) hx hb dX9_isFreeIn_2 (by decide) ?_
  obtain ⟨x1, hc2, hf⟩ := ob1_e hf
  refine w_csi ⟨hx, hb, hml, hown, hts⟩ hP hK hS (k9_at l hX hA w hc2) hc_68 rfl hl.1 rfl (Nat.le_of_ble_eq_true rfl) dX9_isFreeIn_3 ⟨Nat.zero_le _, Nat.zero_le _⟩ (fun H locs hP hS => ?_)
  refine lv_iconst (v := (-1)) hx hb dX9_isFreeIn_6 (by decide) ?_
  refine lv_icmp_ne (tgt := 27) hx hb dX9_isFreeIn_7 (by decide) (fun h3 => ?_) (fun h3 => ?_)
  · rw [if_neg h3] at hf
    refine lv_iconst (v := 0) hx hb dX9_isFreeIn_27 (by decide) ?_
    have hf := Option.some.inj hf
    obtain rfl := hf
    rw [hQ]
    exact w_zret hx hb hr hlocks hP hK hS dX9_isFreeIn_28 (by decide) rfl rfl
  · rw [if_pos h3] at hf
    refine lv_aload_n hx hb dX9_isFreeIn_10 rfl (lv_at hl 0 rfl) ?_
    refine lv_iload_n hx hb dX9_isFreeIn_11 rfl (lv_at hl 1 rfl) ?_
    obtain ⟨x4, hc5, hf⟩ := ob1_e hf
    refine w_csi ⟨hx, hb, hml, hown, hts⟩ hP hK hS (k9_heatAt l hX hA w hc5) hc_71 rfl hl.1 rfl (Nat.le_of_ble_eq_true rfl) dX9_isFreeIn_12 ⟨Nat.zero_le _, Nat.zero_le _⟩ (fun H locs hP hS => ?_)
    refine lv_iload_n hx hb dX9_isFreeIn_15 rfl (lv_at hl 2 rfl) ?_
    refine lv_iload_n hx hb dX9_isFreeIn_16 rfl (lv_at hl 3 rfl) ?_
    obtain ⟨x6, hc7, hf⟩ := lt1_e hf
    refine w_csi ⟨hx, hb, hml, hown, hts⟩ hP hK hS (k9_in l hX (ua w a r0) hc7) hc_49 rfl hl.1 rfl (Nat.le_of_ble_eq_true rfl) dX9_isFreeIn_17 ⟨Nat.zero_le _, Nat.zero_le _⟩ (fun H locs hP hS => ?_)
    refine lv_if_eq (tgt := 27) hx hb dX9_isFreeIn_20 (by decide) (fun h8 => ?_) (fun h8 => ?_)
    · rw [if_pos h8] at hf
      refine lv_iconst (v := 0) hx hb dX9_isFreeIn_27 (by decide) ?_
      have hf := Option.some.inj hf
      obtain rfl := hf
      rw [hQ]
      exact w_zret hx hb hr hlocks hP hK hS dX9_isFreeIn_28 (by decide) rfl rfl
    · rw [if_neg h8] at hf
      refine lv_iconst (v := 1) hx hb dX9_isFreeIn_23 (by decide) ?_
      refine lv_goto (tgt := 28) hx hb dX9_isFreeIn_24 (by decide) ?_
      have hf := Option.some.inj hf
      obtain rfl := hf
      rw [hQ]
      exact w_zret hx hb hr hlocks hP hK hS dX9_isFreeIn_28 (by decide) rfl rfl
abbrev rmX9_freeIn : Room := { frames := 2, cells := 0, slots := 0, locals := 45 }
set_option maxHeartbeats 4000000 in
set_option maxRecDepth 100000 in
theorem k9_freeIn (l : Launch) {X : bkX} {b0 : Nat} (hX : XO X b0) {ca a : Nat} (hA : AR X ca a 265) (w : bkW) {N : Nat} {r0 : Nat → Int32} {a1 : Int32} {a2 : Int32} {res9 : Int32} (hf : m9_freeIn N r0 a1 a2 = some res9) : cI l yX9_freeIn wsX9_freeIn rmX9_freeIn X b0 [.ref (xa X ca), .int a1, .int a2] (ua w a r0) res9 (ua w a r0) := by
  refine Met.ofW (cc := cX9_freeIn) (maxL := 5) (ret := (some .int)) (by decide) rfl ?_
  intro p e s m args below meth c s₁ B hml hv
  obtain ⟨ha, hP, hK⟩ := hv
  have hx := B.exec
  have hb := B.bytes
  have hr := B.returns
  have hts := atoms_spec (ws := wsX9_freeIn) B.pre
  have hown : s.vm.findClass RX9 = some m.cls := findClass_of_methodNamed B.named
  have hlocks := B.notSynchronized
  obtain ⟨R, hR⟩ : ∃ R, R = (headSpec wsX9_freeIn rmX9_freeIn).room := ⟨_, rfl⟩
  rw [← hR]
  have hR1 : R.frames = 2 := by rw [hR]; rfl
  have hR2 : R.locals = 45 := by rw [hR]; rfl
  obtain ⟨Q, hQ⟩ : ∃ Q : State → Prop, Q = MQ below (va_Qi (fun r' (_ : Unit) => r' = res9) (fun _ t => WU X (ua w a r0) t) (xF b0)) args s 0 0 (xF b0) := ⟨_, rfl⟩
  rw [← hQ]
  have hS : va_S (xF b0) s.heap s.heap [] := va_S.rf
  have hl := lv_entry ([.ref (xa X ca), .int a1, .int a2]) (n := 5) (Nat.le_of_ble_eq_true rfl)
  refine W.eq ((congrArg (fun z => entryFrame m z 5) ha).trans (lg_entry_eq m _ 5)) ?_
  generalize (lg_sl ([.ref (xa X ca), .int a1, .int a2]) ++ List.replicate (5 - (lg_sl ([.ref (xa X ca), .int a1, .int a2])).length) Slot.unset).toArray = ls at hl ⊢
  have hl : lv_has ls 5 [(0, .ref (xa X ca)), (1, .int a1), (2, .int a2)] := hl
  have hc_74 := (cwS 4 hts gX9_freeIn_X9_isFreeIn rfl rfl rfl (by decide +kernel) ⟨by rw [hR1]; exact Nat.le_of_ble_eq_true rfl, by rw [hR2]; exact Nat.le_of_ble_eq_true rfl⟩ : CallB R s args RX9 74 yX9_isFreeIn cX9_isFreeIn 4 (some .boolean) wsX9_isFreeIn rmX9_isFreeIn 0 0 4 ∧ (Cond.static yX9_isFreeIn).before args s = true)
  unfold m9_freeIn at hf
  refine lv_iconst (v := 0) hx hb dX9_freeIn_0 (by decide) ?_
  refine lv_istore_n (lv' := [(3, .int 0), (0, .ref (xa X ca)), (1, .int a1), (2, .int a2)]) hx hb dX9_freeIn_1 rfl hl (by decide) rfl (fun ls hl => ?_)
  refine lv_iconst (v := 0) hx hb dX9_freeIn_2 (by decide) ?_
  refine lv_istore (lv' := [(4, .int 0), (3, .int 0), (0, .ref (xa X ca)), (1, .int a1), (2, .int a2)]) hx hb dX9_freeIn_3 hl (by decide) rfl (fun ls hl => ?_)
  have L5 : ∀ (n : Nat) (x2 : Int32) (x3 : Int32) (x4 : Int32) (x5 : Int32)  (o6 : Int32) (H : Heap) (locs : List Loc) (ls : Array Slot), m9_freeIn_L5 N n x2 x3 x4 x5 r0 = some o6 → HW X (ua w a r0) H → va_S (xF b0) s.heap H locs → lv_has ls 5 [(0, .ref (xa X ca)), (1, .int x2), (2, .int x3), (3, .int x4), (4, .int x5)] → (∀ (H1 : Heap) (locs1 : List Loc) (ls1 : Array Slot), HW X (ua w a r0) H1 → va_S (xF b0) s.heap H1 locs1 → lv_has ls1 5 [(3, .int o6)] → W p l e R s m args below meth c H1 locs1 0 0 Q (F0 m 37 ls1 [])) → W p l e R s m args below meth c H locs 0 0 Q (F0 m 5 ls []) := by
    intro n; induction n with
    | zero => intro x2 x3 x4 x5 o6 H locs ls hf; rw [m9_freeIn_L5] at hf; cases hf
    | succ n ih =>
      intro x2 x3 x4 x5 o6 H locs ls hf hP hS hl K
      rw [m9_freeIn_L5] at hf
      refine lv_iload hx hb dX9_freeIn_5 (lv_at hl 4 rfl) ?_
      refine lv_bipush (v := 12) hx hb dX9_freeIn_7 (by decide) ?_
      refine lv_icmp_ge (tgt := 37) hx hb dX9_freeIn_9 (by decide) (fun h7 => ?_) (fun h7 => ?_)
      · rw [if_pos h7] at hf
        have hf := Option.some.inj hf
        obtain rfl := hf
        exact K _ _ _ hP hS (lv_sub hl [3] rfl)
      · rw [if_neg h7] at hf
        refine lv_iload_n hx hb dX9_freeIn_12 rfl (lv_at hl 3 rfl) ?_
        refine lv_aload_n hx hb dX9_freeIn_13 rfl (lv_at hl 0 rfl) ?_
        refine lv_iload hx hb dX9_freeIn_14 (lv_at hl 4 rfl) ?_
        refine lv_iload_n hx hb dX9_freeIn_16 rfl (lv_at hl 1 rfl) ?_
        refine lv_iload_n hx hb dX9_freeIn_17 rfl (lv_at hl 2 rfl) ?_
        obtain ⟨x8, hc9, hf⟩ := ob1_e hf
        refine w_csi ⟨hx, hb, hml, hown, hts⟩ hP hK hS (k9_isFreeIn l hX hA w hc9) hc_74 rfl hl.1 rfl (Nat.le_of_ble_eq_true rfl) dX9_freeIn_18 ⟨Nat.zero_le _, Nat.zero_le _⟩ (fun H locs hP hS => ?_)
        obtain ⟨x11, ejK12, hf⟩ := lt1_e hf
        have K12 : ∀ (H : Heap) (locs : List Loc) (ls : Array Slot), HW X (ua w a r0) H → va_S (xF b0) s.heap H locs → lv_has ls 5 [(0, .ref (xa X ca)), (1, .int x2), (2, .int x3), (4, .int x5)] → W p l e R s m args below meth c H locs 0 0 Q (F0 m 29 ls [.int x11, .int x4]) := by
          intro H locs ls hP hS hl
          refine lv_iadd hx hb dX9_freeIn_29 ?_
          refine lv_topi (fun x13 ex13 => ?_)
          replace hf := ltn_s ex13 hf
          refine lv_istore_n (lv' := [(3, .int x13), (0, .ref (xa X ca)), (1, .int x2), (2, .int x3), (4, .int x5)]) hx hb dX9_freeIn_30 rfl hl (by decide) rfl (fun ls hl => ?_)
          obtain ⟨x14, ex14⟩ : ∃ y : Int32, y = x5 + 1 := ⟨_, rfl⟩
          replace hf := ltn_s ex14 hf
          refine lv_iinc (v := x14) (lv' := [(4, .int x14), (3, .int x13), (0, .ref (xa X ca)), (1, .int x2), (2, .int x3)]) hx hb dX9_freeIn_31 hl (k := 4) rfl (by rw [ex14]; rfl) (by decide) rfl (fun ls hl => ?_)
          refine lv_goto (tgt := 5) hx hb dX9_freeIn_34 (by decide) ?_
          exact ih x2 x3 x13 x14 o6 _ _ _ hf hP hS (lv_sub hl [2, 3, 4, 1, 0] rfl) K
        clear hf
        refine lv_if_eq (tgt := 28) hx hb dX9_freeIn_21 (by decide) (fun h10 => ?_) (fun h10 => ?_)
        · rw [if_pos h10] at ejK12
          refine lv_iconst (v := 0) hx hb dX9_freeIn_28 (by decide) ?_
          obtain rfl := ejK12
          exact K12 _ _ _ hP hS (lv_sub hl [0, 1, 2, 4] rfl)
        · rw [if_neg h10] at ejK12
          refine lv_iconst (v := 1) hx hb dX9_freeIn_24 (by decide) ?_
          refine lv_goto (tgt := 29) hx hb dX9_freeIn_25 (by decide) ?_
          obtain rfl := ejK12
          exact K12 _ _ _ hP hS (lv_sub hl [0, 1, 2, 4] rfl)
  obtain ⟨x15, hc16, hf⟩ := ob1_e hf
  refine L5 N a1 a2 0 0  x15 _ _ _ hc16 hP hS (lv_sub hl [2, 3, 4, 1, 0] rfl) (fun H locs ls hP hS hl => ?_)
  refine lv_iload_n hx hb dX9_freeIn_37 rfl (lv_at hl 0 rfl) ?_
  have hf := Option.some.inj hf
  obtain rfl := hf
  rw [hQ]
  exact w_iret hx hb hr hlocks hP hK hS dX9_freeIn_38 rfl rfl
abbrev rmX9_reasonOf : Room := { frames := 3, cells := 0, slots := 0, locals := 69 }
set_option maxHeartbeats 4000000 in
set_option maxRecDepth 100000 in
theorem k9_reasonOf (l : Launch) {X : bkX} {b0 : Nat} (hX : XO X b0) {ca a : Nat} (hA : AR X ca a 265) (w : bkW) {N : Nat} {r0 : Nat → Int32} {a1 : Int32} {res9 : Int32} (hf : m9_reasonOf N r0 a1 = some res9) : cI l yX9_reasonOf wsX9_reasonOf rmX9_reasonOf X b0 [.ref (xa X ca), .int a1] (ua w a r0) res9 (ua w a r0) := by
  refine Met.ofW (cc := cX9_reasonOf) (maxL := 3) (ret := (some .int)) (by decide) rfl ?_
  intro p e s m args below meth c s₁ B hml hv
  obtain ⟨ha, hP, hK⟩ := hv
  have hx := B.exec
  have hb := B.bytes
  have hr := B.returns
  have hts := atoms_spec (ws := wsX9_reasonOf) B.pre
  have hown : s.vm.findClass RX9 = some m.cls := findClass_of_methodNamed B.named
  have hlocks := B.notSynchronized
  obtain ⟨R, hR⟩ : ∃ R, R = (headSpec wsX9_reasonOf rmX9_reasonOf).room := ⟨_, rfl⟩
  rw [← hR]
  have hR1 : R.frames = 3 := by rw [hR]; rfl
  have hR2 : R.locals = 69 := by rw [hR]; rfl
  obtain ⟨Q, hQ⟩ : ∃ Q : State → Prop, Q = MQ below (va_Qi (fun r' (_ : Unit) => r' = res9) (fun _ t => WU X (ua w a r0) t) (xF b0)) args s 0 0 (xF b0) := ⟨_, rfl⟩
  rw [← hQ]
  have hS : va_S (xF b0) s.heap s.heap [] := va_S.rf
  have hl := lv_entry ([.ref (xa X ca), .int a1]) (n := 3) (Nat.le_of_ble_eq_true rfl)
  refine W.eq ((congrArg (fun z => entryFrame m z 3) ha).trans (lg_entry_eq m _ 3)) ?_
  generalize (lg_sl ([.ref (xa X ca), .int a1]) ++ List.replicate (3 - (lg_sl ([.ref (xa X ca), .int a1])).length) Slot.unset).toArray = ls at hl ⊢
  have hl : lv_has ls 3 [(0, .ref (xa X ca)), (1, .int a1)] := hl
  have hc_42 := (cwS 3 hts gX9_reasonOf_X9_of rfl rfl rfl (by decide +kernel) ⟨by rw [hR1]; exact Nat.le_of_ble_eq_true rfl, by rw [hR2]; exact Nat.le_of_ble_eq_true rfl⟩ : CallB R s args RX9 42 yX9_of cX9_of 3 (some .int) wsX9_of rmX9_of 0 0 3 ∧ (Cond.static yX9_of).before args s = true)
  have hc_61 := (cwS 3 hts gX9_reasonOf_X9_byKind rfl rfl rfl (by decide +kernel) ⟨by rw [hR1]; exact Nat.le_of_ble_eq_true rfl, by rw [hR2]; exact Nat.le_of_ble_eq_true rfl⟩ : CallB R s args RX9 61 yX9_byKind cX9_byKind 3 (some .int) wsX9_byKind rmX9_byKind 0 0 3 ∧ (Cond.static yX9_byKind).before args s = true)
  have hc_78 := (cwS 3 hts gX9_reasonOf_X9_freeIn rfl rfl rfl (by decide +kernel) ⟨by rw [hR1]; exact Nat.le_of_ble_eq_true rfl, by rw [hR2]; exact Nat.le_of_ble_eq_true rfl⟩ : CallB R s args RX9 78 yX9_freeIn cX9_freeIn 5 (some .int) wsX9_freeIn rmX9_freeIn 0 0 3 ∧ (Cond.static yX9_freeIn).before args s = true)
  unfold m9_reasonOf at hf
  refine lv_aload_n hx hb dX9_reasonOf_0 rfl (lv_at hl 0 rfl) ?_
  refine lv_iload_n hx hb dX9_reasonOf_1 rfl (lv_at hl 1 rfl) ?_
  refine lv_iconst (v := 2) hx hb dX9_reasonOf_2 (by decide) ?_
  obtain ⟨x1, hc2, hf⟩ := ob1_e hf
  refine w_csi ⟨hx, hb, hml, hown, hts⟩ hP hK hS (k9_of l hX hA w hc2) hc_42 rfl hl.1 rfl (Nat.le_of_ble_eq_true rfl) dX9_reasonOf_3 ⟨Nat.zero_le _, Nat.zero_le _⟩ (fun H locs hP hS => ?_)
  refine lv_istore_n (lv' := [(2, .int x1), (0, .ref (xa X ca)), (1, .int a1)]) hx hb dX9_reasonOf_6 rfl hl (by decide) rfl (fun ls hl => ?_)
  refine lv_aload_n hx hb dX9_reasonOf_7 rfl (lv_at hl 1 rfl) ?_
  refine lv_iload_n hx hb dX9_reasonOf_8 rfl (lv_at hl 2 rfl) ?_
  refine lv_iconst (v := 3) hx hb dX9_reasonOf_9 (by decide) ?_
  obtain ⟨x3, hc4, hf⟩ := ob1_e hf
  refine w_csi ⟨hx, hb, hml, hown, hts⟩ hP hK hS (k9_of l hX hA w hc4) hc_42 rfl hl.1 rfl (Nat.le_of_ble_eq_true rfl) dX9_reasonOf_10 ⟨Nat.zero_le _, Nat.zero_le _⟩ (fun H locs hP hS => ?_)
  refine lv_aload_n hx hb dX9_reasonOf_13 rfl (lv_at hl 1 rfl) ?_
  refine lv_iload_n hx hb dX9_reasonOf_14 rfl (lv_at hl 2 rfl) ?_
  refine lv_iconst (v := 3) hx hb dX9_reasonOf_15 (by decide) ?_
  obtain ⟨x5, hc6, hf⟩ := ob1_e hf
  refine w_csi ⟨hx, hb, hml, hown, hts⟩ hP hK hS (k9_byKind l hX hA w hc6) hc_61 rfl hl.1 rfl (Nat.le_of_ble_eq_true rfl) dX9_reasonOf_16 ⟨Nat.zero_le _, Nat.zero_le _⟩ (fun H locs hP hS => ?_)
  refine lv_icmp_ge (tgt := 24) hx hb dX9_reasonOf_19 (by decide) (fun h7 => ?_) (fun h7 => ?_)
  · rw [if_pos h7] at hf
    refine lv_aload_n hx hb dX9_reasonOf_24 rfl (lv_at hl 1 rfl) ?_
    refine lv_iconst (v := 0) hx hb dX9_reasonOf_25 (by decide) ?_
    refine lv_sipush (v := 400) hx hb dX9_reasonOf_26 (by decide) ?_
    obtain ⟨x8, hc9, hf⟩ := ob1_e hf
    refine w_csi ⟨hx, hb, hml, hown, hts⟩ hP hK hS (k9_freeIn l hX hA w hc9) hc_78 rfl hl.1 rfl (Nat.le_of_ble_eq_true rfl) dX9_reasonOf_29 ⟨Nat.zero_le _, Nat.zero_le _⟩ (fun H locs hP hS => ?_)
    refine lv_iload_n hx hb dX9_reasonOf_32 rfl (lv_at hl 0 rfl) ?_
    refine lv_icmp_ge (tgt := 38) hx hb dX9_reasonOf_33 (by decide) (fun h10 => ?_) (fun h10 => ?_)
    · rw [if_pos h10] at hf
      refine lv_aload_n hx hb dX9_reasonOf_38 rfl (lv_at hl 1 rfl) ?_
      refine lv_aload_n hx hb dX9_reasonOf_39 rfl (lv_at hl 1 rfl) ?_
      refine lv_iload_n hx hb dX9_reasonOf_40 rfl (lv_at hl 2 rfl) ?_
      refine lv_iconst (v := 0) hx hb dX9_reasonOf_41 (by decide) ?_
      obtain ⟨x11, hc12, hf⟩ := ob1_e hf
      refine w_csi ⟨hx, hb, hml, hown, hts⟩ hP hK hS (k9_byKind l hX hA w hc12) hc_61 rfl hl.1 rfl (Nat.le_of_ble_eq_true rfl) dX9_reasonOf_42 ⟨Nat.zero_le _, Nat.zero_le _⟩ (fun H locs hP hS => ?_)
      refine lv_sipush (v := 400) hx hb dX9_reasonOf_45 (by decide) ?_
      obtain ⟨x13, hc14, hf⟩ := ob1_e hf
      refine w_csi ⟨hx, hb, hml, hown, hts⟩ hP hK hS (k9_freeIn l hX hA w hc14) hc_78 rfl hl.1 rfl (Nat.le_of_ble_eq_true rfl) dX9_reasonOf_48 ⟨Nat.zero_le _, Nat.zero_le _⟩ (fun H locs hP hS => ?_)
      refine lv_iload_n hx hb dX9_reasonOf_51 rfl (lv_at hl 0 rfl) ?_
      refine lv_icmp_ge (tgt := 57) hx hb dX9_reasonOf_52 (by decide) (fun h15 => ?_) (fun h15 => ?_)
      · rw [if_pos h15] at hf
        refine lv_aload_n hx hb dX9_reasonOf_57 rfl (lv_at hl 1 rfl) ?_
        refine lv_aload_n hx hb dX9_reasonOf_58 rfl (lv_at hl 1 rfl) ?_
        refine lv_iload_n hx hb dX9_reasonOf_59 rfl (lv_at hl 2 rfl) ?_
        refine lv_iconst (v := 0) hx hb dX9_reasonOf_60 (by decide) ?_
        obtain ⟨x16, hc17, hf⟩ := ob1_e hf
        refine w_csi ⟨hx, hb, hml, hown, hts⟩ hP hK hS (k9_byKind l hX hA w hc17) hc_61 rfl hl.1 rfl (Nat.le_of_ble_eq_true rfl) dX9_reasonOf_61 ⟨Nat.zero_le _, Nat.zero_le _⟩ (fun H locs hP hS => ?_)
        refine lv_aload_n hx hb dX9_reasonOf_64 rfl (lv_at hl 1 rfl) ?_
        refine lv_iload_n hx hb dX9_reasonOf_65 rfl (lv_at hl 2 rfl) ?_
        refine lv_iconst (v := 1) hx hb dX9_reasonOf_66 (by decide) ?_
        obtain ⟨x18, hc19, hf⟩ := ob1_e hf
        refine w_csi ⟨hx, hb, hml, hown, hts⟩ hP hK hS (k9_byKind l hX hA w hc19) hc_61 rfl hl.1 rfl (Nat.le_of_ble_eq_true rfl) dX9_reasonOf_67 ⟨Nat.zero_le _, Nat.zero_le _⟩ (fun H locs hP hS => ?_)
        obtain ⟨x20, hc21, hf⟩ := ob1_e hf
        refine w_csi ⟨hx, hb, hml, hown, hts⟩ hP hK hS (k9_freeIn l hX hA w hc21) hc_78 rfl hl.1 rfl (Nat.le_of_ble_eq_true rfl) dX9_reasonOf_70 ⟨Nat.zero_le _, Nat.zero_le _⟩ (fun H locs hP hS => ?_)
        refine lv_iload_n hx hb dX9_reasonOf_73 rfl (lv_at hl 0 rfl) ?_
        refine lv_icmp_ge (tgt := 81) hx hb dX9_reasonOf_74 (by decide) (fun h22 => ?_) (fun h22 => ?_)
        · rw [if_pos h22] at hf
          refine lv_iconst (v := 0) hx hb dX9_reasonOf_81 (by decide) ?_
          have hf := Option.some.inj hf
          obtain rfl := hf
          rw [hQ]
          exact w_iret hx hb hr hlocks hP hK hS dX9_reasonOf_82 rfl rfl
        · rw [if_neg h22] at hf
          refine lv_iconst (v := 5) hx hb dX9_reasonOf_77 (by decide) ?_
          refine lv_goto (tgt := 82) hx hb dX9_reasonOf_78 (by decide) ?_
          have hf := Option.some.inj hf
          obtain rfl := hf
          rw [hQ]
          exact w_iret hx hb hr hlocks hP hK hS dX9_reasonOf_82 rfl rfl
      · rw [if_neg h15] at hf
        refine lv_iconst (v := 4) hx hb dX9_reasonOf_55 (by decide) ?_
        have hf := Option.some.inj hf
        obtain rfl := hf
        rw [hQ]
        exact w_iret hx hb hr hlocks hP hK hS dX9_reasonOf_56 rfl rfl
    · rw [if_neg h10] at hf
      refine lv_iconst (v := 3) hx hb dX9_reasonOf_36 (by decide) ?_
      have hf := Option.some.inj hf
      obtain rfl := hf
      rw [hQ]
      exact w_iret hx hb hr hlocks hP hK hS dX9_reasonOf_37 rfl rfl
  · rw [if_neg h7] at hf
    refine lv_iconst (v := 2) hx hb dX9_reasonOf_22 (by decide) ?_
    have hf := Option.some.inj hf
    obtain rfl := hf
    rw [hQ]
    exact w_iret hx hb hr hlocks hP hK hS dX9_reasonOf_23 rfl rfl
abbrev rmX9_load : Room := { frames := 2, cells := 0, slots := 0, locals := 46 }
set_option maxHeartbeats 4000000 in
set_option maxRecDepth 100000 in
theorem k9_load (l : Launch) {X : bkX} {b0 : Nat} (hX : XO X b0) {ca a : Nat} (hA : AR X ca a 265) (w : bkW) {N : Nat} {r0 : Nat → Int32} {a1 : Int32} {r9 : Nat → Int32} (hf : m9_load N r0 a1 = some r9) : cV l yX9_load wsX9_load rmX9_load X b0 [.ref (xa X ca), .int a1] (ua w a r0) (ua w a r9) := by
  refine Met.ofW (cc := cX9_load) (maxL := 4) (ret := none) (by decide) rfl ?_
  intro p e s m args below meth c s₁ B hml hv
  obtain ⟨ha, hP, hK⟩ := hv
  have hx := B.exec
  have hb := B.bytes
  have hr := B.returns
  have hts := atoms_spec (ws := wsX9_load) B.pre
  have hown : s.vm.findClass RX9 = some m.cls := findClass_of_methodNamed B.named
  have hlocks := B.notSynchronized
  obtain ⟨R, hR⟩ : ∃ R, R = (headSpec wsX9_load rmX9_load).room := ⟨_, rfl⟩
  rw [← hR]
  have hR1 : R.frames = 2 := by rw [hR]; rfl
  have hR2 : R.locals = 46 := by rw [hR]; rfl
  obtain ⟨Q, hQ⟩ : ∃ Q : State → Prop, Q = MQ below (va_Qv (fun (_ : Unit) => True) (fun _ t => WU X (ua w a r9) t) (xF b0)) args s 0 0 (xF b0) := ⟨_, rfl⟩
  rw [← hQ]
  have hS : va_S (xF b0) s.heap s.heap [] := va_S.rf
  have hl := lv_entry ([.ref (xa X ca), .int a1]) (n := 4) (Nat.le_of_ble_eq_true rfl)
  refine W.eq ((congrArg (fun z => entryFrame m z 4) ha).trans (lg_entry_eq m _ 4)) ?_
  generalize (lg_sl ([.ref (xa X ca), .int a1]) ++ List.replicate (4 - (lg_sl ([.ref (xa X ca), .int a1])).length) Slot.unset).toArray = ls at hl ⊢
  have hl : lv_has ls 4 [(0, .ref (xa X ca)), (1, .int a1)] := hl
  have hc_64 := (cwS 2 hts gX9_load_X9_leaveLine rfl rfl rfl (by decide +kernel) ⟨by rw [hR1]; exact Nat.le_of_ble_eq_true rfl, by rw [hR2]; exact Nat.le_of_ble_eq_true rfl⟩ : CallB R s args RX9 64 yX9_leaveLine cX9_leaveLine 4 none wsX9_leaveLine rmX9_leaveLine 0 0 2 ∧ (Cond.static yX9_leaveLine).before args s = true)
  have hc_57 := (cwS 4 hts gX9_load_X9_put rfl rfl rfl (by decide +kernel) ⟨by rw [hR1]; exact Nat.le_of_ble_eq_true rfl, by rw [hR2]; exact Nat.le_of_ble_eq_true rfl⟩ : CallB R s args RX9 57 yX9_put cX9_put 4 none wsX9_put rmX9_put 0 0 4 ∧ (Cond.static yX9_put).before args s = true)
  have hc_42 := (cwS 3 hts gX9_load_X9_of rfl rfl rfl (by decide +kernel) ⟨by rw [hR1]; exact Nat.le_of_ble_eq_true rfl, by rw [hR2]; exact Nat.le_of_ble_eq_true rfl⟩ : CallB R s args RX9 42 yX9_of cX9_of 3 (some .int) wsX9_of rmX9_of 0 0 3 ∧ (Cond.static yX9_of).before args s = true)
  have hc_61 := (cwS 3 hts gX9_load_X9_byKind rfl rfl rfl (by decide +kernel) ⟨by rw [hR1]; exact Nat.le_of_ble_eq_true rfl, by rw [hR2]; exact Nat.le_of_ble_eq_true rfl⟩ : CallB R s args RX9 61 yX9_byKind cX9_byKind 3 (some .int) wsX9_byKind rmX9_byKind 0 0 3 ∧ (Cond.static yX9_byKind).before args s = true)
  have hc_74 := (cwS 4 hts gX9_load_X9_isFreeIn rfl rfl rfl (by decide +kernel) ⟨by rw [hR1]; exact Nat.le_of_ble_eq_true rfl, by rw [hR2]; exact Nat.le_of_ble_eq_true rfl⟩ : CallB R s args RX9 74 yX9_isFreeIn cX9_isFreeIn 4 (some .boolean) wsX9_isFreeIn rmX9_isFreeIn 0 0 4 ∧ (Cond.static yX9_isFreeIn).before args s = true)
  unfold m9_load at hf
  refine lv_aload_n hx hb dX9_load_0 rfl (lv_at hl 0 rfl) ?_
  refine lv_iload_n hx hb dX9_load_1 rfl (lv_at hl 1 rfl) ?_
  obtain ⟨r1, hc2, hf⟩ := ob1_e hf
  refine w_csv ⟨hx, hb, hml, hown, hts⟩ hP hK hS (k9_leaveLine l hX hA w hc2) hc_64 rfl hl.1 rfl (Nat.le_of_ble_eq_true rfl) dX9_load_2 ⟨Nat.zero_le _, Nat.zero_le _⟩ (fun H locs hP hS => ?_)
  refine lv_aload_n hx hb dX9_load_5 rfl (lv_at hl 0 rfl) ?_
  refine lv_iload_n hx hb dX9_load_6 rfl (lv_at hl 1 rfl) ?_
  refine lv_iconst (v := 4) hx hb dX9_load_7 (by decide) ?_
  refine lv_iconst (v := 1) hx hb dX9_load_8 (by decide) ?_
  obtain ⟨r3, hc4, hf⟩ := ob1_e hf
  refine w_csv ⟨hx, hb, hml, hown, hts⟩ hP hK hS (k9_put l hX hA w hc4) hc_57 rfl hl.1 rfl (Nat.le_of_ble_eq_true rfl) dX9_load_9 ⟨Nat.zero_le _, Nat.zero_le _⟩ (fun H locs hP hS => ?_)
  refine lv_aload_n hx hb dX9_load_12 rfl (lv_at hl 0 rfl) ?_
  refine lv_iload_n hx hb dX9_load_13 rfl (lv_at hl 1 rfl) ?_
  refine lv_bipush (v := 6) hx hb dX9_load_14 (by decide) ?_
  refine lv_aload_n hx hb dX9_load_16 rfl (lv_at hl 0 rfl) ?_
  refine lv_iconst (v := 1) hx hb dX9_load_17 (by decide) ?_
  obtain ⟨hin5, hf⟩ := ck_e hf
  refine ar_ald (g := r3) hx hb hA ur_s hP hK hin5 dX9_load_18 ?_
  obtain ⟨r6, hc7, hf⟩ := ob1_e hf
  refine w_csv ⟨hx, hb, hml, hown, hts⟩ hP hK hS (k9_put l hX hA w hc7) hc_57 rfl hl.1 rfl (Nat.le_of_ble_eq_true rfl) dX9_load_19 ⟨Nat.zero_le _, Nat.zero_le _⟩ (fun H locs hP hS => ?_)
  refine lv_aload_n hx hb dX9_load_22 rfl (lv_at hl 0 rfl) ?_
  refine lv_iload_n hx hb dX9_load_23 rfl (lv_at hl 1 rfl) ?_
  refine lv_iconst (v := 2) hx hb dX9_load_24 (by decide) ?_
  obtain ⟨x8, hc9, hf⟩ := ob1_e hf
  refine w_csi ⟨hx, hb, hml, hown, hts⟩ hP hK hS (k9_of l hX hA w hc9) hc_42 rfl hl.1 rfl (Nat.le_of_ble_eq_true rfl) dX9_load_25 ⟨Nat.zero_le _, Nat.zero_le _⟩ (fun H locs hP hS => ?_)
  refine lv_istore_n (lv' := [(2, .int x8), (0, .ref (xa X ca)), (1, .int a1)]) hx hb dX9_load_28 rfl hl (by decide) rfl (fun ls hl => ?_)
  refine lv_iconst (v := 0) hx hb dX9_load_29 (by decide) ?_
  refine lv_istore_n (lv' := [(3, .int 0), (2, .int x8), (0, .ref (xa X ca)), (1, .int a1)]) hx hb dX9_load_30 rfl hl (by decide) rfl (fun ls hl => ?_)
  have L31 : ∀ (n : Nat) (x11 : Int32) (x12 : Int32) (x13 : Int32) (r14 : Nat → Int32) (or15 : Nat → Int32) (H : Heap) (locs : List Loc) (ls : Array Slot), m9_load_L31 N n x11 x12 x13 r14 = some or15 → HW X (ua w a r14) H → va_S (xF b0) s.heap H locs → lv_has ls 4 [(0, .ref (xa X ca)), (1, .int x11), (2, .int x12), (3, .int x13)] → (∀ (H1 : Heap) (locs1 : List Loc) (ls1 : Array Slot), HW X (ua w a or15) H1 → va_S (xF b0) s.heap H1 locs1 → lv_has ls1 4 [(0, .ref (xa X ca))] → W p l e R s m args below meth c H1 locs1 0 0 Q (F0 m 106 ls1 [])) → W p l e R s m args below meth c H locs 0 0 Q (F0 m 31 ls []) := by
    intro n; induction n with
    | zero => intro x11 x12 x13 r14 or15 H locs ls hf; rw [m9_load_L31] at hf; cases hf
    | succ n ih =>
      intro x11 x12 x13 r14 or15 H locs ls hf hP hS hl K
      rw [m9_load_L31] at hf
      refine lv_iload_n hx hb dX9_load_31 rfl (lv_at hl 3 rfl) ?_
      refine lv_bipush (v := 12) hx hb dX9_load_32 (by decide) ?_
      refine lv_icmp_ge (tgt := 106) hx hb dX9_load_34 (by decide) (fun h16 => ?_) (fun h16 => ?_)
      · rw [if_pos h16] at hf
        have hf := Option.some.inj hf
        obtain rfl := hf
        exact K _ _ _ hP hS (lv_sub hl [0] rfl)
      · rw [if_neg h16] at hf
        refine lv_iload_n hx hb dX9_load_37 rfl (lv_at hl 2 rfl) ?_
        refine lv_if_le (tgt := 106) hx hb dX9_load_38 (by decide) (fun h17 => ?_) (fun h17 => ?_)
        · rw [if_pos h17] at hf
          have hf := Option.some.inj hf
          obtain rfl := hf
          exact K _ _ _ hP hS (lv_sub hl [0] rfl)
        · rw [if_neg h17] at hf
          refine lv_aload_n hx hb dX9_load_41 rfl (lv_at hl 0 rfl) ?_
          refine lv_iload_n hx hb dX9_load_42 rfl (lv_at hl 3 rfl) ?_
          refine lv_aload_n hx hb dX9_load_43 rfl (lv_at hl 0 rfl) ?_
          refine lv_iload_n hx hb dX9_load_44 rfl (lv_at hl 1 rfl) ?_
          refine lv_iconst (v := 0) hx hb dX9_load_45 (by decide) ?_
          obtain ⟨x18, hc19, hf⟩ := ob1_e hf
          refine w_csi ⟨hx, hb, hml, hown, hts⟩ hP hK hS (k9_byKind l hX hA w hc19) hc_61 rfl hl.1 rfl (Nat.le_of_ble_eq_true rfl) dX9_load_46 ⟨Nat.zero_le _, Nat.zero_le _⟩ (fun H locs hP hS => ?_)
          refine lv_aload_n hx hb dX9_load_49 rfl (lv_at hl 0 rfl) ?_
          refine lv_iload_n hx hb dX9_load_50 rfl (lv_at hl 1 rfl) ?_
          refine lv_iconst (v := 1) hx hb dX9_load_51 (by decide) ?_
          obtain ⟨x20, hc21, hf⟩ := ob1_e hf
          refine w_csi ⟨hx, hb, hml, hown, hts⟩ hP hK hS (k9_byKind l hX hA w hc21) hc_61 rfl hl.1 rfl (Nat.le_of_ble_eq_true rfl) dX9_load_52 ⟨Nat.zero_le _, Nat.zero_le _⟩ (fun H locs hP hS => ?_)
          obtain ⟨x22, hc23, hf⟩ := ob1_e hf
          refine w_csi ⟨hx, hb, hml, hown, hts⟩ hP hK hS (k9_isFreeIn l hX hA w hc23) hc_74 rfl hl.1 rfl (Nat.le_of_ble_eq_true rfl) dX9_load_55 ⟨Nat.zero_le _, Nat.zero_le _⟩ (fun H locs hP hS => ?_)
          obtain ⟨x32, r33, ejK34, hf⟩ := ob2_e hf
          have K34 : ∀ (H : Heap) (locs : List Loc) (ls : Array Slot), HW X (ua w a r33) H → va_S (xF b0) s.heap H locs → lv_has ls 4 [(0, .ref (xa X ca)), (1, .int x11), (2, .int x32), (3, .int x13)] → W p l e R s m args below meth c H locs 0 0 Q (F0 m 100 ls []) := by
            intro H locs ls hP hS hl
            obtain ⟨x42, ex42⟩ : ∃ y : Int32, y = x13 + 1 := ⟨_, rfl⟩
            replace hf := ltn_s ex42 hf
            refine lv_iinc (v := x42) (lv' := [(3, .int x42), (0, .ref (xa X ca)), (1, .int x11), (2, .int x32)]) hx hb dX9_load_100 hl (k := 3) rfl (by rw [ex42]; rfl) (by decide) rfl (fun ls hl => ?_)
            refine lv_goto (tgt := 31) hx hb dX9_load_103 (by decide) ?_
            exact ih x11 x32 x42 r33 or15 _ _ _ hf hP hS (lv_sub hl [1, 2, 3, 0] rfl) K
          clear hf
          refine lv_if_eq (tgt := 100) hx hb dX9_load_58 (by decide) (fun h24 => ?_) (fun h24 => ?_)
          · rw [if_pos h24] at ejK34
            have ejK34 := Option.some.inj ejK34
            simp only [Prod.mk.injEq] at ejK34
            obtain ⟨rfl, rfl⟩ := ejK34
            exact K34 _ _ _ hP hS (lv_sub hl [0, 1, 2, 3] rfl)
          · rw [if_neg h24] at ejK34
            refine lv_aload_n hx hb dX9_load_61 rfl (lv_at hl 0 rfl) ?_
            refine lv_sipush (v := 229) hx hb dX9_load_62 (by decide) ?_
            refine lv_iconst (v := 3) hx hb dX9_load_65 (by decide) ?_
            refine lv_iload_n hx hb dX9_load_66 rfl (lv_at hl 3 rfl) ?_
            refine lv_imul hx hb dX9_load_67 ?_
            refine lv_iadd hx hb dX9_load_68 ?_
            refine lv_iconst (v := 0) hx hb dX9_load_69 (by decide) ?_
            refine lv_iadd hx hb dX9_load_70 ?_
            refine lv_iload_n hx hb dX9_load_71 rfl (lv_at hl 1 rfl) ?_
            obtain ⟨hin35, ejK34⟩ := ck_e ejK34
            refine ar_ast (g := r14) hx hb hX hA ur_s (fun z => ua w a z) (fun z => ua_ua) hP hK hS hin35 dX9_load_72 (fun r36 er36 H locs hP hS => ?_)
            replace ejK34 := ltn_s er36 ejK34
            refine lv_aload_n hx hb dX9_load_73 rfl (lv_at hl 0 rfl) ?_
            refine lv_sipush (v := 229) hx hb dX9_load_74 (by decide) ?_
            refine lv_iconst (v := 3) hx hb dX9_load_77 (by decide) ?_
            refine lv_iload_n hx hb dX9_load_78 rfl (lv_at hl 3 rfl) ?_
            refine lv_imul hx hb dX9_load_79 ?_
            refine lv_iadd hx hb dX9_load_80 ?_
            refine lv_iconst (v := 1) hx hb dX9_load_81 (by decide) ?_
            refine lv_iadd hx hb dX9_load_82 ?_
            refine lv_iconst (v := 0) hx hb dX9_load_83 (by decide) ?_
            obtain ⟨hin37, ejK34⟩ := ck_e ejK34
            refine ar_ast (g := r36) hx hb hX hA ur_s (fun z => ua w a z) (fun z => ua_ua) hP hK hS hin37 dX9_load_84 (fun r38 er38 H locs hP hS => ?_)
            replace ejK34 := ltn_s er38 ejK34
            refine lv_aload_n hx hb dX9_load_85 rfl (lv_at hl 0 rfl) ?_
            refine lv_sipush (v := 229) hx hb dX9_load_86 (by decide) ?_
            refine lv_iconst (v := 3) hx hb dX9_load_89 (by decide) ?_
            refine lv_iload_n hx hb dX9_load_90 rfl (lv_at hl 3 rfl) ?_
            refine lv_imul hx hb dX9_load_91 ?_
            refine lv_iadd hx hb dX9_load_92 ?_
            refine lv_iconst (v := 2) hx hb dX9_load_93 (by decide) ?_
            refine lv_iadd hx hb dX9_load_94 ?_
            refine lv_iconst (v := 0) hx hb dX9_load_95 (by decide) ?_
            obtain ⟨hin39, ejK34⟩ := ck_e ejK34
            refine ar_ast (g := r38) hx hb hX hA ur_s (fun z => ua w a z) (fun z => ua_ua) hP hK hS hin39 dX9_load_96 (fun r40 er40 H locs hP hS => ?_)
            replace ejK34 := ltn_s er40 ejK34
            obtain ⟨x41, ex41⟩ : ∃ y : Int32, y = x12 + (-1) := ⟨_, rfl⟩
            replace ejK34 := ltn_s ex41 ejK34
            refine lv_iinc (v := x41) (lv' := [(2, .int x41), (0, .ref (xa X ca)), (1, .int x11), (3, .int x13)]) hx hb dX9_load_97 hl (k := 2) rfl (by rw [ex41]; rfl) (by decide) rfl (fun ls hl => ?_)
            have ejK34 := Option.some.inj ejK34
            simp only [Prod.mk.injEq] at ejK34
            obtain ⟨rfl, rfl⟩ := ejK34
            exact K34 _ _ _ hP hS (lv_sub hl [1, 2, 0, 3] rfl)
  obtain ⟨r43, hc44, hf⟩ := ob1_e hf
  refine L31 N a1 x8 0 r6 r43 _ _ _ hc44 hP hS (lv_sub hl [2, 3, 1, 0] rfl) (fun H locs ls hP hS hl => ?_)
  refine lv_aload_n hx hb dX9_load_106 rfl (lv_at hl 0 rfl) ?_
  refine lv_bipush (v := 9) hx hb dX9_load_107 (by decide) ?_
  refine lv_dup2_11 hx hb dX9_load_109 rfl rfl ?_
  obtain ⟨hin45, hf⟩ := ck_e hf
  refine ar_ald (g := r43) hx hb hA ur_s hP hK hin45 dX9_load_110 ?_
  refine lv_iconst (v := 1) hx hb dX9_load_111 (by decide) ?_
  refine lv_iadd hx hb dX9_load_112 ?_
  obtain ⟨hin46, hf⟩ := ck_e hf
  refine ar_ast (g := r43) hx hb hX hA ur_s (fun z => ua w a z) (fun z => ua_ua) hP hK hS hin46 dX9_load_113 (fun r47 er47 H locs hP hS => ?_)
  replace hf := ltn_s er47 hf
  have hf := Option.some.inj hf
  obtain rfl := hf
  rw [hQ]
  exact w_vret hx hb hr hlocks hP hK hS dX9_load_114 rfl
abbrev rmX9_lookAlong : Room := { frames := 4, cells := 0, slots := 0, locals := 91 }
set_option maxHeartbeats 4000000 in
set_option maxRecDepth 100000 in
theorem k9_lookAlong (l : Launch) {X : bkX} {b0 : Nat} (hX : XO X b0) {ca a : Nat} (hA : AR X ca a 265) (w : bkW) {N : Nat} {r0 : Nat → Int32} {res9 : Int32} {r9 : Nat → Int32} (hf : m9_lookAlong N r0 = some (res9, r9)) : cI l yX9_lookAlong wsX9_lookAlong rmX9_lookAlong X b0 [.ref (xa X ca)] (ua w a r0) res9 (ua w a r9) := by
  refine Met.ofW (cc := cX9_lookAlong) (maxL := 5) (ret := (some .int)) (by decide) rfl ?_
  intro p e s m args below meth c s₁ B hml hv
  obtain ⟨ha, hP, hK⟩ := hv
  have hx := B.exec
  have hb := B.bytes
  have hr := B.returns
  have hts := atoms_spec (ws := wsX9_lookAlong) B.pre
  have hown : s.vm.findClass RX9 = some m.cls := findClass_of_methodNamed B.named
  have hlocks := B.notSynchronized
  obtain ⟨R, hR⟩ : ∃ R, R = (headSpec wsX9_lookAlong rmX9_lookAlong).room := ⟨_, rfl⟩
  rw [← hR]
  have hR1 : R.frames = 4 := by rw [hR]; rfl
  have hR2 : R.locals = 91 := by rw [hR]; rfl
  obtain ⟨Q, hQ⟩ : ∃ Q : State → Prop, Q = MQ below (va_Qi (fun r' (_ : Unit) => r' = res9) (fun _ t => WU X (ua w a r9) t) (xF b0)) args s 0 0 (xF b0) := ⟨_, rfl⟩
  rw [← hQ]
  have hS : va_S (xF b0) s.heap s.heap [] := va_S.rf
  have hl := lv_entry ([.ref (xa X ca)]) (n := 5) (Nat.le_of_ble_eq_true rfl)
  refine W.eq ((congrArg (fun z => entryFrame m z 5) ha).trans (lg_entry_eq m _ 5)) ?_
  generalize (lg_sl ([.ref (xa X ca)]) ++ List.replicate (5 - (lg_sl ([.ref (xa X ca)])).length) Slot.unset).toArray = ls at hl ⊢
  have hl : lv_has ls 5 [(0, .ref (xa X ca))] := hl
  have hc_81 := (cwS 2 hts gX9_lookAlong_X9_reasonOf rfl rfl rfl (by decide +kernel) ⟨by rw [hR1]; exact Nat.le_of_ble_eq_true rfl, by rw [hR2]; exact Nat.le_of_ble_eq_true rfl⟩ : CallB R s args RX9 81 yX9_reasonOf cX9_reasonOf 3 (some .int) wsX9_reasonOf rmX9_reasonOf 0 0 2 ∧ (Cond.static yX9_reasonOf).before args s = true)
  have hc_57 := (cwS 4 hts gX9_lookAlong_X9_put rfl rfl rfl (by decide +kernel) ⟨by rw [hR1]; exact Nat.le_of_ble_eq_true rfl, by rw [hR2]; exact Nat.le_of_ble_eq_true rfl⟩ : CallB R s args RX9 57 yX9_put cX9_put 4 none wsX9_put rmX9_put 0 0 4 ∧ (Cond.static yX9_put).before args s = true)
  have hc_42 := (cwS 3 hts gX9_lookAlong_X9_of rfl rfl rfl (by decide +kernel) ⟨by rw [hR1]; exact Nat.le_of_ble_eq_true rfl, by rw [hR2]; exact Nat.le_of_ble_eq_true rfl⟩ : CallB R s args RX9 42 yX9_of cX9_of 3 (some .int) wsX9_of rmX9_of 0 0 3 ∧ (Cond.static yX9_of).before args s = true)
  have hc_84 := (cwS 2 hts gX9_lookAlong_X9_load rfl rfl rfl (by decide +kernel) ⟨by rw [hR1]; exact Nat.le_of_ble_eq_true rfl, by rw [hR2]; exact Nat.le_of_ble_eq_true rfl⟩ : CallB R s args RX9 84 yX9_load cX9_load 4 none wsX9_load rmX9_load 0 0 2 ∧ (Cond.static yX9_load).before args s = true)
  unfold m9_lookAlong at hf
  refine lv_iconst (v := 0) hx hb dX9_lookAlong_0 (by decide) ?_
  refine lv_istore_n (lv' := [(1, .int 0), (0, .ref (xa X ca))]) hx hb dX9_lookAlong_1 rfl hl (by decide) rfl (fun ls hl => ?_)
  refine lv_iconst (v := 0) hx hb dX9_lookAlong_2 (by decide) ?_
  refine lv_istore_n (lv' := [(2, .int 0), (1, .int 0), (0, .ref (xa X ca))]) hx hb dX9_lookAlong_3 rfl hl (by decide) rfl (fun ls hl => ?_)
  have L4 : ∀ (n : Nat) (x2 : Int32) (x3 : Int32) (r4 : Nat → Int32) (o5 : Int32) (or6 : Nat → Int32) (H : Heap) (locs : List Loc) (ls : Array Slot), m9_lookAlong_L4 N n x2 x3 r4 = some (o5, or6) → HW X (ua w a r4) H → va_S (xF b0) s.heap H locs → lv_has ls 5 [(0, .ref (xa X ca)), (1, .int x2), (2, .int x3)] → (∀ (H1 : Heap) (locs1 : List Loc) (ls1 : Array Slot), HW X (ua w a or6) H1 → va_S (xF b0) s.heap H1 locs1 → lv_has ls1 5 [(1, .int o5)] → W p l e R s m args below meth c H1 locs1 0 0 Q (F0 m 68 ls1 [])) → W p l e R s m args below meth c H locs 0 0 Q (F0 m 4 ls []) := by
    intro n; induction n with
    | zero => intro x2 x3 r4 o5 or6 H locs ls hf; rw [m9_lookAlong_L4] at hf; cases hf
    | succ n ih =>
      intro x2 x3 r4 o5 or6 H locs ls hf hP hS hl K
      rw [m9_lookAlong_L4] at hf
      refine lv_iload_n hx hb dX9_lookAlong_4 rfl (lv_at hl 2 rfl) ?_
      refine lv_aload_n hx hb dX9_lookAlong_5 rfl (lv_at hl 0 rfl) ?_
      refine lv_iconst (v := 5) hx hb dX9_lookAlong_6 (by decide) ?_
      obtain ⟨hin7, hf⟩ := ck_e hf
      refine ar_ald (g := r4) hx hb hA ur_s hP hK hin7 dX9_lookAlong_7 ?_
      refine lv_icmp_ge (tgt := 68) hx hb dX9_lookAlong_8 (by decide) (fun h8 => ?_) (fun h8 => ?_)
      · rw [if_pos h8] at hf
        have hf := Option.some.inj hf
        simp only [Prod.mk.injEq] at hf
        obtain ⟨rfl, rfl⟩ := hf
        exact K _ _ _ hP hS (lv_sub hl [1] rfl)
      · rw [if_neg h8] at hf
        refine lv_aload_n hx hb dX9_lookAlong_11 rfl (lv_at hl 0 rfl) ?_
        refine lv_sipush (v := 213) hx hb dX9_lookAlong_12 (by decide) ?_
        refine lv_iload_n hx hb dX9_lookAlong_15 rfl (lv_at hl 2 rfl) ?_
        refine lv_iadd hx hb dX9_lookAlong_16 ?_
        obtain ⟨hin9, hf⟩ := ck_e hf
        refine ar_ald (g := r4) hx hb hA ur_s hP hK hin9 dX9_lookAlong_17 ?_
        refine lv_topi (fun x10 ex10 => ?_)
        replace hf := ltn_s ex10 hf
        refine lv_istore_n (lv' := [(3, .int x10), (0, .ref (xa X ca)), (1, .int x2), (2, .int x3)]) hx hb dX9_lookAlong_18 rfl hl (by decide) rfl (fun ls hl => ?_)
        refine lv_iload_n hx hb dX9_lookAlong_19 rfl (lv_at hl 2 rfl) ?_
        obtain ⟨x14, ejK15, hf⟩ := ob1_e hf
        have K15 : ∀ (H : Heap) (locs : List Loc) (ls : Array Slot), HW X (ua w a r4) H → va_S (xF b0) s.heap H locs → lv_has ls 5 [(0, .ref (xa X ca)), (1, .int x2), (2, .int x3), (3, .int x10)] → W p l e R s m args below meth c H locs 0 0 Q (F0 m 32 ls [.int x14]) := by
          intro H locs ls hP hS hl
          refine lv_istore (lv' := [(4, .int x14), (0, .ref (xa X ca)), (1, .int x2), (2, .int x3), (3, .int x10)]) hx hb dX9_lookAlong_32 hl (by decide) rfl (fun ls hl => ?_)
          refine lv_iload hx hb dX9_lookAlong_34 (lv_at hl 0 rfl) ?_
          obtain ⟨x26, x27, r28, ejK29, hf⟩ := ob3_e hf
          have K29 : ∀ (H : Heap) (locs : List Loc) (ls : Array Slot), HW X (ua w a r28) H → va_S (xF b0) s.heap H locs → lv_has ls 5 [(0, .ref (xa X ca)), (1, .int x26), (2, .int x27)] → W p l e R s m args below meth c H locs 0 0 Q (F0 m 65 ls []) := by
            intro H locs ls hP hS hl
            refine lv_goto (tgt := 4) hx hb dX9_lookAlong_65 (by decide) ?_
            exact ih x26 x27 r28 o5 or6 _ _ _ hf hP hS (lv_sub hl [0, 1, 2] rfl) K
          clear hf
          refine lv_if_ne (tgt := 54) hx hb dX9_lookAlong_36 (by decide) (fun h18 => ?_) (fun h18 => ?_)
          · rw [if_neg h18] at ejK29
            refine lv_aload_n hx hb dX9_lookAlong_54 rfl (lv_at hl 1 rfl) ?_
            refine lv_iload_n hx hb dX9_lookAlong_55 rfl (lv_at hl 4 rfl) ?_
            refine lv_iconst (v := 5) hx hb dX9_lookAlong_56 (by decide) ?_
            refine lv_iload hx hb dX9_lookAlong_57 (lv_at hl 0 rfl) ?_
            obtain ⟨r30, hc31, ejK29⟩ := ob1_e ejK29
            refine w_csv ⟨hx, hb, hml, hown, hts⟩ hP hK hS (k9_put l hX hA w hc31) hc_57 rfl hl.1 rfl (Nat.le_of_ble_eq_true rfl) dX9_lookAlong_59 ⟨Nat.zero_le _, Nat.zero_le _⟩ (fun H locs hP hS => ?_)
            obtain ⟨x32, ex32⟩ : ∃ y : Int32, y = x3 + 1 := ⟨_, rfl⟩
            replace ejK29 := ltn_s ex32 ejK29
            refine lv_iinc (v := x32) (lv' := [(2, .int x32), (4, .int x14), (0, .ref (xa X ca)), (1, .int x2), (3, .int x10)]) hx hb dX9_lookAlong_62 hl (k := 3) rfl (by rw [ex32]; rfl) (by decide) rfl (fun ls hl => ?_)
            have ejK29 := Option.some.inj ejK29
            simp only [Prod.mk.injEq] at ejK29
            obtain ⟨rfl, rfl, rfl⟩ := ejK29
            exact K29 _ _ _ hP hS (lv_sub hl [2, 3, 0] rfl)
          · rw [if_pos h18] at ejK29
            refine lv_aload_n hx hb dX9_lookAlong_39 rfl (lv_at hl 1 rfl) ?_
            refine lv_iload_n hx hb dX9_lookAlong_40 rfl (lv_at hl 4 rfl) ?_
            refine lv_iconst (v := 2) hx hb dX9_lookAlong_41 (by decide) ?_
            obtain ⟨x33, hc34, ejK29⟩ := ob1_e ejK29
            refine w_csi ⟨hx, hb, hml, hown, hts⟩ hP hK hS (k9_of l hX hA w hc34) hc_42 rfl hl.1 rfl (Nat.le_of_ble_eq_true rfl) dX9_lookAlong_42 ⟨Nat.zero_le _, Nat.zero_le _⟩ (fun H locs hP hS => ?_)
            refine lv_istore_n (lv' := [(1, .int x33), (4, .int x14), (0, .ref (xa X ca)), (2, .int x3), (3, .int x10)]) hx hb dX9_lookAlong_45 rfl hl (by decide) rfl (fun ls hl => ?_)
            refine lv_aload_n hx hb dX9_lookAlong_46 rfl (lv_at hl 2 rfl) ?_
            refine lv_iload_n hx hb dX9_lookAlong_47 rfl (lv_at hl 4 rfl) ?_
            obtain ⟨r35, hc36, ejK29⟩ := ob1_e ejK29
            refine w_csv ⟨hx, hb, hml, hown, hts⟩ hP hK hS (k9_load l hX hA w hc36) hc_84 rfl hl.1 rfl (Nat.le_of_ble_eq_true rfl) dX9_lookAlong_48 ⟨Nat.zero_le _, Nat.zero_le _⟩ (fun H locs hP hS => ?_)
            refine lv_goto (tgt := 65) hx hb dX9_lookAlong_51 (by decide) ?_
            have ejK29 := Option.some.inj ejK29
            simp only [Prod.mk.injEq] at ejK29
            obtain ⟨rfl, rfl, rfl⟩ := ejK29
            exact K29 _ _ _ hP hS (lv_sub hl [2, 0, 3] rfl)
        clear hf
        refine lv_if_le (tgt := 27) hx hb dX9_lookAlong_20 (by decide) (fun h11 => ?_) (fun h11 => ?_)
        · rw [if_pos h11] at ejK15
          refine lv_aload_n hx hb dX9_lookAlong_27 rfl (lv_at hl 1 rfl) ?_
          refine lv_iload_n hx hb dX9_lookAlong_28 rfl (lv_at hl 0 rfl) ?_
          obtain ⟨x16, hc17, ejK15⟩ := ob1_e ejK15
          refine w_csi ⟨hx, hb, hml, hown, hts⟩ hP hK hS (k9_reasonOf l hX hA w hc17) hc_81 rfl hl.1 rfl (Nat.le_of_ble_eq_true rfl) dX9_lookAlong_29 ⟨Nat.zero_le _, Nat.zero_le _⟩ (fun H locs hP hS => ?_)
          have ejK15 := Option.some.inj ejK15
          obtain rfl := ejK15
          exact K15 _ _ _ hP hS (lv_sub hl [1, 2, 3, 0] rfl)
        · rw [if_neg h11] at ejK15
          refine lv_iconst (v := 1) hx hb dX9_lookAlong_23 (by decide) ?_
          refine lv_goto (tgt := 32) hx hb dX9_lookAlong_24 (by decide) ?_
          have ejK15 := Option.some.inj ejK15
          obtain rfl := ejK15
          exact K15 _ _ _ hP hS (lv_sub hl [1, 2, 3, 0] rfl)
  obtain ⟨x37, r38, hc39, hf⟩ := ob2_e hf
  refine L4 N 0 0 r0 x37 r38 _ _ _ hc39 hP hS (lv_sub hl [2, 1, 0] rfl) (fun H locs ls hP hS hl => ?_)
  refine lv_iload_n hx hb dX9_lookAlong_68 rfl (lv_at hl 0 rfl) ?_
  have hf := Option.some.inj hf
  simp only [Prod.mk.injEq] at hf
  obtain ⟨rfl, rfl⟩ := hf
  rw [hQ]
  exact w_iret hx hb hr hlocks hP hK hS dX9_lookAlong_69 rfl rfl
abbrev rmX9_warm : Room := { frames := 2, cells := 0, slots := 0, locals := 44 }
set_option maxHeartbeats 4000000 in
set_option maxRecDepth 100000 in
theorem k9_warm (l : Launch) {X : bkX} {b0 : Nat} (hX : XO X b0) {ca a : Nat} (hA : AR X ca a 265) (w : bkW) {N : Nat} {r0 : Nat → Int32} {r9 : Nat → Int32} (hf : m9_warm N r0 = some r9) : cV l yX9_warm wsX9_warm rmX9_warm X b0 [.ref (xa X ca)] (ua w a r0) (ua w a r9) := by
  refine Met.ofW (cc := cX9_warm) (maxL := 3) (ret := none) (by decide) rfl ?_
  intro p e s m args below meth c s₁ B hml hv
  obtain ⟨ha, hP, hK⟩ := hv
  have hx := B.exec
  have hb := B.bytes
  have hr := B.returns
  have hts := atoms_spec (ws := wsX9_warm) B.pre
  have hown : s.vm.findClass RX9 = some m.cls := findClass_of_methodNamed B.named
  have hlocks := B.notSynchronized
  obtain ⟨R, hR⟩ : ∃ R, R = (headSpec wsX9_warm rmX9_warm).room := ⟨_, rfl⟩
  rw [← hR]
  have hR1 : R.frames = 2 := by rw [hR]; rfl
  have hR2 : R.locals = 44 := by rw [hR]; rfl
  obtain ⟨Q, hQ⟩ : ∃ Q : State → Prop, Q = MQ below (va_Qv (fun (_ : Unit) => True) (fun _ t => WU X (ua w a r9) t) (xF b0)) args s 0 0 (xF b0) := ⟨_, rfl⟩
  rw [← hQ]
  have hS : va_S (xF b0) s.heap s.heap [] := va_S.rf
  have hl := lv_entry ([.ref (xa X ca)]) (n := 3) (Nat.le_of_ble_eq_true rfl)
  refine W.eq ((congrArg (fun z => entryFrame m z 3) ha).trans (lg_entry_eq m _ 3)) ?_
  generalize (lg_sl ([.ref (xa X ca)]) ++ List.replicate (3 - (lg_sl ([.ref (xa X ca)])).length) Slot.unset).toArray = ls at hl ⊢
  have hl : lv_has ls 3 [(0, .ref (xa X ca))] := hl
  have hc_68 := (cwS 3 hts gX9_warm_X9_at rfl rfl rfl (by decide +kernel) ⟨by rw [hR1]; exact Nat.le_of_ble_eq_true rfl, by rw [hR2]; exact Nat.le_of_ble_eq_true rfl⟩ : CallB R s args RX9 68 yX9_at cX9_at 3 (some .int) wsX9_at rmX9_at 0 0 3 ∧ (Cond.static yX9_at).before args s = true)
  have hc_71 := (cwS 2 hts gX9_warm_X9_heatAt rfl rfl rfl (by decide +kernel) ⟨by rw [hR1]; exact Nat.le_of_ble_eq_true rfl, by rw [hR2]; exact Nat.le_of_ble_eq_true rfl⟩ : CallB R s args RX9 71 yX9_heatAt cX9_heatAt 3 (some .int) wsX9_heatAt rmX9_heatAt 0 0 2 ∧ (Cond.static yX9_heatAt).before args s = true)
  have hc_61 := (cwS 3 hts gX9_warm_X9_byKind rfl rfl rfl (by decide +kernel) ⟨by rw [hR1]; exact Nat.le_of_ble_eq_true rfl, by rw [hR2]; exact Nat.le_of_ble_eq_true rfl⟩ : CallB R s args RX9 61 yX9_byKind cX9_byKind 3 (some .int) wsX9_byKind rmX9_byKind 0 0 3 ∧ (Cond.static yX9_byKind).before args s = true)
  have hc_42 := (cwS 3 hts gX9_warm_X9_of rfl rfl rfl (by decide +kernel) ⟨by rw [hR1]; exact Nat.le_of_ble_eq_true rfl, by rw [hR2]; exact Nat.le_of_ble_eq_true rfl⟩ : CallB R s args RX9 42 yX9_of cX9_of 3 (some .int) wsX9_of rmX9_of 0 0 3 ∧ (Cond.static yX9_of).before args s = true)
  unfold m9_warm at hf
  refine lv_iconst (v := 0) hx hb dX9_warm_0 (by decide) ?_
  refine lv_istore_n (lv' := [(1, .int 0), (0, .ref (xa X ca))]) hx hb dX9_warm_1 rfl hl (by decide) rfl (fun ls hl => ?_)
  have L2 : ∀ (n : Nat) (x2 : Int32) (r3 : Nat → Int32) (or4 : Nat → Int32) (H : Heap) (locs : List Loc) (ls : Array Slot), m9_warm_L2 N n x2 r3 = some or4 → HW X (ua w a r3) H → va_S (xF b0) s.heap H locs → lv_has ls 3 [(0, .ref (xa X ca)), (1, .int x2)] → (∀ (H1 : Heap) (locs1 : List Loc) (ls1 : Array Slot), HW X (ua w a or4) H1 → va_S (xF b0) s.heap H1 locs1 → lv_has ls1 3 [] → W p l e R s m args below meth c H1 locs1 0 0 Q (F0 m 112 ls1 [])) → W p l e R s m args below meth c H locs 0 0 Q (F0 m 2 ls []) := by
    intro n; induction n with
    | zero => intro x2 r3 or4 H locs ls hf; rw [m9_warm_L2] at hf; cases hf
    | succ n ih =>
      intro x2 r3 or4 H locs ls hf hP hS hl K
      rw [m9_warm_L2] at hf
      refine lv_iload_n hx hb dX9_warm_2 rfl (lv_at hl 1 rfl) ?_
      refine lv_bipush (v := 12) hx hb dX9_warm_3 (by decide) ?_
      refine lv_icmp_ge (tgt := 112) hx hb dX9_warm_5 (by decide) (fun h5 => ?_) (fun h5 => ?_)
      · rw [if_pos h5] at hf
        have hf := Option.some.inj hf
        obtain rfl := hf
        exact K _ _ _ hP hS (lv_sub hl [] rfl)
      · rw [if_neg h5] at hf
        refine lv_aload_n hx hb dX9_warm_8 rfl (lv_at hl 0 rfl) ?_
        refine lv_iload_n hx hb dX9_warm_9 rfl (lv_at hl 1 rfl) ?_
        refine lv_iconst (v := 0) hx hb dX9_warm_10 (by decide) ?_
        obtain ⟨x6, hc7, hf⟩ := ob1_e hf
        refine w_csi ⟨hx, hb, hml, hown, hts⟩ hP hK hS (k9_at l hX hA w hc7) hc_68 rfl hl.1 rfl (Nat.le_of_ble_eq_true rfl) dX9_warm_11 ⟨Nat.zero_le _, Nat.zero_le _⟩ (fun H locs hP hS => ?_)
        refine lv_istore_n (lv' := [(2, .int x6), (0, .ref (xa X ca)), (1, .int x2)]) hx hb dX9_warm_14 rfl hl (by decide) rfl (fun ls hl => ?_)
        refine lv_iload_n hx hb dX9_warm_15 rfl (lv_at hl 0 rfl) ?_
        refine lv_iconst (v := (-1)) hx hb dX9_warm_16 (by decide) ?_
        obtain ⟨r39, ejK40, hf⟩ := ob1_e hf
        have K40 : ∀ (H : Heap) (locs : List Loc) (ls : Array Slot), HW X (ua w a r39) H → va_S (xF b0) s.heap H locs → lv_has ls 3 [(0, .ref (xa X ca)), (1, .int x2)] → W p l e R s m args below meth c H locs 0 0 Q (F0 m 106 ls []) := by
          intro H locs ls hP hS hl
          obtain ⟨x71, ex71⟩ : ∃ y : Int32, y = x2 + 1 := ⟨_, rfl⟩
          replace hf := ltn_s ex71 hf
          refine lv_iinc (v := x71) (lv' := [(1, .int x71), (0, .ref (xa X ca))]) hx hb dX9_warm_106 hl (k := 1) rfl (by rw [ex71]; rfl) (by decide) rfl (fun ls hl => ?_)
          refine lv_goto (tgt := 2) hx hb dX9_warm_109 (by decide) ?_
          exact ih x71 r39 or4 _ _ _ hf hP hS (lv_sub hl [1, 0] rfl) K
        clear hf
        refine lv_icmp_eq (tgt := 106) hx hb dX9_warm_17 (by decide) (fun h8 => ?_) (fun h8 => ?_)
        · rw [if_pos h8] at ejK40
          have ejK40 := Option.some.inj ejK40
          obtain rfl := ejK40
          exact K40 _ _ _ hP hS (lv_sub hl [1, 2] rfl)
        · rw [if_neg h8] at ejK40
          refine lv_aload_n hx hb dX9_warm_20 rfl (lv_at hl 1 rfl) ?_
          refine lv_sipush (v := 229) hx hb dX9_warm_21 (by decide) ?_
          refine lv_iconst (v := 3) hx hb dX9_warm_24 (by decide) ?_
          refine lv_iload_n hx hb dX9_warm_25 rfl (lv_at hl 2 rfl) ?_
          refine lv_imul hx hb dX9_warm_26 ?_
          refine lv_iadd hx hb dX9_warm_27 ?_
          refine lv_iconst (v := 1) hx hb dX9_warm_28 (by decide) ?_
          refine lv_iadd hx hb dX9_warm_29 ?_
          refine lv_topi (fun x41 ex41 => ?_)
          replace ejK40 := ltn_s ex41 ejK40
          refine lv_dup2_11 hx hb dX9_warm_30 rfl rfl ?_
          obtain ⟨hin42, ejK40⟩ := ck_e ejK40
          refine ar_ald (g := r3) hx hb hA ur_s hP hK hin42 dX9_warm_31 ?_
          refine lv_aload_n hx hb dX9_warm_32 rfl (lv_at hl 1 rfl) ?_
          refine lv_iload_n hx hb dX9_warm_33 rfl (lv_at hl 2 rfl) ?_
          obtain ⟨x43, hc44, ejK40⟩ := ob1_e ejK40
          refine w_csi ⟨hx, hb, hml, hown, hts⟩ hP hK hS (k9_heatAt l hX hA w hc44) hc_71 rfl hl.1 rfl (Nat.le_of_ble_eq_true rfl) dX9_warm_34 ⟨Nat.zero_le _, Nat.zero_le _⟩ (fun H locs hP hS => ?_)
          refine lv_aload_n hx hb dX9_warm_37 rfl (lv_at hl 1 rfl) ?_
          refine lv_iload_n hx hb dX9_warm_38 rfl (lv_at hl 0 rfl) ?_
          refine lv_iconst (v := 0) hx hb dX9_warm_39 (by decide) ?_
          obtain ⟨x45, hc46, ejK40⟩ := ob1_e ejK40
          refine w_csi ⟨hx, hb, hml, hown, hts⟩ hP hK hS (k9_byKind l hX hA w hc46) hc_61 rfl hl.1 rfl (Nat.le_of_ble_eq_true rfl) dX9_warm_40 ⟨Nat.zero_le _, Nat.zero_le _⟩ (fun H locs hP hS => ?_)
          obtain ⟨x48, x49, ejK50, ejK40⟩ := lt2_e ejK40
          have K50 : ∀ (H : Heap) (locs : List Loc) (ls : Array Slot), HW X (ua w a r3) H → va_S (xF b0) s.heap H locs → lv_has ls 3 [(0, .ref (xa X ca)), (1, .int x2), (2, .int x6)] → W p l e R s m args below meth c H locs 0 0 Q (F0 m 51 ls [.int x49, .int x48, .int x41, .ref (xa X ca)]) := by
            intro H locs ls hP hS hl
            refine lv_iadd hx hb dX9_warm_51 ?_
            obtain ⟨hin51, ejK40⟩ := ck_e ejK40
            refine ar_ast (g := r3) hx hb hX hA ur_s (fun z => ua w a z) (fun z => ua_ua) hP hK hS hin51 dX9_warm_52 (fun r52 er52 H locs hP hS => ?_)
            replace ejK40 := ltn_s er52 ejK40
            refine lv_aload_n hx hb dX9_warm_53 rfl (lv_at hl 0 rfl) ?_
            refine lv_sipush (v := 229) hx hb dX9_warm_54 (by decide) ?_
            refine lv_iconst (v := 3) hx hb dX9_warm_57 (by decide) ?_
            refine lv_iload_n hx hb dX9_warm_58 rfl (lv_at hl 1 rfl) ?_
            refine lv_imul hx hb dX9_warm_59 ?_
            refine lv_iadd hx hb dX9_warm_60 ?_
            refine lv_iconst (v := 2) hx hb dX9_warm_61 (by decide) ?_
            refine lv_iadd hx hb dX9_warm_62 ?_
            refine lv_topi (fun x53 ex53 => ?_)
            replace ejK40 := ltn_s ex53 ejK40
            refine lv_dup2_11 hx hb dX9_warm_63 rfl rfl ?_
            obtain ⟨hin54, ejK40⟩ := ck_e ejK40
            refine ar_ald (g := r52) hx hb hA ur_s hP hK hin54 dX9_warm_64 ?_
            refine lv_aload_n hx hb dX9_warm_65 rfl (lv_at hl 0 rfl) ?_
            refine lv_iload_n hx hb dX9_warm_66 rfl (lv_at hl 1 rfl) ?_
            obtain ⟨x55, hc56, ejK40⟩ := ob1_e ejK40
            refine w_csi ⟨hx, hb, hml, hown, hts⟩ hP hK hS (k9_heatAt l hX hA w hc56) hc_71 rfl hl.1 rfl (Nat.le_of_ble_eq_true rfl) dX9_warm_67 ⟨Nat.zero_le _, Nat.zero_le _⟩ (fun H locs hP hS => ?_)
            refine lv_aload_n hx hb dX9_warm_70 rfl (lv_at hl 0 rfl) ?_
            refine lv_iload_n hx hb dX9_warm_71 rfl (lv_at hl 2 rfl) ?_
            refine lv_iconst (v := 1) hx hb dX9_warm_72 (by decide) ?_
            obtain ⟨x57, hc58, ejK40⟩ := ob1_e ejK40
            refine w_csi ⟨hx, hb, hml, hown, hts⟩ hP hK hS (k9_byKind l hX hA w hc58) hc_61 rfl hl.1 rfl (Nat.le_of_ble_eq_true rfl) dX9_warm_73 ⟨Nat.zero_le _, Nat.zero_le _⟩ (fun H locs hP hS => ?_)
            obtain ⟨x60, x61, ejK62, ejK40⟩ := lt2_e ejK40
            have K62 : ∀ (H : Heap) (locs : List Loc) (ls : Array Slot), HW X (ua w a r52) H → va_S (xF b0) s.heap H locs → lv_has ls 3 [(0, .ref (xa X ca)), (1, .int x2), (2, .int x6)] → W p l e R s m args below meth c H locs 0 0 Q (F0 m 84 ls [.int x61, .int x60, .int x53, .ref (xa X ca)]) := by
              intro H locs ls hP hS hl
              refine lv_iadd hx hb dX9_warm_84 ?_
              obtain ⟨hin63, ejK40⟩ := ck_e ejK40
              refine ar_ast (g := r52) hx hb hX hA ur_s (fun z => ua w a z) (fun z => ua_ua) hP hK hS hin63 dX9_warm_85 (fun r64 er64 H locs hP hS => ?_)
              replace ejK40 := ltn_s er64 ejK40
              refine lv_aload_n hx hb dX9_warm_86 rfl (lv_at hl 0 rfl) ?_
              refine lv_bipush (v := 37) hx hb dX9_warm_87 (by decide) ?_
              refine lv_bipush (v := 6) hx hb dX9_warm_89 (by decide) ?_
              refine lv_aload_n hx hb dX9_warm_91 rfl (lv_at hl 0 rfl) ?_
              refine lv_iload_n hx hb dX9_warm_92 rfl (lv_at hl 2 rfl) ?_
              refine lv_iconst (v := 0) hx hb dX9_warm_93 (by decide) ?_
              obtain ⟨x65, hc66, ejK40⟩ := ob1_e ejK40
              refine w_csi ⟨hx, hb, hml, hown, hts⟩ hP hK hS (k9_of l hX hA w hc66) hc_42 rfl hl.1 rfl (Nat.le_of_ble_eq_true rfl) dX9_warm_94 ⟨Nat.zero_le _, Nat.zero_le _⟩ (fun H locs hP hS => ?_)
              refine lv_imul hx hb dX9_warm_97 ?_
              refine lv_iadd hx hb dX9_warm_98 ?_
              refine lv_iconst (v := 1) hx hb dX9_warm_99 (by decide) ?_
              refine lv_iadd hx hb dX9_warm_100 ?_
              refine lv_topi (fun x67 ex67 => ?_)
              replace ejK40 := ltn_s ex67 ejK40
              refine lv_dup2_11 hx hb dX9_warm_101 rfl rfl ?_
              obtain ⟨hin68, ejK40⟩ := ck_e ejK40
              refine ar_ald (g := r64) hx hb hA ur_s hP hK hin68 dX9_warm_102 ?_
              refine lv_iconst (v := 1) hx hb dX9_warm_103 (by decide) ?_
              refine lv_iadd hx hb dX9_warm_104 ?_
              obtain ⟨hin69, ejK40⟩ := ck_e ejK40
              refine ar_ast (g := r64) hx hb hX hA ur_s (fun z => ua w a z) (fun z => ua_ua) hP hK hS hin69 dX9_warm_105 (fun r70 er70 H locs hP hS => ?_)
              replace ejK40 := ltn_s er70 ejK40
              have ejK40 := Option.some.inj ejK40
              obtain rfl := ejK40
              exact K40 _ _ _ hP hS (lv_sub hl [0, 1] rfl)
            clear ejK40
            refine lv_icmp_le (tgt := 83) hx hb dX9_warm_76 (by decide) (fun h59 => ?_) (fun h59 => ?_)
            · rw [if_pos h59] at ejK62
              refine lv_iconst (v := 0) hx hb dX9_warm_83 (by decide) ?_
              simp only [Prod.mk.injEq] at ejK62
              obtain ⟨rfl, rfl⟩ := ejK62
              exact K62 _ _ _ hP hS (lv_sub hl [0, 1, 2] rfl)
            · rw [if_neg h59] at ejK62
              refine lv_iconst (v := 1) hx hb dX9_warm_79 (by decide) ?_
              refine lv_goto (tgt := 84) hx hb dX9_warm_80 (by decide) ?_
              simp only [Prod.mk.injEq] at ejK62
              obtain ⟨rfl, rfl⟩ := ejK62
              exact K62 _ _ _ hP hS (lv_sub hl [0, 1, 2] rfl)
          clear ejK40
          refine lv_icmp_lt (tgt := 50) hx hb dX9_warm_43 (by decide) (fun h47 => ?_) (fun h47 => ?_)
          · rw [if_pos h47] at ejK50
            refine lv_iconst (v := 0) hx hb dX9_warm_50 (by decide) ?_
            simp only [Prod.mk.injEq] at ejK50
            obtain ⟨rfl, rfl⟩ := ejK50
            exact K50 _ _ _ hP hS (lv_sub hl [1, 2, 0] rfl)
          · rw [if_neg h47] at ejK50
            refine lv_iconst (v := 1) hx hb dX9_warm_46 (by decide) ?_
            refine lv_goto (tgt := 51) hx hb dX9_warm_47 (by decide) ?_
            simp only [Prod.mk.injEq] at ejK50
            obtain ⟨rfl, rfl⟩ := ejK50
            exact K50 _ _ _ hP hS (lv_sub hl [1, 2, 0] rfl)
  obtain ⟨r72, hc73, hf⟩ := ob1_e hf
  refine L2 N 0 r0 r72 _ _ _ hc73 hP hS (lv_sub hl [1, 0] rfl) (fun H locs ls hP hS hl => ?_)
  have hf := Option.some.inj hf
  obtain rfl := hf
  rw [hQ]
  exact w_vret hx hb hr hlocks hP hK hS dX9_warm_112 rfl
abbrev rmX9_isBaked : Room := { frames := 2, cells := 0, slots := 0, locals := 44 }
set_option maxHeartbeats 4000000 in
set_option maxRecDepth 100000 in
theorem k9_isBaked (l : Launch) {X : bkX} {b0 : Nat} (hX : XO X b0) {ca a : Nat} (hA : AR X ca a 265) (w : bkW) {N : Nat} {r0 : Nat → Int32} {a1 : Int32} {res9 : Int32} (hf : m9_isBaked N r0 a1 = some res9) : cI l yX9_isBaked wsX9_isBaked rmX9_isBaked X b0 [.ref (xa X ca), .int a1] (ua w a r0) res9 (ua w a r0) := by
  refine Met.ofW (cc := cX9_isBaked) (maxL := 4) (ret := (some .boolean)) (by decide) rfl ?_
  intro p e s m args below meth c s₁ B hml hv
  obtain ⟨ha, hP, hK⟩ := hv
  have hx := B.exec
  have hb := B.bytes
  have hr := B.returns
  have hts := atoms_spec (ws := wsX9_isBaked) B.pre
  have hown : s.vm.findClass RX9 = some m.cls := findClass_of_methodNamed B.named
  have hlocks := B.notSynchronized
  obtain ⟨R, hR⟩ : ∃ R, R = (headSpec wsX9_isBaked rmX9_isBaked).room := ⟨_, rfl⟩
  rw [← hR]
  have hR1 : R.frames = 2 := by rw [hR]; rfl
  have hR2 : R.locals = 44 := by rw [hR]; rfl
  obtain ⟨Q, hQ⟩ : ∃ Q : State → Prop, Q = MQ below (va_Qi (fun r' (_ : Unit) => r' = res9) (fun _ t => WU X (ua w a r0) t) (xF b0)) args s 0 0 (xF b0) := ⟨_, rfl⟩
  rw [← hQ]
  have hS : va_S (xF b0) s.heap s.heap [] := va_S.rf
  have hl := lv_entry ([.ref (xa X ca), .int a1]) (n := 4) (Nat.le_of_ble_eq_true rfl)
  refine W.eq ((congrArg (fun z => entryFrame m z 4) ha).trans (lg_entry_eq m _ 4)) ?_
  generalize (lg_sl ([.ref (xa X ca), .int a1]) ++ List.replicate (4 - (lg_sl ([.ref (xa X ca), .int a1])).length) Slot.unset).toArray = ls at hl ⊢
  have hl : lv_has ls 4 [(0, .ref (xa X ca)), (1, .int a1)] := hl
  have hc_42 := (cwS 3 hts gX9_isBaked_X9_of rfl rfl rfl (by decide +kernel) ⟨by rw [hR1]; exact Nat.le_of_ble_eq_true rfl, by rw [hR2]; exact Nat.le_of_ble_eq_true rfl⟩ : CallB R s args RX9 42 yX9_of cX9_of 3 (some .int) wsX9_of rmX9_of 0 0 3 ∧ (Cond.static yX9_of).before args s = true)
  have hc_68 := (cwS 3 hts gX9_isBaked_X9_at rfl rfl rfl (by decide +kernel) ⟨by rw [hR1]; exact Nat.le_of_ble_eq_true rfl, by rw [hR2]; exact Nat.le_of_ble_eq_true rfl⟩ : CallB R s args RX9 68 yX9_at cX9_at 3 (some .int) wsX9_at rmX9_at 0 0 3 ∧ (Cond.static yX9_at).before args s = true)
  have hc_61 := (cwS 3 hts gX9_isBaked_X9_byKind rfl rfl rfl (by decide +kernel) ⟨by rw [hR1]; exact Nat.le_of_ble_eq_true rfl, by rw [hR2]; exact Nat.le_of_ble_eq_true rfl⟩ : CallB R s args RX9 61 yX9_byKind cX9_byKind 3 (some .int) wsX9_byKind rmX9_byKind 0 0 3 ∧ (Cond.static yX9_byKind).before args s = true)
  unfold m9_isBaked at hf
  refine lv_aload_n hx hb dX9_isBaked_0 rfl (lv_at hl 0 rfl) ?_
  refine lv_iload_n hx hb dX9_isBaked_1 rfl (lv_at hl 1 rfl) ?_
  refine lv_iconst (v := 4) hx hb dX9_isBaked_2 (by decide) ?_
  obtain ⟨x1, hc2, hf⟩ := ob1_e hf
  refine w_csi ⟨hx, hb, hml, hown, hts⟩ hP hK hS (k9_of l hX hA w hc2) hc_42 rfl hl.1 rfl (Nat.le_of_ble_eq_true rfl) dX9_isBaked_3 ⟨Nat.zero_le _, Nat.zero_le _⟩ (fun H locs hP hS => ?_)
  refine lv_iconst (v := 1) hx hb dX9_isBaked_6 (by decide) ?_
  obtain ⟨x4, ejK5, hf⟩ := lt1_e hf
  have K5 : ∀ (H : Heap) (locs : List Loc) (ls : Array Slot), HW X (ua w a r0) H → va_S (xF b0) s.heap H locs → lv_has ls 4 [(0, .ref (xa X ca)), (1, .int a1)] → W p l e R s m args below meth c H locs 0 0 Q (F0 m 15 ls [.int x4]) := by
    intro H locs ls hP hS hl
    refine lv_istore_n (lv' := [(2, .int x4), (0, .ref (xa X ca)), (1, .int a1)]) hx hb dX9_isBaked_15 rfl hl (by decide) rfl (fun ls hl => ?_)
    refine lv_iconst (v := 0) hx hb dX9_isBaked_16 (by decide) ?_
    refine lv_istore_n (lv' := [(3, .int 0), (2, .int x4), (0, .ref (xa X ca)), (1, .int a1)]) hx hb dX9_isBaked_17 rfl hl (by decide) rfl (fun ls hl => ?_)
    have L18 : ∀ (n : Nat) (x7 : Int32) (x8 : Int32) (x9 : Int32)  (o10 : Int32) (H : Heap) (locs : List Loc) (ls : Array Slot), m9_isBaked_L18 N n x7 x8 x9 r0 = some o10 → HW X (ua w a r0) H → va_S (xF b0) s.heap H locs → lv_has ls 4 [(0, .ref (xa X ca)), (1, .int x7), (2, .int x8), (3, .int x9)] → (∀ (H1 : Heap) (locs1 : List Loc) (ls1 : Array Slot), HW X (ua w a r0) H1 → va_S (xF b0) s.heap H1 locs1 → lv_has ls1 4 [(2, .int o10)] → W p l e R s m args below meth c H1 locs1 0 0 Q (F0 m 65 ls1 [])) → W p l e R s m args below meth c H locs 0 0 Q (F0 m 18 ls []) := by
      intro n; induction n with
      | zero => intro x7 x8 x9 o10 H locs ls hf; rw [m9_isBaked_L18] at hf; cases hf
      | succ n ih =>
        intro x7 x8 x9 o10 H locs ls hf hP hS hl K
        rw [m9_isBaked_L18] at hf
        refine lv_iload_n hx hb dX9_isBaked_18 rfl (lv_at hl 3 rfl) ?_
        refine lv_bipush (v := 12) hx hb dX9_isBaked_19 (by decide) ?_
        refine lv_icmp_ge (tgt := 65) hx hb dX9_isBaked_21 (by decide) (fun h11 => ?_) (fun h11 => ?_)
        · rw [if_pos h11] at hf
          have hf := Option.some.inj hf
          obtain rfl := hf
          exact K _ _ _ hP hS (lv_sub hl [2] rfl)
        · rw [if_neg h11] at hf
          refine lv_iload_n hx hb dX9_isBaked_24 rfl (lv_at hl 2 rfl) ?_
          obtain ⟨x21, ejK22, hf⟩ := ob1_e hf
          have K22 : ∀ (H : Heap) (locs : List Loc) (ls : Array Slot), HW X (ua w a r0) H → va_S (xF b0) s.heap H locs → lv_has ls 4 [(0, .ref (xa X ca)), (1, .int x7), (3, .int x9)] → W p l e R s m args below meth c H locs 0 0 Q (F0 m 58 ls [.int x21]) := by
            intro H locs ls hP hS hl
            refine lv_istore_n (lv' := [(2, .int x21), (0, .ref (xa X ca)), (1, .int x7), (3, .int x9)]) hx hb dX9_isBaked_58 rfl hl (by decide) rfl (fun ls hl => ?_)
            obtain ⟨x31, ex31⟩ : ∃ y : Int32, y = x9 + 1 := ⟨_, rfl⟩
            replace hf := ltn_s ex31 hf
            refine lv_iinc (v := x31) (lv' := [(3, .int x31), (2, .int x21), (0, .ref (xa X ca)), (1, .int x7)]) hx hb dX9_isBaked_59 hl (k := 3) rfl (by rw [ex31]; rfl) (by decide) rfl (fun ls hl => ?_)
            refine lv_goto (tgt := 18) hx hb dX9_isBaked_62 (by decide) ?_
            exact ih x7 x21 x31 o10 _ _ _ hf hP hS (lv_sub hl [2, 3, 1, 0] rfl) K
          clear hf
          refine lv_if_eq (tgt := 57) hx hb dX9_isBaked_25 (by decide) (fun h12 => ?_) (fun h12 => ?_)
          · rw [if_pos h12] at ejK22
            refine lv_iconst (v := 0) hx hb dX9_isBaked_57 (by decide) ?_
            have ejK22 := Option.some.inj ejK22
            obtain rfl := ejK22
            exact K22 _ _ _ hP hS (lv_sub hl [0, 1, 3] rfl)
          · rw [if_neg h12] at ejK22
            refine lv_aload_n hx hb dX9_isBaked_28 rfl (lv_at hl 0 rfl) ?_
            refine lv_iload_n hx hb dX9_isBaked_29 rfl (lv_at hl 3 rfl) ?_
            refine lv_iconst (v := 0) hx hb dX9_isBaked_30 (by decide) ?_
            obtain ⟨x23, hc24, ejK22⟩ := ob1_e ejK22
            refine w_csi ⟨hx, hb, hml, hown, hts⟩ hP hK hS (k9_at l hX hA w hc24) hc_68 rfl hl.1 rfl (Nat.le_of_ble_eq_true rfl) dX9_isBaked_31 ⟨Nat.zero_le _, Nat.zero_le _⟩ (fun H locs hP hS => ?_)
            refine lv_iload_n hx hb dX9_isBaked_34 rfl (lv_at hl 1 rfl) ?_
            refine lv_icmp_ne (tgt := 53) hx hb dX9_isBaked_35 (by decide) (fun h25 => ?_) (fun h25 => ?_)
            · rw [if_neg h25] at ejK22
              refine lv_iconst (v := 1) hx hb dX9_isBaked_53 (by decide) ?_
              refine lv_goto (tgt := 58) hx hb dX9_isBaked_54 (by decide) ?_
              have ejK22 := Option.some.inj ejK22
              obtain rfl := ejK22
              exact K22 _ _ _ hP hS (lv_sub hl [0, 1, 3] rfl)
            · rw [if_pos h25] at ejK22
              refine lv_aload_n hx hb dX9_isBaked_38 rfl (lv_at hl 0 rfl) ?_
              refine lv_iload_n hx hb dX9_isBaked_39 rfl (lv_at hl 3 rfl) ?_
              refine lv_iconst (v := 1) hx hb dX9_isBaked_40 (by decide) ?_
              obtain ⟨x26, hc27, ejK22⟩ := ob1_e ejK22
              refine w_csi ⟨hx, hb, hml, hown, hts⟩ hP hK hS (k9_at l hX hA w hc27) hc_68 rfl hl.1 rfl (Nat.le_of_ble_eq_true rfl) dX9_isBaked_41 ⟨Nat.zero_le _, Nat.zero_le _⟩ (fun H locs hP hS => ?_)
              refine lv_aload_n hx hb dX9_isBaked_44 rfl (lv_at hl 0 rfl) ?_
              refine lv_iload_n hx hb dX9_isBaked_45 rfl (lv_at hl 1 rfl) ?_
              refine lv_iconst (v := 2) hx hb dX9_isBaked_46 (by decide) ?_
              obtain ⟨x28, hc29, ejK22⟩ := ob1_e ejK22
              refine w_csi ⟨hx, hb, hml, hown, hts⟩ hP hK hS (k9_byKind l hX hA w hc29) hc_61 rfl hl.1 rfl (Nat.le_of_ble_eq_true rfl) dX9_isBaked_47 ⟨Nat.zero_le _, Nat.zero_le _⟩ (fun H locs hP hS => ?_)
              refine lv_icmp_lt (tgt := 57) hx hb dX9_isBaked_50 (by decide) (fun h30 => ?_) (fun h30 => ?_)
              · rw [if_pos h30] at ejK22
                refine lv_iconst (v := 0) hx hb dX9_isBaked_57 (by decide) ?_
                have ejK22 := Option.some.inj ejK22
                obtain rfl := ejK22
                exact K22 _ _ _ hP hS (lv_sub hl [0, 1, 3] rfl)
              · rw [if_neg h30] at ejK22
                refine lv_iconst (v := 1) hx hb dX9_isBaked_53 (by decide) ?_
                refine lv_goto (tgt := 58) hx hb dX9_isBaked_54 (by decide) ?_
                have ejK22 := Option.some.inj ejK22
                obtain rfl := ejK22
                exact K22 _ _ _ hP hS (lv_sub hl [0, 1, 3] rfl)
    obtain ⟨x32, hc33, hf⟩ := ob1_e hf
    refine L18 N a1 x4 0  x32 _ _ _ hc33 hP hS (lv_sub hl [2, 3, 1, 0] rfl) (fun H locs ls hP hS hl => ?_)
    refine lv_iload_n hx hb dX9_isBaked_65 rfl (lv_at hl 0 rfl) ?_
    obtain ⟨hb34, hf⟩ := ckp_e hf
    have hf := Option.some.inj hf
    obtain rfl := hf
    rw [hQ]
    exact w_zret hx hb hr hlocks hP hK hS dX9_isBaked_66 hb34 rfl rfl
  clear hf
  refine lv_icmp_ne (tgt := 14) hx hb dX9_isBaked_7 (by decide) (fun h3 => ?_) (fun h3 => ?_)
  · rw [if_neg h3] at ejK5
    refine lv_iconst (v := 0) hx hb dX9_isBaked_14 (by decide) ?_
    obtain rfl := ejK5
    exact K5 _ _ _ hP hS (lv_sub hl [0, 1] rfl)
  · rw [if_pos h3] at ejK5
    refine lv_iconst (v := 1) hx hb dX9_isBaked_10 (by decide) ?_
    refine lv_goto (tgt := 15) hx hb dX9_isBaked_11 (by decide) ?_
    obtain rfl := ejK5
    exact K5 _ _ _ hP hS (lv_sub hl [0, 1] rfl)
abbrev rmX9_takeOut : Room := { frames := 1, cells := 0, slots := 0, locals := 23 }
set_option maxHeartbeats 4000000 in
set_option maxRecDepth 100000 in
theorem k9_takeOut (l : Launch) {X : bkX} {b0 : Nat} (hX : XO X b0) {ca a : Nat} (hA : AR X ca a 265) (w : bkW) {N : Nat} {r0 : Nat → Int32} {a1 : Int32} {r9 : Nat → Int32} (hf : m9_takeOut N r0 a1 = some r9) : cV l yX9_takeOut wsX9_takeOut rmX9_takeOut X b0 [.ref (xa X ca), .int a1] (ua w a r0) (ua w a r9) := by
  refine Met.ofW (cc := cX9_takeOut) (maxL := 4) (ret := none) (by decide) rfl ?_
  intro p e s m args below meth c s₁ B hml hv
  obtain ⟨ha, hP, hK⟩ := hv
  have hx := B.exec
  have hb := B.bytes
  have hr := B.returns
  have hts := atoms_spec (ws := wsX9_takeOut) B.pre
  have hown : s.vm.findClass RX9 = some m.cls := findClass_of_methodNamed B.named
  have hlocks := B.notSynchronized
  obtain ⟨R, hR⟩ : ∃ R, R = (headSpec wsX9_takeOut rmX9_takeOut).room := ⟨_, rfl⟩
  rw [← hR]
  have hR1 : R.frames = 1 := by rw [hR]; rfl
  have hR2 : R.locals = 23 := by rw [hR]; rfl
  obtain ⟨Q, hQ⟩ : ∃ Q : State → Prop, Q = MQ below (va_Qv (fun (_ : Unit) => True) (fun _ t => WU X (ua w a r9) t) (xF b0)) args s 0 0 (xF b0) := ⟨_, rfl⟩
  rw [← hQ]
  have hS : va_S (xF b0) s.heap s.heap [] := va_S.rf
  have hl := lv_entry ([.ref (xa X ca), .int a1]) (n := 4) (Nat.le_of_ble_eq_true rfl)
  refine W.eq ((congrArg (fun z => entryFrame m z 4) ha).trans (lg_entry_eq m _ 4)) ?_
  generalize (lg_sl ([.ref (xa X ca), .int a1]) ++ List.replicate (4 - (lg_sl ([.ref (xa X ca), .int a1])).length) Slot.unset).toArray = ls at hl ⊢
  have hl : lv_has ls 4 [(0, .ref (xa X ca)), (1, .int a1)] := hl
  have hc_68 := (cwS 3 hts gX9_takeOut_X9_at rfl rfl rfl (by decide +kernel) ⟨by rw [hR1]; exact Nat.le_of_ble_eq_true rfl, by rw [hR2]; exact Nat.le_of_ble_eq_true rfl⟩ : CallB R s args RX9 68 yX9_at cX9_at 3 (some .int) wsX9_at rmX9_at 0 0 3 ∧ (Cond.static yX9_at).before args s = true)
  have hc_57 := (cwS 4 hts gX9_takeOut_X9_put rfl rfl rfl (by decide +kernel) ⟨by rw [hR1]; exact Nat.le_of_ble_eq_true rfl, by rw [hR2]; exact Nat.le_of_ble_eq_true rfl⟩ : CallB R s args RX9 57 yX9_put cX9_put 4 none wsX9_put rmX9_put 0 0 4 ∧ (Cond.static yX9_put).before args s = true)
  have hc_42 := (cwS 3 hts gX9_takeOut_X9_of rfl rfl rfl (by decide +kernel) ⟨by rw [hR1]; exact Nat.le_of_ble_eq_true rfl, by rw [hR2]; exact Nat.le_of_ble_eq_true rfl⟩ : CallB R s args RX9 42 yX9_of cX9_of 3 (some .int) wsX9_of rmX9_of 0 0 3 ∧ (Cond.static yX9_of).before args s = true)
  unfold m9_takeOut at hf
  refine lv_iconst (v := 0) hx hb dX9_takeOut_0 (by decide) ?_
  refine lv_istore_n (lv' := [(2, .int 0), (0, .ref (xa X ca)), (1, .int a1)]) hx hb dX9_takeOut_1 rfl hl (by decide) rfl (fun ls hl => ?_)
  refine lv_iconst (v := 0) hx hb dX9_takeOut_2 (by decide) ?_
  refine lv_istore_n (lv' := [(3, .int 0), (2, .int 0), (0, .ref (xa X ca)), (1, .int a1)]) hx hb dX9_takeOut_3 rfl hl (by decide) rfl (fun ls hl => ?_)
  have L4 : ∀ (n : Nat) (x2 : Int32) (x3 : Int32) (x4 : Int32) (r5 : Nat → Int32) (o6 : Int32) (or7 : Nat → Int32) (H : Heap) (locs : List Loc) (ls : Array Slot), m9_takeOut_L4 N n x2 x3 x4 r5 = some (o6, or7) → HW X (ua w a r5) H → va_S (xF b0) s.heap H locs → lv_has ls 4 [(0, .ref (xa X ca)), (1, .int x2), (2, .int x3), (3, .int x4)] → (∀ (H1 : Heap) (locs1 : List Loc) (ls1 : Array Slot), HW X (ua w a or7) H1 → va_S (xF b0) s.heap H1 locs1 → lv_has ls1 4 [(0, .ref (xa X ca)), (1, .int x2), (2, .int o6)] → W p l e R s m args below meth c H1 locs1 0 0 Q (F0 m 80 ls1 [])) → W p l e R s m args below meth c H locs 0 0 Q (F0 m 4 ls []) := by
    intro n; induction n with
    | zero => intro x2 x3 x4 r5 o6 or7 H locs ls hf; rw [m9_takeOut_L4] at hf; cases hf
    | succ n ih =>
      intro x2 x3 x4 r5 o6 or7 H locs ls hf hP hS hl K
      rw [m9_takeOut_L4] at hf
      refine lv_iload_n hx hb dX9_takeOut_4 rfl (lv_at hl 3 rfl) ?_
      refine lv_bipush (v := 12) hx hb dX9_takeOut_5 (by decide) ?_
      refine lv_icmp_ge (tgt := 80) hx hb dX9_takeOut_7 (by decide) (fun h8 => ?_) (fun h8 => ?_)
      · rw [if_pos h8] at hf
        have hf := Option.some.inj hf
        simp only [Prod.mk.injEq] at hf
        obtain ⟨rfl, rfl⟩ := hf
        exact K _ _ _ hP hS (lv_sub hl [0, 1, 2] rfl)
      · rw [if_neg h8] at hf
        refine lv_aload_n hx hb dX9_takeOut_10 rfl (lv_at hl 0 rfl) ?_
        refine lv_iload_n hx hb dX9_takeOut_11 rfl (lv_at hl 3 rfl) ?_
        refine lv_iconst (v := 0) hx hb dX9_takeOut_12 (by decide) ?_
        obtain ⟨x9, hc10, hf⟩ := ob1_e hf
        refine w_csi ⟨hx, hb, hml, hown, hts⟩ hP hK hS (k9_at l hX hA w hc10) hc_68 rfl hl.1 rfl (Nat.le_of_ble_eq_true rfl) dX9_takeOut_13 ⟨Nat.zero_le _, Nat.zero_le _⟩ (fun H locs hP hS => ?_)
        refine lv_iload_n hx hb dX9_takeOut_16 rfl (lv_at hl 1 rfl) ?_
        obtain ⟨x24, r25, ejK26, hf⟩ := ob2_e hf
        have K26 : ∀ (H : Heap) (locs : List Loc) (ls : Array Slot), HW X (ua w a r25) H → va_S (xF b0) s.heap H locs → lv_has ls 4 [(0, .ref (xa X ca)), (1, .int x2), (2, .int x24), (3, .int x4)] → W p l e R s m args below meth c H locs 0 0 Q (F0 m 74 ls []) := by
          intro H locs ls hP hS hl
          obtain ⟨x39, ex39⟩ : ∃ y : Int32, y = x4 + 1 := ⟨_, rfl⟩
          replace hf := ltn_s ex39 hf
          refine lv_iinc (v := x39) (lv' := [(3, .int x39), (0, .ref (xa X ca)), (1, .int x2), (2, .int x24)]) hx hb dX9_takeOut_74 hl (k := 3) rfl (by rw [ex39]; rfl) (by decide) rfl (fun ls hl => ?_)
          refine lv_goto (tgt := 4) hx hb dX9_takeOut_77 (by decide) ?_
          exact ih x2 x24 x39 r25 o6 or7 _ _ _ hf hP hS (lv_sub hl [1, 2, 3, 0] rfl) K
        clear hf
        refine lv_icmp_ne (tgt := 74) hx hb dX9_takeOut_17 (by decide) (fun h11 => ?_) (fun h11 => ?_)
        · rw [if_neg h11] at ejK26
          have ejK26 := Option.some.inj ejK26
          simp only [Prod.mk.injEq] at ejK26
          obtain ⟨rfl, rfl⟩ := ejK26
          exact K26 _ _ _ hP hS (lv_sub hl [0, 1, 2, 3] rfl)
        · rw [if_pos h11] at ejK26
          refine lv_iload_n hx hb dX9_takeOut_20 rfl (lv_at hl 2 rfl) ?_
          refine lv_aload_n hx hb dX9_takeOut_21 rfl (lv_at hl 0 rfl) ?_
          refine lv_iload_n hx hb dX9_takeOut_22 rfl (lv_at hl 3 rfl) ?_
          refine lv_iconst (v := 2) hx hb dX9_takeOut_23 (by decide) ?_
          obtain ⟨x27, hc28, ejK26⟩ := ob1_e ejK26
          refine w_csi ⟨hx, hb, hml, hown, hts⟩ hP hK hS (k9_at l hX hA w hc28) hc_68 rfl hl.1 rfl (Nat.le_of_ble_eq_true rfl) dX9_takeOut_24 ⟨Nat.zero_le _, Nat.zero_le _⟩ (fun H locs hP hS => ?_)
          refine lv_iconst (v := 3) hx hb dX9_takeOut_27 (by decide) ?_
          obtain ⟨x30, ejK31, ejK26⟩ := lt1_e ejK26
          have K31 : ∀ (H : Heap) (locs : List Loc) (ls : Array Slot), HW X (ua w a r5) H → va_S (xF b0) s.heap H locs → lv_has ls 4 [(0, .ref (xa X ca)), (1, .int x2), (3, .int x4)] → W p l e R s m args below meth c H locs 0 0 Q (F0 m 36 ls [.int x30, .int x3]) := by
            intro H locs ls hP hS hl
            refine lv_iadd hx hb dX9_takeOut_36 ?_
            refine lv_topi (fun x32 ex32 => ?_)
            replace ejK26 := ltn_s ex32 ejK26
            refine lv_istore_n (lv' := [(2, .int x32), (0, .ref (xa X ca)), (1, .int x2), (3, .int x4)]) hx hb dX9_takeOut_37 rfl hl (by decide) rfl (fun ls hl => ?_)
            refine lv_aload_n hx hb dX9_takeOut_38 rfl (lv_at hl 1 rfl) ?_
            refine lv_sipush (v := 229) hx hb dX9_takeOut_39 (by decide) ?_
            refine lv_iconst (v := 3) hx hb dX9_takeOut_42 (by decide) ?_
            refine lv_iload_n hx hb dX9_takeOut_43 rfl (lv_at hl 3 rfl) ?_
            refine lv_imul hx hb dX9_takeOut_44 ?_
            refine lv_iadd hx hb dX9_takeOut_45 ?_
            refine lv_iconst (v := 0) hx hb dX9_takeOut_46 (by decide) ?_
            refine lv_iadd hx hb dX9_takeOut_47 ?_
            refine lv_iconst (v := (-1)) hx hb dX9_takeOut_48 (by decide) ?_
            obtain ⟨hin33, ejK26⟩ := ck_e ejK26
            refine ar_ast (g := r5) hx hb hX hA ur_s (fun z => ua w a z) (fun z => ua_ua) hP hK hS hin33 dX9_takeOut_49 (fun r34 er34 H locs hP hS => ?_)
            replace ejK26 := ltn_s er34 ejK26
            refine lv_aload_n hx hb dX9_takeOut_50 rfl (lv_at hl 1 rfl) ?_
            refine lv_sipush (v := 229) hx hb dX9_takeOut_51 (by decide) ?_
            refine lv_iconst (v := 3) hx hb dX9_takeOut_54 (by decide) ?_
            refine lv_iload_n hx hb dX9_takeOut_55 rfl (lv_at hl 3 rfl) ?_
            refine lv_imul hx hb dX9_takeOut_56 ?_
            refine lv_iadd hx hb dX9_takeOut_57 ?_
            refine lv_iconst (v := 1) hx hb dX9_takeOut_58 (by decide) ?_
            refine lv_iadd hx hb dX9_takeOut_59 ?_
            refine lv_iconst (v := 0) hx hb dX9_takeOut_60 (by decide) ?_
            obtain ⟨hin35, ejK26⟩ := ck_e ejK26
            refine ar_ast (g := r34) hx hb hX hA ur_s (fun z => ua w a z) (fun z => ua_ua) hP hK hS hin35 dX9_takeOut_61 (fun r36 er36 H locs hP hS => ?_)
            replace ejK26 := ltn_s er36 ejK26
            refine lv_aload_n hx hb dX9_takeOut_62 rfl (lv_at hl 1 rfl) ?_
            refine lv_sipush (v := 229) hx hb dX9_takeOut_63 (by decide) ?_
            refine lv_iconst (v := 3) hx hb dX9_takeOut_66 (by decide) ?_
            refine lv_iload_n hx hb dX9_takeOut_67 rfl (lv_at hl 3 rfl) ?_
            refine lv_imul hx hb dX9_takeOut_68 ?_
            refine lv_iadd hx hb dX9_takeOut_69 ?_
            refine lv_iconst (v := 2) hx hb dX9_takeOut_70 (by decide) ?_
            refine lv_iadd hx hb dX9_takeOut_71 ?_
            refine lv_iconst (v := 0) hx hb dX9_takeOut_72 (by decide) ?_
            obtain ⟨hin37, ejK26⟩ := ck_e ejK26
            refine ar_ast (g := r36) hx hb hX hA ur_s (fun z => ua w a z) (fun z => ua_ua) hP hK hS hin37 dX9_takeOut_73 (fun r38 er38 H locs hP hS => ?_)
            replace ejK26 := ltn_s er38 ejK26
            have ejK26 := Option.some.inj ejK26
            simp only [Prod.mk.injEq] at ejK26
            obtain ⟨rfl, rfl⟩ := ejK26
            exact K26 _ _ _ hP hS (lv_sub hl [1, 2, 0, 3] rfl)
          clear ejK26
          refine lv_icmp_lt (tgt := 35) hx hb dX9_takeOut_28 (by decide) (fun h29 => ?_) (fun h29 => ?_)
          · rw [if_pos h29] at ejK31
            refine lv_iconst (v := 0) hx hb dX9_takeOut_35 (by decide) ?_
            obtain rfl := ejK31
            exact K31 _ _ _ hP hS (lv_sub hl [0, 1, 3] rfl)
          · rw [if_neg h29] at ejK31
            refine lv_iconst (v := 1) hx hb dX9_takeOut_31 (by decide) ?_
            refine lv_goto (tgt := 36) hx hb dX9_takeOut_32 (by decide) ?_
            obtain rfl := ejK31
            exact K31 _ _ _ hP hS (lv_sub hl [0, 1, 3] rfl)
  obtain ⟨x40, r41, hc42, hf⟩ := ob2_e hf
  refine L4 N a1 0 0 r0 x40 r41 _ _ _ hc42 hP hS (lv_sub hl [2, 3, 1, 0] rfl) (fun H locs ls hP hS hl => ?_)
  refine lv_aload_n hx hb dX9_takeOut_80 rfl (lv_at hl 0 rfl) ?_
  refine lv_iload_n hx hb dX9_takeOut_81 rfl (lv_at hl 1 rfl) ?_
  refine lv_iconst (v := 4) hx hb dX9_takeOut_82 (by decide) ?_
  refine lv_iconst (v := 2) hx hb dX9_takeOut_83 (by decide) ?_
  obtain ⟨r43, hc44, hf⟩ := ob1_e hf
  refine w_csv ⟨hx, hb, hml, hown, hts⟩ hP hK hS (k9_put l hX hA w hc44) hc_57 rfl hl.1 rfl (Nat.le_of_ble_eq_true rfl) dX9_takeOut_84 ⟨Nat.zero_le _, Nat.zero_le _⟩ (fun H locs hP hS => ?_)
  refine lv_aload_n hx hb dX9_takeOut_87 rfl (lv_at hl 0 rfl) ?_
  refine lv_iload_n hx hb dX9_takeOut_88 rfl (lv_at hl 1 rfl) ?_
  refine lv_bipush (v := 7) hx hb dX9_takeOut_89 (by decide) ?_
  refine lv_iload_n hx hb dX9_takeOut_91 rfl (lv_at hl 2 rfl) ?_
  obtain ⟨r45, hc46, hf⟩ := ob1_e hf
  refine w_csv ⟨hx, hb, hml, hown, hts⟩ hP hK hS (k9_put l hX hA w hc46) hc_57 rfl hl.1 rfl (Nat.le_of_ble_eq_true rfl) dX9_takeOut_92 ⟨Nat.zero_le _, Nat.zero_le _⟩ (fun H locs hP hS => ?_)
  refine lv_bipush (v := 37) hx hb dX9_takeOut_95 (by decide) ?_
  refine lv_bipush (v := 6) hx hb dX9_takeOut_97 (by decide) ?_
  refine lv_aload_n hx hb dX9_takeOut_99 rfl (lv_at hl 0 rfl) ?_
  refine lv_iload_n hx hb dX9_takeOut_100 rfl (lv_at hl 1 rfl) ?_
  refine lv_iconst (v := 0) hx hb dX9_takeOut_101 (by decide) ?_
  obtain ⟨x47, hc48, hf⟩ := ob1_e hf
  refine w_csi ⟨hx, hb, hml, hown, hts⟩ hP hK hS (k9_of l hX hA w hc48) hc_42 rfl hl.1 rfl (Nat.le_of_ble_eq_true rfl) dX9_takeOut_102 ⟨Nat.zero_le _, Nat.zero_le _⟩ (fun H locs hP hS => ?_)
  refine lv_imul hx hb dX9_takeOut_105 ?_
  refine lv_iadd hx hb dX9_takeOut_106 ?_
  refine lv_topi (fun x49 ex49 => ?_)
  replace hf := ltn_s ex49 hf
  refine lv_istore_n (lv' := [(3, .int x49), (0, .ref (xa X ca)), (1, .int a1), (2, .int x40)]) hx hb dX9_takeOut_107 rfl hl (by decide) rfl (fun ls hl => ?_)
  refine lv_aload_n hx hb dX9_takeOut_108 rfl (lv_at hl 1 rfl) ?_
  refine lv_iload_n hx hb dX9_takeOut_109 rfl (lv_at hl 0 rfl) ?_
  refine lv_iconst (v := 4) hx hb dX9_takeOut_110 (by decide) ?_
  refine lv_iadd hx hb dX9_takeOut_111 ?_
  refine lv_topi (fun x50 ex50 => ?_)
  replace hf := ltn_s ex50 hf
  refine lv_dup2_11 hx hb dX9_takeOut_112 rfl rfl ?_
  obtain ⟨hin51, hf⟩ := ck_e hf
  refine ar_ald (g := r45) hx hb hA ur_s hP hK hin51 dX9_takeOut_113 ?_
  refine lv_aload_n hx hb dX9_takeOut_114 rfl (lv_at hl 1 rfl) ?_
  refine lv_iload_n hx hb dX9_takeOut_115 rfl (lv_at hl 2 rfl) ?_
  refine lv_iconst (v := 2) hx hb dX9_takeOut_116 (by decide) ?_
  obtain ⟨x52, hc53, hf⟩ := ob1_e hf
  refine w_csi ⟨hx, hb, hml, hown, hts⟩ hP hK hS (k9_of l hX hA w hc53) hc_42 rfl hl.1 rfl (Nat.le_of_ble_eq_true rfl) dX9_takeOut_117 ⟨Nat.zero_le _, Nat.zero_le _⟩ (fun H locs hP hS => ?_)
  refine lv_iadd hx hb dX9_takeOut_120 ?_
  obtain ⟨hin54, hf⟩ := ck_e hf
  refine ar_ast (g := r45) hx hb hX hA ur_s (fun z => ua w a z) (fun z => ua_ua) hP hK hS hin54 dX9_takeOut_121 (fun r55 er55 H locs hP hS => ?_)
  replace hf := ltn_s er55 hf
  refine lv_aload_n hx hb dX9_takeOut_122 rfl (lv_at hl 1 rfl) ?_
  refine lv_iload_n hx hb dX9_takeOut_123 rfl (lv_at hl 0 rfl) ?_
  refine lv_iconst (v := 5) hx hb dX9_takeOut_124 (by decide) ?_
  refine lv_iadd hx hb dX9_takeOut_125 ?_
  refine lv_topi (fun x56 ex56 => ?_)
  replace hf := ltn_s ex56 hf
  refine lv_dup2_11 hx hb dX9_takeOut_126 rfl rfl ?_
  obtain ⟨hin57, hf⟩ := ck_e hf
  refine ar_ald (g := r55) hx hb hA ur_s hP hK hin57 dX9_takeOut_127 ?_
  refine lv_iload_n hx hb dX9_takeOut_128 rfl (lv_at hl 3 rfl) ?_
  refine lv_iadd hx hb dX9_takeOut_129 ?_
  obtain ⟨hin58, hf⟩ := ck_e hf
  refine ar_ast (g := r55) hx hb hX hA ur_s (fun z => ua w a z) (fun z => ua_ua) hP hK hS hin58 dX9_takeOut_130 (fun r59 er59 H locs hP hS => ?_)
  replace hf := ltn_s er59 hf
  refine lv_aload_n hx hb dX9_takeOut_131 rfl (lv_at hl 1 rfl) ?_
  refine lv_bipush (v := 10) hx hb dX9_takeOut_132 (by decide) ?_
  refine lv_dup2_11 hx hb dX9_takeOut_134 rfl rfl ?_
  obtain ⟨hin60, hf⟩ := ck_e hf
  refine ar_ald (g := r59) hx hb hA ur_s hP hK hin60 dX9_takeOut_135 ?_
  refine lv_aload_n hx hb dX9_takeOut_136 rfl (lv_at hl 1 rfl) ?_
  refine lv_iload_n hx hb dX9_takeOut_137 rfl (lv_at hl 2 rfl) ?_
  refine lv_iconst (v := 2) hx hb dX9_takeOut_138 (by decide) ?_
  obtain ⟨x61, hc62, hf⟩ := ob1_e hf
  refine w_csi ⟨hx, hb, hml, hown, hts⟩ hP hK hS (k9_of l hX hA w hc62) hc_42 rfl hl.1 rfl (Nat.le_of_ble_eq_true rfl) dX9_takeOut_139 ⟨Nat.zero_le _, Nat.zero_le _⟩ (fun H locs hP hS => ?_)
  refine lv_iadd hx hb dX9_takeOut_142 ?_
  obtain ⟨hin63, hf⟩ := ck_e hf
  refine ar_ast (g := r59) hx hb hX hA ur_s (fun z => ua w a z) (fun z => ua_ua) hP hK hS hin63 dX9_takeOut_143 (fun r64 er64 H locs hP hS => ?_)
  replace hf := ltn_s er64 hf
  refine lv_aload_n hx hb dX9_takeOut_144 rfl (lv_at hl 1 rfl) ?_
  refine lv_bipush (v := 9) hx hb dX9_takeOut_145 (by decide) ?_
  refine lv_dup2_11 hx hb dX9_takeOut_147 rfl rfl ?_
  obtain ⟨hin65, hf⟩ := ck_e hf
  refine ar_ald (g := r64) hx hb hA ur_s hP hK hin65 dX9_takeOut_148 ?_
  refine lv_iconst (v := 1) hx hb dX9_takeOut_149 (by decide) ?_
  refine lv_iadd hx hb dX9_takeOut_150 ?_
  obtain ⟨hin66, hf⟩ := ck_e hf
  refine ar_ast (g := r64) hx hb hX hA ur_s (fun z => ua w a z) (fun z => ua_ua) hP hK hS hin66 dX9_takeOut_151 (fun r67 er67 H locs hP hS => ?_)
  replace hf := ltn_s er67 hf
  have hf := Option.some.inj hf
  obtain rfl := hf
  rw [hQ]
  exact w_vret hx hb hr hlocks hP hK hS dX9_takeOut_152 rfl
