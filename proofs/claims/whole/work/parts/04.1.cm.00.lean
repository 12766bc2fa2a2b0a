abbrev rmX0_length : Room := { frames := 0, cells := 0, slots := 0, locals := 0 }
theorem iX0_length_X0 : ∀ w ∈ wsX00, w ∈ wsX0_length := by decide +kernel
set_option maxHeartbeats 4000000 in
set_option maxRecDepth 100000 in
theorem k0_length (l : Launch) {X : bkX} {b0 : Nat} (hX : XO X b0) (w : bkW) {c0 : bkA} {res9 : Int32} (hf : m0_length c0 = res9) : cI l yX0_length wsX0_length rmX0_length X b0 [.ref (xa X 309)] (pcm w c0) res9 (pcm w c0) := by
  refine Met.ofW (cc := cX0_length) (maxL := 1) (ret := (some .int)) (by decide) rfl ?_
  intro p e s m args below meth c s₁ B hml hv
  obtain ⟨ha, hP, hK⟩ := hv
  have hx := B.exec
  have hb := B.bytes
  have hr := B.returns
  have hts := atoms_spec (ws := wsX0_length) B.pre
  have hown : s.vm.findClass RX0 = some m.cls := findClass_of_methodNamed B.named
  have hlocks := B.notSynchronized
  obtain ⟨R, hR⟩ : ∃ R, R = (headSpec wsX0_length rmX0_length).room := ⟨_, rfl⟩
  rw [← hR]
  have hR1 : R.frames = 0 := by rw [hR]; rfl
  have hR2 : R.locals = 0 := by rw [hR]; rfl
  obtain ⟨Q, hQ⟩ : ∃ Q : State → Prop, Q = MQ below (va_Qi (fun r' (_ : Unit) => r' = res9) (fun _ t => WU X (pcm w c0) t) (xF b0)) args s 0 0 (xF b0) := ⟨_, rfl⟩
  rw [← hQ]
  have hS : va_S (xF b0) s.heap s.heap [] := va_S.rf
  have hl := lv_entry ([.ref (xa X 309)]) (n := 1) (Nat.le_of_ble_eq_true rfl)
  refine W.eq ((congrArg (fun z => entryFrame m z 1) ha).trans (lg_entry_eq m _ 1)) ?_
  generalize (lg_sl ([.ref (xa X 309)]) ++ List.replicate (1 - (lg_sl ([.ref (xa X 309)])).length) Slot.unset).toArray = ls at hl ⊢
  have hl : lv_has ls 1 [(0, .ref (xa X 309))] := hl
  have hk_f27 := hts (.fieldLink RX0 27 "BakeTurns$Commands" "length" "I") (by decide +kernel)
  unfold m0_length at hf
  refine lv_aload_n hx hb dX0_length_0 rfl (lv_at hl 0 rfl) ?_
  refine w_get hx hb hts iX0_length_X0 hown hP hK (by decide) emb_cm rfl 2 (by decide) hk_f27 rfl dX0_length_1 ?_
  obtain rfl := hf
  rw [hQ]
  exact w_iret hx hb hr hlocks hP hK hS dX0_length_4 rfl rfl
abbrev rmX0_refusalOfByte : Room := { frames := 0, cells := 0, slots := 0, locals := 0 }
theorem iX0_refusalOfByte_X0 : ∀ w ∈ wsX00, w ∈ wsX0_refusalOfByte := by decide +kernel
set_option maxHeartbeats 4000000 in
set_option maxRecDepth 100000 in
theorem k0_refusalOfByte (l : Launch) {X : bkX} {b0 : Nat} (hX : XO X b0) (w : bkW) {c0 : bkA} {a1 : Int32} {res9 : Int32} (hf : m0_refusalOfByte c0 a1 = res9) : cI l yX0_refusalOfByte wsX0_refusalOfByte rmX0_refusalOfByte X b0 [.ref (xa X 309), .int a1] (pcm w c0) res9 (pcm w c0) := by
  refine Met.ofW (cc := cX0_refusalOfByte) (maxL := 2) (ret := (some .int)) (by decide) rfl ?_
  intro p e s m args below meth c s₁ B hml hv
  obtain ⟨ha, hP, hK⟩ := hv
  have hx := B.exec
  have hb := B.bytes
  have hr := B.returns
  have hts := atoms_spec (ws := wsX0_refusalOfByte) B.pre
  have hown : s.vm.findClass RX0 = some m.cls := findClass_of_methodNamed B.named
  have hlocks := B.notSynchronized
  obtain ⟨R, hR⟩ : ∃ R, R = (headSpec wsX0_refusalOfByte rmX0_refusalOfByte).room := ⟨_, rfl⟩
  rw [← hR]
  have hR1 : R.frames = 0 := by rw [hR]; rfl
  have hR2 : R.locals = 0 := by rw [hR]; rfl
  obtain ⟨Q, hQ⟩ : ∃ Q : State → Prop, Q = MQ below (va_Qi (fun r' (_ : Unit) => r' = res9) (fun _ t => WU X (pcm w c0) t) (xF b0)) args s 0 0 (xF b0) := ⟨_, rfl⟩
  rw [← hQ]
  have hS : va_S (xF b0) s.heap s.heap [] := va_S.rf
  have hl := lv_entry ([.ref (xa X 309), .int a1]) (n := 2) (Nat.le_of_ble_eq_true rfl)
  refine W.eq ((congrArg (fun z => entryFrame m z 2) ha).trans (lg_entry_eq m _ 2)) ?_
  generalize (lg_sl ([.ref (xa X 309), .int a1]) ++ List.replicate (2 - (lg_sl ([.ref (xa X 309), .int a1])).length) Slot.unset).toArray = ls at hl ⊢
  have hl : lv_has ls 2 [(0, .ref (xa X 309)), (1, .int a1)] := hl
  have hk_f27 := hts (.fieldLink RX0 27 "BakeTurns$Commands" "length" "I") (by decide +kernel)
  unfold m0_refusalOfByte at hf
  refine lv_iload_n hx hb dX0_refusalOfByte_0 rfl (lv_at hl 1 rfl) ?_
  refine lv_if_lt (tgt := 10) hx hb dX0_refusalOfByte_1 (by decide) (fun h1 => ?_) (fun h1 => ?_)
  · rw [if_pos h1] at hf
    refine lv_iconst (v := 2) hx hb dX0_refusalOfByte_10 (by decide) ?_
    obtain rfl := hf
    rw [hQ]
    exact w_iret hx hb hr hlocks hP hK hS dX0_refusalOfByte_11 rfl rfl
  · rw [if_neg h1] at hf
    refine lv_iload_n hx hb dX0_refusalOfByte_4 rfl (lv_at hl 1 rfl) ?_
    refine lv_bipush (v := 127) hx hb dX0_refusalOfByte_5 (by decide) ?_
    refine lv_icmp_le (tgt := 12) hx hb dX0_refusalOfByte_7 (by decide) (fun h2 => ?_) (fun h2 => ?_)
    · rw [if_pos h2] at hf
      refine lv_aload_n hx hb dX0_refusalOfByte_12 rfl (lv_at hl 0 rfl) ?_
      refine w_get hx hb hts iX0_refusalOfByte_X0 hown hP hK (by decide) emb_cm rfl 2 (by decide) hk_f27 rfl dX0_refusalOfByte_13 ?_
      refine lv_sipush (v := 150) hx hb dX0_refusalOfByte_16 (by decide) ?_
      refine lv_icmp_lt (tgt := 26) hx hb dX0_refusalOfByte_19 (by decide) (fun h3 => ?_) (fun h3 => ?_)
      · rw [if_pos h3] at hf
        refine lv_iconst (v := 0) hx hb dX0_refusalOfByte_26 (by decide) ?_
        obtain rfl := hf
        rw [hQ]
        exact w_iret hx hb hr hlocks hP hK hS dX0_refusalOfByte_27 rfl rfl
      · rw [if_neg h3] at hf
        refine lv_iconst (v := 3) hx hb dX0_refusalOfByte_22 (by decide) ?_
        refine lv_goto (tgt := 27) hx hb dX0_refusalOfByte_23 (by decide) ?_
        obtain rfl := hf
        rw [hQ]
        exact w_iret hx hb hr hlocks hP hK hS dX0_refusalOfByte_27 rfl rfl
    · rw [if_neg h2] at hf
      refine lv_iconst (v := 2) hx hb dX0_refusalOfByte_10 (by decide) ?_
      obtain rfl := hf
      rw [hQ]
      exact w_iret hx hb hr hlocks hP hK hS dX0_refusalOfByte_11 rfl rfl
abbrev rmX0_append : Room := { frames := 1, cells := 0, slots := 0, locals := 22 }
theorem iX0_append_X0 : ∀ w ∈ wsX00, w ∈ wsX0_append := by decide +kernel
set_option maxHeartbeats 4000000 in
set_option maxRecDepth 100000 in
theorem k0_append (l : Launch) {X : bkX} {b0 : Nat} (hX : XO X b0) (w : bkW) {c0 : bkA} {a1 : Int32} {res9 : Int32} {c9 : bkA} (hf : m0_append c0 a1 = (res9, c9)) : cI l yX0_append wsX0_append rmX0_append X b0 [.ref (xa X 309), .int a1] (pcm w c0) res9 (pcm w c9) := by
  refine Met.ofW (cc := cX0_append) (maxL := 2) (ret := (some .int)) (by decide) rfl ?_
  intro p e s m args below meth c s₁ B hml hv
  obtain ⟨ha, hP, hK⟩ := hv
  have hx := B.exec
  have hb := B.bytes
  have hr := B.returns
  have hts := atoms_spec (ws := wsX0_append) B.pre
  have hown : s.vm.findClass RX0 = some m.cls := findClass_of_methodNamed B.named
  have hlocks := B.notSynchronized
  obtain ⟨R, hR⟩ : ∃ R, R = (headSpec wsX0_append rmX0_append).room := ⟨_, rfl⟩
  rw [← hR]
  have hR1 : R.frames = 1 := by rw [hR]; rfl
  have hR2 : R.locals = 22 := by rw [hR]; rfl
  obtain ⟨Q, hQ⟩ : ∃ Q : State → Prop, Q = MQ below (va_Qi (fun r' (_ : Unit) => r' = res9) (fun _ t => WU X (pcm w c9) t) (xF b0)) args s 0 0 (xF b0) := ⟨_, rfl⟩
  rw [← hQ]
  have hS : va_S (xF b0) s.heap s.heap [] := va_S.rf
  have hl := lv_entry ([.ref (xa X 309), .int a1]) (n := 2) (Nat.le_of_ble_eq_true rfl)
  refine W.eq ((congrArg (fun z => entryFrame m z 2) ha).trans (lg_entry_eq m _ 2)) ?_
  generalize (lg_sl ([.ref (xa X 309), .int a1]) ++ List.replicate (2 - (lg_sl ([.ref (xa X 309), .int a1])).length) Slot.unset).toArray = ls at hl ⊢
  have hl : lv_has ls 2 [(0, .ref (xa X 309)), (1, .int a1)] := hl
  have hk_f14 := hts (.fieldLink RX0 14 "BakeTurns$Commands" "text" "LBakeTurns$Row;") (by decide +kernel)
  have hk_f27 := hts (.fieldLink RX0 27 "BakeTurns$Commands" "length" "I") (by decide +kernel)
  have hc_30 := (cwV 2 hts gX0_append_X6_put rfl rfl rfl (by decide +kernel) ⟨by rw [hR1]; exact Nat.le_of_ble_eq_true rfl, by rw [hR2]; exact Nat.le_of_ble_eq_true rfl⟩ : CallW R s args RX0 RX6 30 yX6_put cX6_put 3 none wsX6_put rmX6_put 0 0 2)
  unfold m0_append at hf
  refine lv_aload_n hx hb dX0_append_0 rfl (lv_at hl 0 rfl) ?_
  refine w_get hx hb hts iX0_append_X0 hown hP hK (by decide) emb_cm rfl 0 (by decide) hk_f14 rfl dX0_append_1 ?_
  refine lv_aload_n hx hb dX0_append_4 rfl (lv_at hl 0 rfl) ?_
  refine w_get hx hb hts iX0_append_X0 hown hP hK (by decide) emb_cm rfl 2 (by decide) hk_f27 rfl dX0_append_5 ?_
  refine lv_iload_n hx hb dX0_append_8 rfl (lv_at hl 1 rfl) ?_
  refine cm_putr (j := 0) (n := 150) hX RW_tx ⟨hx, hb, hml, hown, hts⟩ hP hK hS (by decide) hc_30 hl.1 (Nat.le_of_ble_eq_true rfl) dX0_append_9 (fun c1 ec1 H locs hP hS => ?_)
  replace hf := ltn_s ec1 hf
  refine lv_aload_n hx hb dX0_append_12 rfl (lv_at hl 0 rfl) ?_
  refine lv_dup hx hb dX0_append_13 rfl ?_
  refine w_get hx hb hts iX0_append_X0 hown hP hK (by decide) emb_cm rfl 2 (by decide) hk_f27 rfl dX0_append_14 ?_
  refine lv_iconst (v := 1) hx hb dX0_append_17 (by decide) ?_
  refine lv_iadd hx hb dX0_append_18 ?_
  refine cm_put hx hb hts iX0_append_X0 hown hX hP hK hS 2 (by decide) hk_f27 rfl rfl (Nat.le_of_ble_eq_true rfl) (cm_es0 _) dX0_append_19 (fun c2 ec2 H locs hP hS => ?_)
  replace hf := ltn_s ec2 hf
  refine lv_aload_n hx hb dX0_append_22 rfl (lv_at hl 0 rfl) ?_
  refine w_get hx hb hts iX0_append_X0 hown hP hK (by decide) emb_cm rfl 2 (by decide) hk_f27 rfl dX0_append_23 ?_
  simp only [Prod.mk.injEq] at hf
  obtain ⟨rfl, rfl⟩ := hf
  rw [hQ]
  exact w_iret hx hb hr hlocks hP hK hS dX0_append_26 rfl rfl
abbrev rmX0_empty : Room := { frames := 0, cells := 0, slots := 0, locals := 0 }
theorem iX0_empty_X0 : ∀ w ∈ wsX00, w ∈ wsX0_empty := by decide +kernel
set_option maxHeartbeats 4000000 in
set_option maxRecDepth 100000 in
theorem k0_empty (l : Launch) {X : bkX} {b0 : Nat} (hX : XO X b0) (w : bkW) {c0 : bkA} {res9 : Int32} {c9 : bkA} (hf : m0_empty c0 = (res9, c9)) : cI l yX0_empty wsX0_empty rmX0_empty X b0 [.ref (xa X 309)] (pcm w c0) res9 (pcm w c9) := by
  refine Met.ofW (cc := cX0_empty) (maxL := 2) (ret := (some .int)) (by decide) rfl ?_
  intro p e s m args below meth c s₁ B hml hv
  obtain ⟨ha, hP, hK⟩ := hv
  have hx := B.exec
  have hb := B.bytes
  have hr := B.returns
  have hts := atoms_spec (ws := wsX0_empty) B.pre
  have hown : s.vm.findClass RX0 = some m.cls := findClass_of_methodNamed B.named
  have hlocks := B.notSynchronized
  obtain ⟨R, hR⟩ : ∃ R, R = (headSpec wsX0_empty rmX0_empty).room := ⟨_, rfl⟩
  rw [← hR]
  have hR1 : R.frames = 0 := by rw [hR]; rfl
  have hR2 : R.locals = 0 := by rw [hR]; rfl
  obtain ⟨Q, hQ⟩ : ∃ Q : State → Prop, Q = MQ below (va_Qi (fun r' (_ : Unit) => r' = res9) (fun _ t => WU X (pcm w c9) t) (xF b0)) args s 0 0 (xF b0) := ⟨_, rfl⟩
  rw [← hQ]
  have hS : va_S (xF b0) s.heap s.heap [] := va_S.rf
  have hl := lv_entry ([.ref (xa X 309)]) (n := 2) (Nat.le_of_ble_eq_true rfl)
  refine W.eq ((congrArg (fun z => entryFrame m z 2) ha).trans (lg_entry_eq m _ 2)) ?_
  generalize (lg_sl ([.ref (xa X 309)]) ++ List.replicate (2 - (lg_sl ([.ref (xa X 309)])).length) Slot.unset).toArray = ls at hl ⊢
  have hl : lv_has ls 2 [(0, .ref (xa X 309))] := hl
  have hk_f27 := hts (.fieldLink RX0 27 "BakeTurns$Commands" "length" "I") (by decide +kernel)
  unfold m0_empty at hf
  refine lv_aload_n hx hb dX0_empty_0 rfl (lv_at hl 0 rfl) ?_
  refine w_get hx hb hts iX0_empty_X0 hown hP hK (by decide) emb_cm rfl 2 (by decide) hk_f27 rfl dX0_empty_1 ?_
  refine lv_topi (fun x1 ex1 => ?_)
  replace hf := ltn_s ex1 hf
  refine lv_istore_n (lv' := [(1, .int x1), (0, .ref (xa X 309))]) hx hb dX0_empty_4 rfl hl (by decide) rfl (fun ls hl => ?_)
  refine lv_aload_n hx hb dX0_empty_5 rfl (lv_at hl 1 rfl) ?_
  refine lv_iconst (v := 0) hx hb dX0_empty_6 (by decide) ?_
  refine cm_put hx hb hts iX0_empty_X0 hown hX hP hK hS 2 (by decide) hk_f27 rfl rfl (Nat.le_of_ble_eq_true rfl) (cm_es0 _) dX0_empty_7 (fun c2 ec2 H locs hP hS => ?_)
  replace hf := ltn_s ec2 hf
  refine lv_iload_n hx hb dX0_empty_10 rfl (lv_at hl 0 rfl) ?_
  simp only [Prod.mk.injEq] at hf
  obtain ⟨rfl, rfl⟩ := hf
  rw [hQ]
  exact w_iret hx hb hr hlocks hP hK hS dX0_empty_11 rfl rfl
abbrev rmX0_word : Room := { frames := 0, cells := 0, slots := 0, locals := 0 }
theorem iX0_word_X0 : ∀ w ∈ wsX00, w ∈ wsX0_word := by decide +kernel
set_option maxHeartbeats 4000000 in
set_option maxRecDepth 100000 in
theorem k0_word (l : Launch) {X : bkX} {b0 : Nat} (hX : XO X b0) (w : bkW) {c0 : bkA} {res9 : Int32} (hf : m0_word c0 = res9) : cI l yX0_word wsX0_word rmX0_word X b0 [.ref (xa X 309)] (pcm w c0) res9 (pcm w c0) := by
  refine Met.ofW (cc := cX0_word) (maxL := 1) (ret := (some .int)) (by decide) rfl ?_
  intro p e s m args below meth c s₁ B hml hv
  obtain ⟨ha, hP, hK⟩ := hv
  have hx := B.exec
  have hb := B.bytes
  have hr := B.returns
  have hts := atoms_spec (ws := wsX0_word) B.pre
  have hown : s.vm.findClass RX0 = some m.cls := findClass_of_methodNamed B.named
  have hlocks := B.notSynchronized
  obtain ⟨R, hR⟩ : ∃ R, R = (headSpec wsX0_word rmX0_word).room := ⟨_, rfl⟩
  rw [← hR]
  have hR1 : R.frames = 0 := by rw [hR]; rfl
  have hR2 : R.locals = 0 := by rw [hR]; rfl
  obtain ⟨Q, hQ⟩ : ∃ Q : State → Prop, Q = MQ below (va_Qi (fun r' (_ : Unit) => r' = res9) (fun _ t => WU X (pcm w c0) t) (xF b0)) args s 0 0 (xF b0) := ⟨_, rfl⟩
  rw [← hQ]
  have hS : va_S (xF b0) s.heap s.heap [] := va_S.rf
  have hl := lv_entry ([.ref (xa X 309)]) (n := 1) (Nat.le_of_ble_eq_true rfl)
  refine W.eq ((congrArg (fun z => entryFrame m z 1) ha).trans (lg_entry_eq m _ 1)) ?_
  generalize (lg_sl ([.ref (xa X 309)]) ++ List.replicate (1 - (lg_sl ([.ref (xa X 309)])).length) Slot.unset).toArray = ls at hl ⊢
  have hl : lv_has ls 1 [(0, .ref (xa X 309))] := hl
  have hk_f34 := hts (.fieldLink RX0 34 "BakeTurns$Commands" "word" "I") (by decide +kernel)
  unfold m0_word at hf
  refine lv_aload_n hx hb dX0_word_0 rfl (lv_at hl 0 rfl) ?_
  refine w_get hx hb hts iX0_word_X0 hown hP hK (by decide) emb_cm rfl 4 (by decide) hk_f34 rfl dX0_word_1 ?_
  obtain rfl := hf
  rw [hQ]
  exact w_iret hx hb hr hlocks hP hK hS dX0_word_4 rfl rfl
abbrev rmX0_number : Room := { frames := 1, cells := 0, slots := 0, locals := 21 }
theorem iX0_number_X0 : ∀ w ∈ wsX00, w ∈ wsX0_number := by decide +kernel
set_option maxHeartbeats 4000000 in
set_option maxRecDepth 100000 in
theorem k0_number (l : Launch) {X : bkX} {b0 : Nat} (hX : XO X b0) (w : bkW) {c0 : bkA} {a1 : Int32} {res9 : Int32} (hf : m0_number c0 a1 = res9) : cI l yX0_number wsX0_number rmX0_number X b0 [.ref (xa X 309), .int a1] (pcm w c0) res9 (pcm w c0) := by
  refine Met.ofW (cc := cX0_number) (maxL := 2) (ret := (some .int)) (by decide) rfl ?_
  intro p e s m args below meth c s₁ B hml hv
  obtain ⟨ha, hP, hK⟩ := hv
  have hx := B.exec
  have hb := B.bytes
  have hr := B.returns
  have hts := atoms_spec (ws := wsX0_number) B.pre
  have hown : s.vm.findClass RX0 = some m.cls := findClass_of_methodNamed B.named
  have hlocks := B.notSynchronized
  obtain ⟨R, hR⟩ : ∃ R, R = (headSpec wsX0_number rmX0_number).room := ⟨_, rfl⟩
  rw [← hR]
  have hR1 : R.frames = 1 := by rw [hR]; rfl
  have hR2 : R.locals = 21 := by rw [hR]; rfl
  obtain ⟨Q, hQ⟩ : ∃ Q : State → Prop, Q = MQ below (va_Qi (fun r' (_ : Unit) => r' = res9) (fun _ t => WU X (pcm w c0) t) (xF b0)) args s 0 0 (xF b0) := ⟨_, rfl⟩
  rw [← hQ]
  have hS : va_S (xF b0) s.heap s.heap [] := va_S.rf
  have hl := lv_entry ([.ref (xa X 309), .int a1]) (n := 2) (Nat.le_of_ble_eq_true rfl)
  refine W.eq ((congrArg (fun z => entryFrame m z 2) ha).trans (lg_entry_eq m _ 2)) ?_
  generalize (lg_sl ([.ref (xa X 309), .int a1]) ++ List.replicate (2 - (lg_sl ([.ref (xa X 309), .int a1])).length) Slot.unset).toArray = ls at hl ⊢
  have hl : lv_has ls 2 [(0, .ref (xa X 309)), (1, .int a1)] := hl
  have hk_f20 := hts (.fieldLink RX0 20 "BakeTurns$Commands" "numbers" "LBakeTurns$Row;") (by decide +kernel)
  have hc_37 := (cwV 1 hts gX0_number_X6_at rfl rfl rfl (by decide +kernel) ⟨by rw [hR1]; exact Nat.le_of_ble_eq_true rfl, by rw [hR2]; exact Nat.le_of_ble_eq_true rfl⟩ : CallW R s args RX0 RX6 37 yX6_at cX6_at 2 (some .int) wsX6_at rmX6_at 0 0 1)
  unfold m0_number at hf
  refine lv_aload_n hx hb dX0_number_0 rfl (lv_at hl 0 rfl) ?_
  refine w_get hx hb hts iX0_number_X0 hown hP hK (by decide) emb_cm rfl 1 (by decide) hk_f20 rfl dX0_number_1 ?_
  refine lv_iload_n hx hb dX0_number_4 rfl (lv_at hl 1 rfl) ?_
  refine cm_at (j := 1) (n := 5) RW_nu ⟨hx, hb, hml, hown, hts⟩ hP hK hS (by decide) hc_37 hl.1 (Nat.le_of_ble_eq_true rfl) dX0_number_5 (fun H locs hP hS => ?_)
  obtain rfl := hf
  rw [hQ]
  exact w_iret hx hb hr hlocks hP hK hS dX0_number_8 rfl rfl
abbrev rmX0_rewind : Room := { frames := 0, cells := 0, slots := 0, locals := 0 }
theorem iX0_rewind_X0 : ∀ w ∈ wsX00, w ∈ wsX0_rewind := by decide +kernel
set_option maxHeartbeats 4000000 in
set_option maxRecDepth 100000 in
theorem k0_rewind (l : Launch) {X : bkX} {b0 : Nat} (hX : XO X b0) (w : bkW) {c0 : bkA} {c9 : bkA} (hf : m0_rewind c0 = c9) : cV l yX0_rewind wsX0_rewind rmX0_rewind X b0 [.ref (xa X 309)] (pcm w c0) (pcm w c9) := by
  refine Met.ofW (cc := cX0_rewind) (maxL := 1) (ret := none) (by decide) rfl ?_
  intro p e s m args below meth c s₁ B hml hv
  obtain ⟨ha, hP, hK⟩ := hv
  have hx := B.exec
  have hb := B.bytes
  have hr := B.returns
  have hts := atoms_spec (ws := wsX0_rewind) B.pre
  have hown : s.vm.findClass RX0 = some m.cls := findClass_of_methodNamed B.named
  have hlocks := B.notSynchronized
  obtain ⟨R, hR⟩ : ∃ R, R = (headSpec wsX0_rewind rmX0_rewind).room := ⟨_, rfl⟩
  rw [← hR]
  have hR1 : R.frames = 0 := by rw [hR]; rfl
  have hR2 : R.locals = 0 := by rw [hR]; rfl
  obtain ⟨Q, hQ⟩ : ∃ Q : State → Prop, Q = MQ below (va_Qv (fun (_ : Unit) => True) (fun _ t => WU X (pcm w c9) t) (xF b0)) args s 0 0 (xF b0) := ⟨_, rfl⟩
  rw [← hQ]
  have hS : va_S (xF b0) s.heap s.heap [] := va_S.rf
  have hl := lv_entry ([.ref (xa X 309)]) (n := 1) (Nat.le_of_ble_eq_true rfl)
  refine W.eq ((congrArg (fun z => entryFrame m z 1) ha).trans (lg_entry_eq m _ 1)) ?_
  generalize (lg_sl ([.ref (xa X 309)]) ++ List.replicate (1 - (lg_sl ([.ref (xa X 309)])).length) Slot.unset).toArray = ls at hl ⊢
  have hl : lv_has ls 1 [(0, .ref (xa X 309))] := hl
  have hk_f41 := hts (.fieldLink RX0 41 "BakeTurns$Commands" "cursor" "I") (by decide +kernel)
  have hk_f23 := hts (.fieldLink RX0 23 "BakeTurns$Commands" "fault" "I") (by decide +kernel)
  unfold m0_rewind at hf
  refine lv_aload_n hx hb dX0_rewind_0 rfl (lv_at hl 0 rfl) ?_
  refine lv_iconst (v := 0) hx hb dX0_rewind_1 (by decide) ?_
  refine cm_put hx hb hts iX0_rewind_X0 hown hX hP hK hS 3 (by decide) hk_f41 rfl rfl (Nat.le_of_ble_eq_true rfl) (cm_es1 _) dX0_rewind_2 (fun c1 ec1 H locs hP hS => ?_)
  replace hf := ltn_s ec1 hf
  refine lv_aload_n hx hb dX0_rewind_5 rfl (lv_at hl 0 rfl) ?_
  refine lv_iconst (v := (-1)) hx hb dX0_rewind_6 (by decide) ?_
  refine cm_put hx hb hts iX0_rewind_X0 hown hX hP hK hS 5 (by decide) hk_f23 rfl rfl (Nat.le_of_ble_eq_true rfl) (cm_es3 _) dX0_rewind_7 (fun c2 ec2 H locs hP hS => ?_)
  replace hf := ltn_s ec2 hf
  obtain rfl := hf
  rw [hQ]
  exact w_vret hx hb hr hlocks hP hK hS dX0_rewind_10 rfl
abbrev rmX0_failAt : Room := { frames := 0, cells := 0, slots := 0, locals := 0 }
theorem iX0_failAt_X0 : ∀ w ∈ wsX00, w ∈ wsX0_failAt := by decide +kernel
set_option maxHeartbeats 4000000 in
set_option maxRecDepth 100000 in
theorem k0_failAt (l : Launch) {X : bkX} {b0 : Nat} (hX : XO X b0) (w : bkW) {c0 : bkA} {a1 : Int32} {res9 : Int32} {c9 : bkA} (hf : m0_failAt c0 a1 = (res9, c9)) : cI l yX0_failAt wsX0_failAt rmX0_failAt X b0 [.ref (xa X 309), .int a1] (pcm w c0) res9 (pcm w c9) := by
  refine Met.ofW (cc := cX0_failAt) (maxL := 2) (ret := (some .boolean)) (by decide) rfl ?_
  intro p e s m args below meth c s₁ B hml hv
  obtain ⟨ha, hP, hK⟩ := hv
  have hx := B.exec
  have hb := B.bytes
  have hr := B.returns
  have hts := atoms_spec (ws := wsX0_failAt) B.pre
  have hown : s.vm.findClass RX0 = some m.cls := findClass_of_methodNamed B.named
  have hlocks := B.notSynchronized
  obtain ⟨R, hR⟩ : ∃ R, R = (headSpec wsX0_failAt rmX0_failAt).room := ⟨_, rfl⟩
  rw [← hR]
  have hR1 : R.frames = 0 := by rw [hR]; rfl
  have hR2 : R.locals = 0 := by rw [hR]; rfl
  obtain ⟨Q, hQ⟩ : ∃ Q : State → Prop, Q = MQ below (va_Qi (fun r' (_ : Unit) => r' = res9) (fun _ t => WU X (pcm w c9) t) (xF b0)) args s 0 0 (xF b0) := ⟨_, rfl⟩
  rw [← hQ]
  have hS : va_S (xF b0) s.heap s.heap [] := va_S.rf
  have hl := lv_entry ([.ref (xa X 309), .int a1]) (n := 2) (Nat.le_of_ble_eq_true rfl)
  refine W.eq ((congrArg (fun z => entryFrame m z 2) ha).trans (lg_entry_eq m _ 2)) ?_
  generalize (lg_sl ([.ref (xa X 309), .int a1]) ++ List.replicate (2 - (lg_sl ([.ref (xa X 309), .int a1])).length) Slot.unset).toArray = ls at hl ⊢
  have hl : lv_has ls 2 [(0, .ref (xa X 309)), (1, .int a1)] := hl
  have hk_f23 := hts (.fieldLink RX0 23 "BakeTurns$Commands" "fault" "I") (by decide +kernel)
  unfold m0_failAt at hf
  refine lv_aload_n hx hb dX0_failAt_0 rfl (lv_at hl 0 rfl) ?_
  refine lv_iload_n hx hb dX0_failAt_1 rfl (lv_at hl 1 rfl) ?_
  refine cm_put hx hb hts iX0_failAt_X0 hown hX hP hK hS 5 (by decide) hk_f23 rfl rfl (Nat.le_of_ble_eq_true rfl) (cm_es3 _) dX0_failAt_2 (fun c1 ec1 H locs hP hS => ?_)
  replace hf := ltn_s ec1 hf
  refine lv_iconst (v := 0) hx hb dX0_failAt_5 (by decide) ?_
  simp only [Prod.mk.injEq] at hf
  obtain ⟨rfl, rfl⟩ := hf
  rw [hQ]
  exact w_zret hx hb hr hlocks hP hK hS dX0_failAt_6 (by decide) rfl rfl
abbrev rmX0_byteAtCursor : Room := { frames := 1, cells := 0, slots := 0, locals := 21 }
theorem iX0_byteAtCursor_X0 : ∀ w ∈ wsX00, w ∈ wsX0_byteAtCursor := by decide +kernel
set_option maxHeartbeats 4000000 in
set_option maxRecDepth 100000 in
theorem k0_byteAtCursor (l : Launch) {X : bkX} {b0 : Nat} (hX : XO X b0) (w : bkW) {c0 : bkA} {res9 : Int32} (hf : m0_byteAtCursor c0 = res9) : cI l yX0_byteAtCursor wsX0_byteAtCursor rmX0_byteAtCursor X b0 [.ref (xa X 309)] (pcm w c0) res9 (pcm w c0) := by
  refine Met.ofW (cc := cX0_byteAtCursor) (maxL := 1) (ret := (some .int)) (by decide) rfl ?_
  intro p e s m args below meth c s₁ B hml hv
  obtain ⟨ha, hP, hK⟩ := hv
  have hx := B.exec
  have hb := B.bytes
  have hr := B.returns
  have hts := atoms_spec (ws := wsX0_byteAtCursor) B.pre
  have hown : s.vm.findClass RX0 = some m.cls := findClass_of_methodNamed B.named
  have hlocks := B.notSynchronized
  obtain ⟨R, hR⟩ : ∃ R, R = (headSpec wsX0_byteAtCursor rmX0_byteAtCursor).room := ⟨_, rfl⟩
  rw [← hR]
  have hR1 : R.frames = 1 := by rw [hR]; rfl
  have hR2 : R.locals = 21 := by rw [hR]; rfl
  obtain ⟨Q, hQ⟩ : ∃ Q : State → Prop, Q = MQ below (va_Qi (fun r' (_ : Unit) => r' = res9) (fun _ t => WU X (pcm w c0) t) (xF b0)) args s 0 0 (xF b0) := ⟨_, rfl⟩
  rw [← hQ]
  have hS : va_S (xF b0) s.heap s.heap [] := va_S.rf
  have hl := lv_entry ([.ref (xa X 309)]) (n := 1) (Nat.le_of_ble_eq_true rfl)
  refine W.eq ((congrArg (fun z => entryFrame m z 1) ha).trans (lg_entry_eq m _ 1)) ?_
  generalize (lg_sl ([.ref (xa X 309)]) ++ List.replicate (1 - (lg_sl ([.ref (xa X 309)])).length) Slot.unset).toArray = ls at hl ⊢
  have hl : lv_has ls 1 [(0, .ref (xa X 309))] := hl
  have hk_f41 := hts (.fieldLink RX0 41 "BakeTurns$Commands" "cursor" "I") (by decide +kernel)
  have hk_f27 := hts (.fieldLink RX0 27 "BakeTurns$Commands" "length" "I") (by decide +kernel)
  have hk_f14 := hts (.fieldLink RX0 14 "BakeTurns$Commands" "text" "LBakeTurns$Row;") (by decide +kernel)
  have hc_37 := (cwV 1 hts gX0_byteAtCursor_X6_at rfl rfl rfl (by decide +kernel) ⟨by rw [hR1]; exact Nat.le_of_ble_eq_true rfl, by rw [hR2]; exact Nat.le_of_ble_eq_true rfl⟩ : CallW R s args RX0 RX6 37 yX6_at cX6_at 2 (some .int) wsX6_at rmX6_at 0 0 1)
  unfold m0_byteAtCursor at hf
  refine lv_aload_n hx hb dX0_byteAtCursor_0 rfl (lv_at hl 0 rfl) ?_
  refine w_get hx hb hts iX0_byteAtCursor_X0 hown hP hK (by decide) emb_cm rfl 3 (by decide) hk_f41 rfl dX0_byteAtCursor_1 ?_
  refine lv_aload_n hx hb dX0_byteAtCursor_4 rfl (lv_at hl 0 rfl) ?_
  refine w_get hx hb hts iX0_byteAtCursor_X0 hown hP hK (by decide) emb_cm rfl 2 (by decide) hk_f27 rfl dX0_byteAtCursor_5 ?_
  refine lv_icmp_ge (tgt := 25) hx hb dX0_byteAtCursor_8 (by decide) (fun h1 => ?_) (fun h1 => ?_)
  · rw [if_pos h1] at hf
    refine lv_iconst (v := (-1)) hx hb dX0_byteAtCursor_25 (by decide) ?_
    obtain rfl := hf
    rw [hQ]
    exact w_iret hx hb hr hlocks hP hK hS dX0_byteAtCursor_26 rfl rfl
  · rw [if_neg h1] at hf
    refine lv_aload_n hx hb dX0_byteAtCursor_11 rfl (lv_at hl 0 rfl) ?_
    refine w_get hx hb hts iX0_byteAtCursor_X0 hown hP hK (by decide) emb_cm rfl 0 (by decide) hk_f14 rfl dX0_byteAtCursor_12 ?_
    refine lv_aload_n hx hb dX0_byteAtCursor_15 rfl (lv_at hl 0 rfl) ?_
    refine w_get hx hb hts iX0_byteAtCursor_X0 hown hP hK (by decide) emb_cm rfl 3 (by decide) hk_f41 rfl dX0_byteAtCursor_16 ?_
    refine cm_at (j := 0) (n := 150) RW_tx ⟨hx, hb, hml, hown, hts⟩ hP hK hS (by decide) hc_37 hl.1 (Nat.le_of_ble_eq_true rfl) dX0_byteAtCursor_19 (fun H locs hP hS => ?_)
    refine lv_goto (tgt := 26) hx hb dX0_byteAtCursor_22 (by decide) ?_
    obtain rfl := hf
    rw [hQ]
    exact w_iret hx hb hr hlocks hP hK hS dX0_byteAtCursor_26 rfl rfl
abbrev rmX0_isLetter : Room := { frames := 0, cells := 0, slots := 0, locals := 0 }
set_option maxHeartbeats 4000000 in
set_option maxRecDepth 100000 in
theorem k0_isLetter (l : Launch) {X : bkX} {b0 : Nat} (hX : XO X b0) (w : bkW) {c0 : bkA} {a0 : Int32} {res9 : Int32} (hf : m0_isLetter a0 = res9) : cI l yX0_isLetter wsX0_isLetter rmX0_isLetter X b0 [.int a0] (pcm w c0) res9 (pcm w c0) := by
  refine Met.ofW (cc := cX0_isLetter) (maxL := 1) (ret := (some .boolean)) (by decide) rfl ?_
  intro p e s m args below meth c s₁ B hml hv
  obtain ⟨ha, hP, hK⟩ := hv
  have hx := B.exec
  have hb := B.bytes
  have hr := B.returns
  have hts := atoms_spec (ws := wsX0_isLetter) B.pre
  have hown : s.vm.findClass RX0 = some m.cls := findClass_of_methodNamed B.named
  have hlocks := B.notSynchronized
  obtain ⟨R, hR⟩ : ∃ R, R = (headSpec wsX0_isLetter rmX0_isLetter).room := ⟨_, rfl⟩
  rw [← hR]
  have hR1 : R.frames = 0 := by rw [hR]; rfl
  have hR2 : R.locals = 0 := by rw [hR]; rfl
  obtain ⟨Q, hQ⟩ : ∃ Q : State → Prop, Q = MQ below (va_Qi (fun r' (_ : Unit) => r' = res9) (fun _ t => WU X (pcm w c0) t) (xF b0)) args s 0 0 (xF b0) := ⟨_, rfl⟩
  rw [← hQ]
  have hS : va_S (xF b0) s.heap s.heap [] := va_S.rf
  have hl := lv_entry ([.int a0]) (n := 1) (Nat.le_of_ble_eq_true rfl)
  refine W.eq ((congrArg (fun z => entryFrame m z 1) ha).trans (lg_entry_eq m _ 1)) ?_
  generalize (lg_sl ([.int a0]) ++ List.replicate (1 - (lg_sl ([.int a0])).length) Slot.unset).toArray = ls at hl ⊢
  have hl : lv_has ls 1 [(0, .int a0)] := hl
  unfold m0_isLetter at hf
  refine lv_iload_n hx hb dX0_isLetter_0 rfl (lv_at hl 0 rfl) ?_
  refine lv_bipush (v := 97) hx hb dX0_isLetter_1 (by decide) ?_
  refine lv_icmp_lt (tgt := 16) hx hb dX0_isLetter_3 (by decide) (fun h1 => ?_) (fun h1 => ?_)
  · rw [if_pos h1] at hf
    refine lv_iconst (v := 0) hx hb dX0_isLetter_16 (by decide) ?_
    obtain rfl := hf
    rw [hQ]
    exact w_zret hx hb hr hlocks hP hK hS dX0_isLetter_17 (by decide) rfl rfl
  · rw [if_neg h1] at hf
    refine lv_iload_n hx hb dX0_isLetter_6 rfl (lv_at hl 0 rfl) ?_
    refine lv_bipush (v := 122) hx hb dX0_isLetter_7 (by decide) ?_
    refine lv_icmp_gt (tgt := 16) hx hb dX0_isLetter_9 (by decide) (fun h2 => ?_) (fun h2 => ?_)
    · rw [if_pos h2] at hf
      refine lv_iconst (v := 0) hx hb dX0_isLetter_16 (by decide) ?_
      obtain rfl := hf
      rw [hQ]
      exact w_zret hx hb hr hlocks hP hK hS dX0_isLetter_17 (by decide) rfl rfl
    · rw [if_neg h2] at hf
      refine lv_iconst (v := 1) hx hb dX0_isLetter_12 (by decide) ?_
      refine lv_goto (tgt := 17) hx hb dX0_isLetter_13 (by decide) ?_
      obtain rfl := hf
      rw [hQ]
      exact w_zret hx hb hr hlocks hP hK hS dX0_isLetter_17 (by decide) rfl rfl
abbrev rmX0_isDigit : Room := { frames := 0, cells := 0, slots := 0, locals := 0 }
set_option maxHeartbeats 4000000 in
set_option maxRecDepth 100000 in
theorem k0_isDigit (l : Launch) {X : bkX} {b0 : Nat} (hX : XO X b0) (w : bkW) {c0 : bkA} {a0 : Int32} {res9 : Int32} (hf : m0_isDigit a0 = res9) : cI l yX0_isDigit wsX0_isDigit rmX0_isDigit X b0 [.int a0] (pcm w c0) res9 (pcm w c0) := by
  refine Met.ofW (cc := cX0_isDigit) (maxL := 1) (ret := (some .boolean)) (by decide) rfl ?_
  intro p e s m args below meth c s₁ B hml hv
  obtain ⟨ha, hP, hK⟩ := hv
  have hx := B.exec
  have hb := B.bytes
  have hr := B.returns
  have hts := atoms_spec (ws := wsX0_isDigit) B.pre
  have hown : s.vm.findClass RX0 = some m.cls := findClass_of_methodNamed B.named
  have hlocks := B.notSynchronized
  obtain ⟨R, hR⟩ : ∃ R, R = (headSpec wsX0_isDigit rmX0_isDigit).room := ⟨_, rfl⟩
  rw [← hR]
  have hR1 : R.frames = 0 := by rw [hR]; rfl
  have hR2 : R.locals = 0 := by rw [hR]; rfl
  obtain ⟨Q, hQ⟩ : ∃ Q : State → Prop, Q = MQ below (va_Qi (fun r' (_ : Unit) => r' = res9) (fun _ t => WU X (pcm w c0) t) (xF b0)) args s 0 0 (xF b0) := ⟨_, rfl⟩
  rw [← hQ]
  have hS : va_S (xF b0) s.heap s.heap [] := va_S.rf
  have hl := lv_entry ([.int a0]) (n := 1) (Nat.le_of_ble_eq_true rfl)
  refine W.eq ((congrArg (fun z => entryFrame m z 1) ha).trans (lg_entry_eq m _ 1)) ?_
  generalize (lg_sl ([.int a0]) ++ List.replicate (1 - (lg_sl ([.int a0])).length) Slot.unset).toArray = ls at hl ⊢
  have hl : lv_has ls 1 [(0, .int a0)] := hl
  unfold m0_isDigit at hf
  refine lv_iload_n hx hb dX0_isDigit_0 rfl (lv_at hl 0 rfl) ?_
  refine lv_bipush (v := 48) hx hb dX0_isDigit_1 (by decide) ?_
  refine lv_icmp_lt (tgt := 16) hx hb dX0_isDigit_3 (by decide) (fun h1 => ?_) (fun h1 => ?_)
  · rw [if_pos h1] at hf
    refine lv_iconst (v := 0) hx hb dX0_isDigit_16 (by decide) ?_
    obtain rfl := hf
    rw [hQ]
    exact w_zret hx hb hr hlocks hP hK hS dX0_isDigit_17 (by decide) rfl rfl
  · rw [if_neg h1] at hf
    refine lv_iload_n hx hb dX0_isDigit_6 rfl (lv_at hl 0 rfl) ?_
    refine lv_bipush (v := 57) hx hb dX0_isDigit_7 (by decide) ?_
    refine lv_icmp_gt (tgt := 16) hx hb dX0_isDigit_9 (by decide) (fun h2 => ?_) (fun h2 => ?_)
    · rw [if_pos h2] at hf
      refine lv_iconst (v := 0) hx hb dX0_isDigit_16 (by decide) ?_
      obtain rfl := hf
      rw [hQ]
      exact w_zret hx hb hr hlocks hP hK hS dX0_isDigit_17 (by decide) rfl rfl
    · rw [if_neg h2] at hf
      refine lv_iconst (v := 1) hx hb dX0_isDigit_12 (by decide) ?_
      refine lv_goto (tgt := 17) hx hb dX0_isDigit_13 (by decide) ?_
      obtain rfl := hf
      rw [hQ]
      exact w_zret hx hb hr hlocks hP hK hS dX0_isDigit_17 (by decide) rfl rfl
abbrev rmX0_numbersOf : Room := { frames := 0, cells := 0, slots := 0, locals := 0 }
set_option maxHeartbeats 4000000 in
set_option maxRecDepth 100000 in
theorem k0_numbersOf (l : Launch) {X : bkX} {b0 : Nat} (hX : XO X b0) (w : bkW) {c0 : bkA} {a0 : Int32} {res9 : Int32} (hf : m0_numbersOf a0 = res9) : cI l yX0_numbersOf wsX0_numbersOf rmX0_numbersOf X b0 [.int a0] (pcm w c0) res9 (pcm w c0) := by
  refine Met.ofW (cc := cX0_numbersOf) (maxL := 1) (ret := (some .int)) (by decide) rfl ?_
  intro p e s m args below meth c s₁ B hml hv
  obtain ⟨ha, hP, hK⟩ := hv
  have hx := B.exec
  have hb := B.bytes
  have hr := B.returns
  have hts := atoms_spec (ws := wsX0_numbersOf) B.pre
  have hown : s.vm.findClass RX0 = some m.cls := findClass_of_methodNamed B.named
  have hlocks := B.notSynchronized
  obtain ⟨R, hR⟩ : ∃ R, R = (headSpec wsX0_numbersOf rmX0_numbersOf).room := ⟨_, rfl⟩
  rw [← hR]
  have hR1 : R.frames = 0 := by rw [hR]; rfl
  have hR2 : R.locals = 0 := by rw [hR]; rfl
  obtain ⟨Q, hQ⟩ : ∃ Q : State → Prop, Q = MQ below (va_Qi (fun r' (_ : Unit) => r' = res9) (fun _ t => WU X (pcm w c0) t) (xF b0)) args s 0 0 (xF b0) := ⟨_, rfl⟩
  rw [← hQ]
  have hS : va_S (xF b0) s.heap s.heap [] := va_S.rf
  have hl := lv_entry ([.int a0]) (n := 1) (Nat.le_of_ble_eq_true rfl)
  refine W.eq ((congrArg (fun z => entryFrame m z 1) ha).trans (lg_entry_eq m _ 1)) ?_
  generalize (lg_sl ([.int a0]) ++ List.replicate (1 - (lg_sl ([.int a0])).length) Slot.unset).toArray = ls at hl ⊢
  have hl : lv_has ls 1 [(0, .int a0)] := hl
  unfold m0_numbersOf at hf
  refine lv_iload_n hx hb dX0_numbersOf_0 rfl (lv_at hl 0 rfl) ?_
  by_cases hsw1 : a0 = 0
  · rw [if_pos hsw1] at hf
    refine lv_tableIn (off := 43) (tgt := 44) hx hb dX0_numbersOf_1 (by rw [hsw1]; decide) (by rw [hsw1]; decide) (by rw [hsw1]; rfl) (by decide) ?_
    refine lv_iconst (v := 5) hx hb dX0_numbersOf_44 (by decide) ?_
    obtain rfl := hf
    rw [hQ]
    exact w_iret hx hb hr hlocks hP hK hS dX0_numbersOf_45 rfl rfl
  rw [if_neg hsw1] at hf
  by_cases hsw2 : a0 = 1
  · rw [if_pos hsw2] at hf
    refine lv_tableIn (off := 51) (tgt := 52) hx hb dX0_numbersOf_1 (by rw [hsw2]; decide) (by rw [hsw2]; decide) (by rw [hsw2]; rfl) (by decide) ?_
    refine lv_iconst (v := 0) hx hb dX0_numbersOf_52 (by decide) ?_
    obtain rfl := hf
    rw [hQ]
    exact w_iret hx hb hr hlocks hP hK hS dX0_numbersOf_53 rfl rfl
  rw [if_neg hsw2] at hf
  by_cases hsw3 : a0 = 2
  · rw [if_pos hsw3] at hf
    refine lv_tableIn (off := 45) (tgt := 46) hx hb dX0_numbersOf_1 (by rw [hsw3]; decide) (by rw [hsw3]; decide) (by rw [hsw3]; rfl) (by decide) ?_
    refine lv_iconst (v := 3) hx hb dX0_numbersOf_46 (by decide) ?_
    obtain rfl := hf
    rw [hQ]
    exact w_iret hx hb hr hlocks hP hK hS dX0_numbersOf_47 rfl rfl
  rw [if_neg hsw3] at hf
  by_cases hsw4 : a0 = 3
  · rw [if_pos hsw4] at hf
    refine lv_tableIn (off := 47) (tgt := 48) hx hb dX0_numbersOf_1 (by rw [hsw4]; decide) (by rw [hsw4]; decide) (by rw [hsw4]; rfl) (by decide) ?_
    refine lv_iconst (v := 2) hx hb dX0_numbersOf_48 (by decide) ?_
    obtain rfl := hf
    rw [hQ]
    exact w_iret hx hb hr hlocks hP hK hS dX0_numbersOf_49 rfl rfl
  rw [if_neg hsw4] at hf
  by_cases hsw5 : a0 = 4
  · rw [if_pos hsw5] at hf
    refine lv_tableIn (off := 47) (tgt := 48) hx hb dX0_numbersOf_1 (by rw [hsw5]; decide) (by rw [hsw5]; decide) (by rw [hsw5]; rfl) (by decide) ?_
    refine lv_iconst (v := 2) hx hb dX0_numbersOf_48 (by decide) ?_
    obtain rfl := hf
    rw [hQ]
    exact w_iret hx hb hr hlocks hP hK hS dX0_numbersOf_49 rfl rfl
  rw [if_neg hsw5] at hf
  by_cases hsw6 : a0 = 5
  · rw [if_pos hsw6] at hf
    refine lv_tableIn (off := 49) (tgt := 50) hx hb dX0_numbersOf_1 (by rw [hsw6]; decide) (by rw [hsw6]; decide) (by rw [hsw6]; rfl) (by decide) ?_
    refine lv_iconst (v := 1) hx hb dX0_numbersOf_50 (by decide) ?_
    obtain rfl := hf
    rw [hQ]
    exact w_iret hx hb hr hlocks hP hK hS dX0_numbersOf_51 rfl rfl
  rw [if_neg hsw6] at hf
  by_cases hsw7 : a0 = 6
  · rw [if_pos hsw7] at hf
    refine lv_tableIn (off := 47) (tgt := 48) hx hb dX0_numbersOf_1 (by rw [hsw7]; decide) (by rw [hsw7]; decide) (by rw [hsw7]; rfl) (by decide) ?_
    refine lv_iconst (v := 2) hx hb dX0_numbersOf_48 (by decide) ?_
    obtain rfl := hf
    rw [hQ]
    exact w_iret hx hb hr hlocks hP hK hS dX0_numbersOf_49 rfl rfl
  rw [if_neg hsw7] at hf
  have hdf : (a0).toInt < 0 ∨ 6 < (a0).toInt := by
    have ghsw1 := ne_i (z := 0) hsw1 (by decide)
    have ghsw2 := ne_i (z := 1) hsw2 (by decide)
    have ghsw3 := ne_i (z := 2) hsw3 (by decide)
    have ghsw4 := ne_i (z := 3) hsw4 (by decide)
    have ghsw5 := ne_i (z := 4) hsw5 (by decide)
    have ghsw6 := ne_i (z := 5) hsw6 (by decide)
    have ghsw7 := ne_i (z := 6) hsw7 (by decide)
    omega
  refine lv_tableOut (tgt := 52) hx hb dX0_numbersOf_1 hdf (by decide) ?_
  refine lv_iconst (v := 0) hx hb dX0_numbersOf_52 (by decide) ?_
  obtain rfl := hf
  rw [hQ]
  exact w_iret hx hb hr hlocks hP hK hS dX0_numbersOf_53 rfl rfl
abbrev rmX0_skipSpaces : Room := { frames := 2, cells := 0, slots := 0, locals := 41 }
theorem iX0_skipSpaces_X0 : ∀ w ∈ wsX00, w ∈ wsX0_skipSpaces := by decide +kernel
set_option maxHeartbeats 4000000 in
set_option maxRecDepth 100000 in
theorem k0_skipSpaces (l : Launch) {X : bkX} {b0 : Nat} (hX : XO X b0) (w : bkW) {N : Nat} {c0 : bkA} {c9 : bkA} (hf : m0_skipSpaces N c0 = some c9) : cV l yX0_skipSpaces wsX0_skipSpaces rmX0_skipSpaces X b0 [.ref (xa X 309)] (pcm w c0) (pcm w c9) := by
  refine Met.ofW (cc := cX0_skipSpaces) (maxL := 1) (ret := none) (by decide) rfl ?_
  intro p e s m args below meth c s₁ B hml hv
  obtain ⟨ha, hP, hK⟩ := hv
  have hx := B.exec
  have hb := B.bytes
  have hr := B.returns
  have hts := atoms_spec (ws := wsX0_skipSpaces) B.pre
  have hown : s.vm.findClass RX0 = some m.cls := findClass_of_methodNamed B.named
  have hlocks := B.notSynchronized
  obtain ⟨R, hR⟩ : ∃ R, R = (headSpec wsX0_skipSpaces rmX0_skipSpaces).room := ⟨_, rfl⟩
  rw [← hR]
  have hR1 : R.frames = 2 := by rw [hR]; rfl
  have hR2 : R.locals = 41 := by rw [hR]; rfl
  obtain ⟨Q, hQ⟩ : ∃ Q : State → Prop, Q = MQ below (va_Qv (fun (_ : Unit) => True) (fun _ t => WU X (pcm w c9) t) (xF b0)) args s 0 0 (xF b0) := ⟨_, rfl⟩
  rw [← hQ]
  have hS : va_S (xF b0) s.heap s.heap [] := va_S.rf
  have hl := lv_entry ([.ref (xa X 309)]) (n := 1) (Nat.le_of_ble_eq_true rfl)
  refine W.eq ((congrArg (fun z => entryFrame m z 1) ha).trans (lg_entry_eq m _ 1)) ?_
  generalize (lg_sl ([.ref (xa X 309)]) ++ List.replicate (1 - (lg_sl ([.ref (xa X 309)])).length) Slot.unset).toArray = ls at hl ⊢
  have hl : lv_has ls 1 [(0, .ref (xa X 309))] := hl
  have hk_f41 := hts (.fieldLink RX0 41 "BakeTurns$Commands" "cursor" "I") (by decide +kernel)
  have hk_f27 := hts (.fieldLink RX0 27 "BakeTurns$Commands" "length" "I") (by decide +kernel)
  have hc_64 := (cwV 0 hts gX0_skipSpaces_X0_byteAtCursor rfl rfl rfl (by decide +kernel) ⟨by rw [hR1]; exact Nat.le_of_ble_eq_true rfl, by rw [hR2]; exact Nat.le_of_ble_eq_true rfl⟩ : CallW R s args RX0 RX0 64 yX0_byteAtCursor cX0_byteAtCursor 1 (some .int) wsX0_byteAtCursor rmX0_byteAtCursor 0 0 0)
  unfold m0_skipSpaces at hf
  have L0 : ∀ (n : Nat)  (c2 : bkA) (oc3 : bkA) (H : Heap) (locs : List Loc) (ls : Array Slot), m0_skipSpaces_L0 N n c2 = some oc3 → HW X (pcm w c2) H → va_S (xF b0) s.heap H locs → lv_has ls 1 [(0, .ref (xa X 309))] → (∀ (H1 : Heap) (locs1 : List Loc) (ls1 : Array Slot), HW X (pcm w oc3) H1 → va_S (xF b0) s.heap H1 locs1 → lv_has ls1 1 [] → W p l e R s m args below meth c H1 locs1 0 0 Q (F0 m 33 ls1 [])) → W p l e R s m args below meth c H locs 0 0 Q (F0 m 0 ls []) := by
    intro n; induction n with
    | zero => intro c2 oc3 H locs ls hf; rw [m0_skipSpaces_L0] at hf; cases hf
    | succ n ih =>
      intro c2 oc3 H locs ls hf hP hS hl K
      rw [m0_skipSpaces_L0] at hf
      refine lv_aload_n hx hb dX0_skipSpaces_0 rfl (lv_at hl 0 rfl) ?_
      refine w_get hx hb hts iX0_skipSpaces_X0 hown hP hK (by decide) emb_cm rfl 3 (by decide) hk_f41 rfl dX0_skipSpaces_1 ?_
      refine lv_aload_n hx hb dX0_skipSpaces_4 rfl (lv_at hl 0 rfl) ?_
      refine w_get hx hb hts iX0_skipSpaces_X0 hown hP hK (by decide) emb_cm rfl 2 (by decide) hk_f27 rfl dX0_skipSpaces_5 ?_
      refine lv_icmp_ge (tgt := 33) hx hb dX0_skipSpaces_8 (by decide) (fun h4 => ?_) (fun h4 => ?_)
      · rw [if_pos h4] at hf
        have hf := Option.some.inj hf
        obtain rfl := hf
        exact K _ _ _ hP hS (lv_sub hl [] rfl)
      · rw [if_neg h4] at hf
        refine lv_aload_n hx hb dX0_skipSpaces_11 rfl (lv_at hl 0 rfl) ?_
        obtain ⟨x5, hc6, hf⟩ := lt1_e hf
        refine w_ci ⟨hx, hb, hml, hown, hts⟩ hP hK hS (k0_byteAtCursor l hX w hc6) hc_64 (w_recv hP hK (by decide) emb_cm rfl) rfl hl.1 rfl (Nat.le_of_ble_eq_true rfl) dX0_skipSpaces_12 ⟨Nat.zero_le _, Nat.zero_le _⟩ (fun H locs hP hS => ?_)
        refine lv_bipush (v := 32) hx hb dX0_skipSpaces_15 (by decide) ?_
        refine lv_icmp_ne (tgt := 33) hx hb dX0_skipSpaces_17 (by decide) (fun h7 => ?_) (fun h7 => ?_)
        · rw [if_neg h7] at hf
          have hf := Option.some.inj hf
          obtain rfl := hf
          exact K _ _ _ hP hS (lv_sub hl [] rfl)
        · rw [if_pos h7] at hf
          refine lv_aload_n hx hb dX0_skipSpaces_20 rfl (lv_at hl 0 rfl) ?_
          refine lv_dup hx hb dX0_skipSpaces_21 rfl ?_
          refine w_get hx hb hts iX0_skipSpaces_X0 hown hP hK (by decide) emb_cm rfl 3 (by decide) hk_f41 rfl dX0_skipSpaces_22 ?_
          refine lv_iconst (v := 1) hx hb dX0_skipSpaces_25 (by decide) ?_
          refine lv_iadd hx hb dX0_skipSpaces_26 ?_
          refine cm_put hx hb hts iX0_skipSpaces_X0 hown hX hP hK hS 3 (by decide) hk_f41 rfl rfl (Nat.le_of_ble_eq_true rfl) (cm_es1 _) dX0_skipSpaces_27 (fun c8 ec8 H locs hP hS => ?_)
          replace hf := ltn_s ec8 hf
          refine lv_goto (tgt := 0) hx hb dX0_skipSpaces_30 (by decide) ?_
          exact ih c8 oc3 _ _ _ hf hP hS (lv_sub hl [0] rfl) K
  obtain ⟨c9, hc10, hf⟩ := ob1_e hf
  refine L0 N c0 c9 _ _ _ hc10 hP hS (lv_sub hl [0] rfl) (fun H locs ls hP hS hl => ?_)
  have hf := Option.some.inj hf
  obtain rfl := hf
  rw [hQ]
  exact w_vret hx hb hr hlocks hP hK hS dX0_skipSpaces_33 rfl
abbrev rmX0_readNumber : Room := { frames := 3, cells := 0, slots := 0, locals := 61 }
theorem iX0_readNumber_X0 : ∀ w ∈ wsX00, w ∈ wsX0_readNumber := by decide +kernel
set_option maxHeartbeats 4000000 in
set_option maxRecDepth 100000 in
theorem k0_readNumber (l : Launch) {X : bkX} {b0 : Nat} (hX : XO X b0) (w : bkW) {N : Nat} {c0 : bkA} {a1 : Int32} {res9 : Int32} {c9 : bkA} (hf : m0_readNumber N c0 a1 = some (res9, c9)) : cI l yX0_readNumber wsX0_readNumber rmX0_readNumber X b0 [.ref (xa X 309), .int a1] (pcm w c0) res9 (pcm w c9) := by
  refine Met.ofW (cc := cX0_readNumber) (maxL := 4) (ret := (some .boolean)) (by decide) rfl ?_
  intro p e s m args below meth c s₁ B hml hv
  obtain ⟨ha, hP, hK⟩ := hv
  have hx := B.exec
  have hb := B.bytes
  have hr := B.returns
  have hts := atoms_spec (ws := wsX0_readNumber) B.pre
  have hown : s.vm.findClass RX0 = some m.cls := findClass_of_methodNamed B.named
  have hlocks := B.notSynchronized
  obtain ⟨R, hR⟩ : ∃ R, R = (headSpec wsX0_readNumber rmX0_readNumber).room := ⟨_, rfl⟩
  rw [← hR]
  have hR1 : R.frames = 3 := by rw [hR]; rfl
  have hR2 : R.locals = 61 := by rw [hR]; rfl
  obtain ⟨Q, hQ⟩ : ∃ Q : State → Prop, Q = MQ below (va_Qi (fun r' (_ : Unit) => r' = res9) (fun _ t => WU X (pcm w c9) t) (xF b0)) args s 0 0 (xF b0) := ⟨_, rfl⟩
  rw [← hQ]
  have hS : va_S (xF b0) s.heap s.heap [] := va_S.rf
  have hl := lv_entry ([.ref (xa X 309), .int a1]) (n := 4) (Nat.le_of_ble_eq_true rfl)
  refine W.eq ((congrArg (fun z => entryFrame m z 4) ha).trans (lg_entry_eq m _ 4)) ?_
  generalize (lg_sl ([.ref (xa X 309), .int a1]) ++ List.replicate (4 - (lg_sl ([.ref (xa X 309), .int a1])).length) Slot.unset).toArray = ls at hl ⊢
  have hl : lv_has ls 4 [(0, .ref (xa X 309)), (1, .int a1)] := hl
  have hc_64 := (cwV 0 hts gX0_readNumber_X0_byteAtCursor rfl rfl rfl (by decide +kernel) ⟨by rw [hR1]; exact Nat.le_of_ble_eq_true rfl, by rw [hR2]; exact Nat.le_of_ble_eq_true rfl⟩ : CallW R s args RX0 RX0 64 yX0_byteAtCursor cX0_byteAtCursor 1 (some .int) wsX0_byteAtCursor rmX0_byteAtCursor 0 0 0)
  have hc_51 := (cwV 0 hts gX0_readNumber_X0_skipSpaces rfl rfl rfl (by decide +kernel) ⟨by rw [hR1]; exact Nat.le_of_ble_eq_true rfl, by rw [hR2]; exact Nat.le_of_ble_eq_true rfl⟩ : CallW R s args RX0 RX0 51 yX0_skipSpaces cX0_skipSpaces 1 none wsX0_skipSpaces rmX0_skipSpaces 0 0 0)
  have hc_78 := (cwS 1 hts gX0_readNumber_X0_isDigit rfl rfl rfl (by decide +kernel) ⟨by rw [hR1]; exact Nat.le_of_ble_eq_true rfl, by rw [hR2]; exact Nat.le_of_ble_eq_true rfl⟩ : CallB R s args RX0 78 yX0_isDigit cX0_isDigit 1 (some .boolean) wsX0_isDigit rmX0_isDigit 0 0 1 ∧ (Cond.static yX0_isDigit).before args s = true)
  have hk_f41 := hts (.fieldLink RX0 41 "BakeTurns$Commands" "cursor" "I") (by decide +kernel)
  have hk_f20 := hts (.fieldLink RX0 20 "BakeTurns$Commands" "numbers" "LBakeTurns$Row;") (by decide +kernel)
  have hc_30 := (cwV 2 hts gX0_readNumber_X6_put rfl rfl rfl (by decide +kernel) ⟨by rw [hR1]; exact Nat.le_of_ble_eq_true rfl, by rw [hR2]; exact Nat.le_of_ble_eq_true rfl⟩ : CallW R s args RX0 RX6 30 yX6_put cX6_put 3 none wsX6_put rmX6_put 0 0 2)
  have hc_68 := (cwV 1 hts gX0_readNumber_X0_failAt rfl rfl rfl (by decide +kernel) ⟨by rw [hR1]; exact Nat.le_of_ble_eq_true rfl, by rw [hR2]; exact Nat.le_of_ble_eq_true rfl⟩ : CallW R s args RX0 RX0 68 yX0_failAt cX0_failAt 2 (some .boolean) wsX0_failAt rmX0_failAt 0 0 1)
  unfold m0_readNumber at hf
  refine lv_aload_n hx hb dX0_readNumber_0 rfl (lv_at hl 0 rfl) ?_
  obtain ⟨x1, hc2, hf⟩ := lt1_e hf
  refine w_ci ⟨hx, hb, hml, hown, hts⟩ hP hK hS (k0_byteAtCursor l hX w hc2) hc_64 (w_recv hP hK (by decide) emb_cm rfl) rfl hl.1 rfl (Nat.le_of_ble_eq_true rfl) dX0_readNumber_1 ⟨Nat.zero_le _, Nat.zero_le _⟩ (fun H locs hP hS => ?_)
  refine lv_bipush (v := 32) hx hb dX0_readNumber_4 (by decide) ?_
  refine lv_icmp_eq (tgt := 18) hx hb dX0_readNumber_6 (by decide) (fun h3 => ?_) (fun h3 => ?_)
  · rw [if_pos h3] at hf
    refine lv_aload_n hx hb dX0_readNumber_18 rfl (lv_at hl 0 rfl) ?_
    obtain ⟨c4, hc5, hf⟩ := ob1_e hf
    refine w_cv ⟨hx, hb, hml, hown, hts⟩ hP hK hS (k0_skipSpaces l hX w hc5) hc_51 (w_recv hP hK (by decide) emb_cm rfl) rfl hl.1 rfl (Nat.le_of_ble_eq_true rfl) dX0_readNumber_19 ⟨Nat.zero_le _, Nat.zero_le _⟩ (fun H locs hP hS => ?_)
    refine lv_iconst (v := 0) hx hb dX0_readNumber_22 (by decide) ?_
    refine lv_istore_n (lv' := [(2, .int 0), (0, .ref (xa X 309)), (1, .int a1)]) hx hb dX0_readNumber_23 rfl hl (by decide) rfl (fun ls hl => ?_)
    refine lv_iconst (v := 0) hx hb dX0_readNumber_24 (by decide) ?_
    refine lv_istore_n (lv' := [(3, .int 0), (2, .int 0), (0, .ref (xa X 309)), (1, .int a1)]) hx hb dX0_readNumber_25 rfl hl (by decide) rfl (fun ls hl => ?_)
    have L26 : ∀ (n : Nat) (x7 : Int32) (x8 : Int32) (x9 : Int32) (c10 : bkA) (o11 : Int32) (o12 : Int32) (oc13 : bkA) (H : Heap) (locs : List Loc) (ls : Array Slot), m0_readNumber_L26 N n x7 x8 x9 c10 = some (o11, o12, oc13) → HW X (pcm w c10) H → va_S (xF b0) s.heap H locs → lv_has ls 4 [(0, .ref (xa X 309)), (1, .int x7), (2, .int x8), (3, .int x9)] → (∀ (H1 : Heap) (locs1 : List Loc) (ls1 : Array Slot), HW X (pcm w oc13) H1 → va_S (xF b0) s.heap H1 locs1 → lv_has ls1 4 [(0, .ref (xa X 309)), (1, .int x7), (2, .int o11), (3, .int o12)] → W p l e R s m args below meth c H1 locs1 0 0 Q (F0 m 70 ls1 [])) → W p l e R s m args below meth c H locs 0 0 Q (F0 m 26 ls []) := by
      intro n; induction n with
      | zero => intro x7 x8 x9 c10 o11 o12 oc13 H locs ls hf; rw [m0_readNumber_L26] at hf; cases hf
      | succ n ih =>
        intro x7 x8 x9 c10 o11 o12 oc13 H locs ls hf hP hS hl K
        rw [m0_readNumber_L26] at hf
        refine lv_iload_n hx hb dX0_readNumber_26 rfl (lv_at hl 2 rfl) ?_
        refine lv_iconst (v := 3) hx hb dX0_readNumber_27 (by decide) ?_
        refine lv_icmp_ge (tgt := 70) hx hb dX0_readNumber_28 (by decide) (fun h14 => ?_) (fun h14 => ?_)
        · rw [if_pos h14] at hf
          have hf := Option.some.inj hf
          simp only [Prod.mk.injEq] at hf
          obtain ⟨rfl, rfl, rfl⟩ := hf
          exact K _ _ _ hP hS (lv_sub hl [0, 1, 2, 3] rfl)
        · rw [if_neg h14] at hf
          refine lv_aload_n hx hb dX0_readNumber_31 rfl (lv_at hl 0 rfl) ?_
          obtain ⟨x15, hc16, hf⟩ := lt1_e hf
          refine w_ci ⟨hx, hb, hml, hown, hts⟩ hP hK hS (k0_byteAtCursor l hX w hc16) hc_64 (w_recv hP hK (by decide) emb_cm rfl) rfl hl.1 rfl (Nat.le_of_ble_eq_true rfl) dX0_readNumber_32 ⟨Nat.zero_le _, Nat.zero_le _⟩ (fun H locs hP hS => ?_)
          obtain ⟨x17, hc18, hf⟩ := lt1_e hf
          refine w_csi ⟨hx, hb, hml, hown, hts⟩ hP hK hS (k0_isDigit l hX w hc18) hc_78 rfl hl.1 rfl (Nat.le_of_ble_eq_true rfl) dX0_readNumber_35 ⟨Nat.zero_le _, Nat.zero_le _⟩ (fun H locs hP hS => ?_)
          refine lv_if_eq (tgt := 70) hx hb dX0_readNumber_38 (by decide) (fun h19 => ?_) (fun h19 => ?_)
          · rw [if_pos h19] at hf
            have hf := Option.some.inj hf
            simp only [Prod.mk.injEq] at hf
            obtain ⟨rfl, rfl, rfl⟩ := hf
            exact K _ _ _ hP hS (lv_sub hl [0, 1, 2, 3] rfl)
          · rw [if_neg h19] at hf
            refine lv_bipush (v := 10) hx hb dX0_readNumber_41 (by decide) ?_
            refine lv_iload_n hx hb dX0_readNumber_43 rfl (lv_at hl 3 rfl) ?_
            refine lv_imul hx hb dX0_readNumber_44 ?_
            refine lv_aload_n hx hb dX0_readNumber_45 rfl (lv_at hl 0 rfl) ?_
            obtain ⟨x20, hc21, hf⟩ := lt1_e hf
            refine w_ci ⟨hx, hb, hml, hown, hts⟩ hP hK hS (k0_byteAtCursor l hX w hc21) hc_64 (w_recv hP hK (by decide) emb_cm rfl) rfl hl.1 rfl (Nat.le_of_ble_eq_true rfl) dX0_readNumber_46 ⟨Nat.zero_le _, Nat.zero_le _⟩ (fun H locs hP hS => ?_)
            refine lv_bipush (v := 48) hx hb dX0_readNumber_49 (by decide) ?_
            refine lv_isub hx hb dX0_readNumber_51 ?_
            refine lv_iadd hx hb dX0_readNumber_52 ?_
            refine lv_topi (fun x22 ex22 => ?_)
            replace hf := ltn_s ex22 hf
            refine lv_istore_n (lv' := [(3, .int x22), (0, .ref (xa X 309)), (1, .int x7), (2, .int x8)]) hx hb dX0_readNumber_53 rfl hl (by decide) rfl (fun ls hl => ?_)
            obtain ⟨x23, ex23⟩ : ∃ y : Int32, y = x8 + 1 := ⟨_, rfl⟩
            replace hf := ltn_s ex23 hf
            refine lv_iinc (v := x23) (lv' := [(2, .int x23), (3, .int x22), (0, .ref (xa X 309)), (1, .int x7)]) hx hb dX0_readNumber_54 hl (k := 3) rfl (by rw [ex23]; rfl) (by decide) rfl (fun ls hl => ?_)
            refine lv_aload_n hx hb dX0_readNumber_57 rfl (lv_at hl 2 rfl) ?_
            refine lv_dup hx hb dX0_readNumber_58 rfl ?_
            refine w_get hx hb hts iX0_readNumber_X0 hown hP hK (by decide) emb_cm rfl 3 (by decide) hk_f41 rfl dX0_readNumber_59 ?_
            refine lv_iconst (v := 1) hx hb dX0_readNumber_62 (by decide) ?_
            refine lv_iadd hx hb dX0_readNumber_63 ?_
            refine cm_put hx hb hts iX0_readNumber_X0 hown hX hP hK hS 3 (by decide) hk_f41 rfl rfl (Nat.le_of_ble_eq_true rfl) (cm_es1 _) dX0_readNumber_64 (fun c24 ec24 H locs hP hS => ?_)
            replace hf := ltn_s ec24 hf
            refine lv_goto (tgt := 26) hx hb dX0_readNumber_67 (by decide) ?_
            exact ih x7 x23 x22 c24 o11 o12 oc13 _ _ _ hf hP hS (lv_sub hl [2, 3, 0, 1] rfl) K
    obtain ⟨x25, x26, c27, hc28, hf⟩ := ob3_e hf
    refine L26 N a1 0 0 c4 x25 x26 c27 _ _ _ hc28 hP hS (lv_sub hl [2, 3, 1, 0] rfl) (fun H locs ls hP hS hl => ?_)
    refine lv_aload_n hx hb dX0_readNumber_70 rfl (lv_at hl 0 rfl) ?_
    refine w_get hx hb hts iX0_readNumber_X0 hown hP hK (by decide) emb_cm rfl 1 (by decide) hk_f20 rfl dX0_readNumber_71 ?_
    refine lv_iload_n hx hb dX0_readNumber_74 rfl (lv_at hl 1 rfl) ?_
    refine lv_iload_n hx hb dX0_readNumber_75 rfl (lv_at hl 3 rfl) ?_
    refine cm_putr (j := 1) (n := 5) hX RW_nu ⟨hx, hb, hml, hown, hts⟩ hP hK hS (by decide) hc_30 hl.1 (Nat.le_of_ble_eq_true rfl) dX0_readNumber_76 (fun c29 ec29 H locs hP hS => ?_)
    replace hf := ltn_s ec29 hf
    refine lv_iload_n hx hb dX0_readNumber_79 rfl (lv_at hl 2 rfl) ?_
    refine lv_if_gt (tgt := 94) hx hb dX0_readNumber_80 (by decide) (fun h30 => ?_) (fun h30 => ?_)
    · rw [if_pos h30] at hf
      refine lv_iconst (v := 1) hx hb dX0_readNumber_94 (by decide) ?_
      refine lv_goto (tgt := 99) hx hb dX0_readNumber_95 (by decide) ?_
      have hf := Option.some.inj hf
      simp only [Prod.mk.injEq] at hf
      obtain ⟨rfl, rfl⟩ := hf
      rw [hQ]
      exact w_zret hx hb hr hlocks hP hK hS dX0_readNumber_99 (by decide) rfl rfl
    · rw [if_neg h30] at hf
      refine lv_aload_n hx hb dX0_readNumber_83 rfl (lv_at hl 0 rfl) ?_
      refine lv_aload_n hx hb dX0_readNumber_84 rfl (lv_at hl 0 rfl) ?_
      refine w_get hx hb hts iX0_readNumber_X0 hown hP hK (by decide) emb_cm rfl 3 (by decide) hk_f41 rfl dX0_readNumber_85 ?_
      obtain ⟨x31, c32, hc33, hf⟩ := lt2_e hf
      refine w_ci ⟨hx, hb, hml, hown, hts⟩ hP hK hS (k0_failAt l hX w hc33) hc_68 (w_recv hP hK (by decide) emb_cm rfl) rfl hl.1 rfl (Nat.le_of_ble_eq_true rfl) dX0_readNumber_88 ⟨Nat.zero_le _, Nat.zero_le _⟩ (fun H locs hP hS => ?_)
      refine lv_if_eq (tgt := 98) hx hb dX0_readNumber_91 (by decide) (fun h34 => ?_) (fun h34 => ?_)
      · rw [if_pos h34] at hf
        refine lv_iconst (v := 0) hx hb dX0_readNumber_98 (by decide) ?_
        have hf := Option.some.inj hf
        simp only [Prod.mk.injEq] at hf
        obtain ⟨rfl, rfl⟩ := hf
        rw [hQ]
        exact w_zret hx hb hr hlocks hP hK hS dX0_readNumber_99 (by decide) rfl rfl
      · rw [if_neg h34] at hf
        refine lv_iconst (v := 1) hx hb dX0_readNumber_94 (by decide) ?_
        refine lv_goto (tgt := 99) hx hb dX0_readNumber_95 (by decide) ?_
        have hf := Option.some.inj hf
        simp only [Prod.mk.injEq] at hf
        obtain ⟨rfl, rfl⟩ := hf
        rw [hQ]
        exact w_zret hx hb hr hlocks hP hK hS dX0_readNumber_99 (by decide) rfl rfl
  · rw [if_neg h3] at hf
    refine lv_aload_n hx hb dX0_readNumber_9 rfl (lv_at hl 0 rfl) ?_
    refine lv_aload_n hx hb dX0_readNumber_10 rfl (lv_at hl 0 rfl) ?_
    refine w_get hx hb hts iX0_readNumber_X0 hown hP hK (by decide) emb_cm rfl 3 (by decide) hk_f41 rfl dX0_readNumber_11 ?_
    obtain ⟨x35, c36, hc37, hf⟩ := lt2_e hf
    refine w_ci ⟨hx, hb, hml, hown, hts⟩ hP hK hS (k0_failAt l hX w hc37) hc_68 (w_recv hP hK (by decide) emb_cm rfl) rfl hl.1 rfl (Nat.le_of_ble_eq_true rfl) dX0_readNumber_14 ⟨Nat.zero_le _, Nat.zero_le _⟩ (fun H locs hP hS => ?_)
    obtain ⟨hb38, hf⟩ := ckp_e hf
    have hf := Option.some.inj hf
    simp only [Prod.mk.injEq] at hf
    obtain ⟨rfl, rfl⟩ := hf
    rw [hQ]
    exact w_zret hx hb hr hlocks hP hK hS dX0_readNumber_17 hb38 rfl rfl
