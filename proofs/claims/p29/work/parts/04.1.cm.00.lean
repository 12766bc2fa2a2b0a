abbrev rmX0_length : Room := { frames := 0, cells := 0, slots := 0, locals := 0 }
theorem iX0_length_X0 : ∀ w ∈ wsX00, w ∈ wsX0_length := by decide +kernel
set_option maxHeartbeats 4000000 in
set_option maxRecDepth 100000 in
theorem k0_length (l : Launch) {X : bkX} {b0 : Nat} (hX : XO X b0) (w : bkW) {c0 : bkA} {res9 : Int32} (hf : m0_length c0 = res9) : cI l yX0_length wsX0_length rmX0_length X b0 [.ref (xa X 309)] (pcm w c0) res9 (pcm w c0) := by
  refine Met.ofW (cc := cX0_length) (maxL := 1) (ret := (some .int)) (by decide) rfl ?_
  intro p e s m args below meth c s₁ B hml hv
  obtain ⟨ha, hP, hK⟩ := hv
  have hx := B.exec
  have hb := B.bytes
  have hr := B.returns
  have hts := atoms_spec (ws := wsX0_length) B.pre
  have hown : s.vm.findClass RX0 = some m.cls := findClass_of_methodNamed B.named
  have hlocks := B.notSynchronized
  obtain ⟨R, hR⟩ : ∃ R, R = (headSpec wsX0_length rmX0_length).room := ⟨_, rfl⟩
  rw [← hR]
  have hR1 : R.frames = 0 := by rw [hR]; rfl
  have hR2 : R.locals = 0 := by rw [hR]; rfl
  obtain ⟨Q, hQ⟩ : ∃ Q : State → Prop, Q = MQ below (va_Qi (fun r' (_ : Unit) => r' = res9) (fun _ t => WU X (pcm w c0) t) (xF b0)) args s 0 0 (xF b0) := ⟨_, rfl⟩
  rw [← hQ]
  have hS : va_S (xF b0) s.heap s.heap [] := va_S.rf
  have hl := lv_entry ([.ref (xa X 309)]) (n := 1) (Nat.le_of_ble_eq_true rfl)
  refine W.eq ((congrArg (fun z => entryFrame m z 1) ha).trans (lg_entry_eq m _ 1)) ?_
  generalize (lg_sl ([.ref (xa X 309)]) ++ List.replicate (1 - (lg_sl ([.ref (xa X 309)])).length) Slot.unset).toArray = ls at hl ⊢
  have hl : lv_has ls 1 [(0, .ref (xa X 309))] := hl
  have hk_f27 := hts (.fieldLink RX0 27 "BakeTurns$Commands" "length" "I") (by decide +kernel)
  unfold m0_length at hf
  refine lv_aload_n hx hb dX0_length_0 rfl (lv_at hl 0 rfl) ?_
  refine w_get hx hb hts iX0_length_X0 hown hP hK (by decide) emb_cm rfl 2 (by decide) hk_f27 rfl dX0_length_1 ?_
  obtain rfl := hf
  rw [hQ]
  exact w_iret hx hb hr hlocks hP hK hS dX0_length_4 rfl rfl
