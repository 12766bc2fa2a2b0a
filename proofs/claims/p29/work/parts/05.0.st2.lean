def m4_copyFrom (f0 : bkA) (g0 : bkA) : bkA :=
  lt_ (ur f0 23 (upd (f0 23) 0 (g0 23 0))) fun f1 =>
  lt_ (ur f1 0 (rcp 5 (g0 0) (f1 0))) fun f2 =>
  lt_ (ur f2 1 (rcp 5 (g0 1) (f2 1))) fun f3 =>
  lt_ (ur f3 2 (rcp 5 (g0 2) (f3 2))) fun f4 =>
  lt_ (ur f4 3 (rcp 5 (g0 3) (f4 3))) fun f5 =>
  lt_ (ur f5 4 (rcp 5 (g0 4) (f5 4))) fun f6 =>
  f6
def m3_copyFrom (f0 : bkA) (g0 : bkA) : bkA :=
  lt_ (ur f0 23 (upd (f0 23) 1 (g0 23 1))) fun f1 =>
  lt_ (ur f1 5 (rcp 8 (g0 5) (f1 5))) fun f2 =>
  lt_ (ur f2 6 (rcp 8 (g0 6) (f2 6))) fun f3 =>
  lt_ (ur f3 7 (rcp 8 (g0 7) (f3 7))) fun f4 =>
  lt_ (ur f4 8 (rcp 8 (g0 8) (f4 8))) fun f5 =>
  lt_ (ur f5 9 (rcp 8 (g0 9) (f5 9))) fun f6 =>
  lt_ (ur f6 10 (rcp 8 (g0 10) (f6 10))) fun f7 =>
  f7
def m1_copyFrom (f0 : bkA) (g0 : bkA) : bkA :=
  lt_ (ur f0 23 (upd (f0 23) 2 (g0 23 2))) fun f1 =>
  lt_ (ur f1 11 (rcp 16 (g0 11) (f1 11))) fun f2 =>
  lt_ (ur f2 12 (rcp 16 (g0 12) (f2 12))) fun f3 =>
  lt_ (ur f3 13 (rcp 16 (g0 13) (f3 13))) fun f4 =>
  lt_ (ur f4 14 (rcp 16 (g0 14) (f4 14))) fun f5 =>
  lt_ (ur f5 15 (rcp 16 (g0 15) (f5 15))) fun f6 =>
  lt_ (ur f6 16 (rcp 16 (g0 16) (f6 16))) fun f7 =>
  lt_ (ur f7 17 (rcp 16 (g0 17) (f7 17))) fun f8 =>
  lt_ (ur f8 18 (rcp 16 (g0 18) (f8 18))) fun f9 =>
  f9
def m5_copyFrom (f0 : bkA) (g0 : bkA) : bkA :=
  lt_ (ur f0 19 (rcp 12 (g0 19) (f0 19))) fun f1 =>
  lt_ (ur f1 20 (rcp 12 (g0 20) (f1 20))) fun f2 =>
  lt_ (ur f2 21 (rcp 12 (g0 21) (f2 21))) fun f3 =>
  f3
def m7_copyFrom (f0 : bkA) (g0 : bkA) : bkA :=
  lt1 (m4_copyFrom f0 g0) fun f1 =>
  lt1 (m3_copyFrom f1 g0) fun f3 =>
  lt1 (m1_copyFrom f3 g0) fun f5 =>
  lt1 (m5_copyFrom f5 g0) fun f7 =>
  lt_ (ur f7 22 (rcp 16 (g0 22) (f7 22))) fun f9 =>
  lt_ (ur f9 23 (upd (f9 23) 3 (g0 23 3))) fun f10 =>
  lt_ (ur f10 23 (upd (f10 23) 4 (g0 23 4))) fun f11 =>
  lt_ (ur f11 23 (upd (f11 23) 5 (g0 23 5))) fun f12 =>
  lt_ (ur f12 23 (upd (f12 23) 6 (g0 23 6))) fun f13 =>
  lt_ (ur f13 23 (upd (f13 23) 7 (g0 23 7))) fun f14 =>
  lt_ (ur f14 23 (upd (f14 23) 8 (g0 23 8))) fun f15 =>
  lt_ (ur f15 23 (upd (f15 23) 9 (g0 23 9))) fun f16 =>
  lt_ (ur f16 23 (upd (f16 23) 10 (g0 23 10))) fun f17 =>
  lt_ (ur f17 23 (upd (f17 23) 11 (g0 23 11))) fun f18 =>
  f18
theorem cp_rows {f g f9 : bkA} (h : m7_copyFrom f g = f9) : ∀ j, j < 23 → ∀ i, i < bkLen j → f9 j i = g j i := by
  intro j hj i hi
  subst h
  have h1 : j = 0 ∨ j = 1 ∨ j = 2 ∨ j = 3 ∨ j = 4 ∨ j = 5 ∨ j = 6 ∨ j = 7 ∨ j = 8 ∨ j = 9 ∨ j = 10 ∨ j = 11 ∨ j = 12 ∨ j = 13 ∨ j = 14 ∨ j = 15 ∨ j = 16 ∨ j = 17 ∨ j = 18 ∨ j = 19 ∨ j = 20 ∨ j = 21 ∨ j = 22 := by omega
  rcases h1 with h | h | h | h | h | h | h | h | h | h | h | h | h | h | h | h | h | h | h | h | h | h | h <;> subst h <;> simp [bkLen] at hi <;> simp [m7_copyFrom, m4_copyFrom, m3_copyFrom, m1_copyFrom, m5_copyFrom, lt_, lt1, ur, rcp, hi]
theorem cp_sc {f g f9 : bkA} (h : m7_copyFrom f g = f9) : ∀ i, i < 12 → f9 23 i = g 23 i := by
  intro i hi
  subst h
  have h1 : i = 0 ∨ i = 1 ∨ i = 2 ∨ i = 3 ∨ i = 4 ∨ i = 5 ∨ i = 6 ∨ i = 7 ∨ i = 8 ∨ i = 9 ∨ i = 10 ∨ i = 11 := by omega
  rcases h1 with h | h | h | h | h | h | h | h | h | h | h | h <;> subst h <;> simp [m7_copyFrom, m4_copyFrom, m3_copyFrom, m1_copyFrom, m5_copyFrom, lt_, lt1, ur, rcp, upd]
abbrev rmX4_copyFrom : Room := { frames := 2, cells := 0, slots := 0, locals := 81 }
theorem iX4_copyFrom_X4 : ∀ w ∈ wsX40, w ∈ wsX4_copyFrom := by decide +kernel
set_option maxHeartbeats 4000000 in
set_option maxRecDepth 100000 in
theorem k4_copyFrom (l : Launch) {X : bkX} {b0 : Nat} (hX : XO X b0) {k k2 : Nat} (hk : k < 6) (hk2 : k2 < 6) (hne : k ≠ k2) (w : bkW) {f0 : bkA} {g0 : bkA} {f9 : bkA} (hf : m4_copyFrom f0 g0 = f9) : cV l yX4_copyFrom wsX4_copyFrom rmX4_copyFrom X b0 [.ref (xa X (51*k+1)), .ref (xa X (51*k2+1))] (pk (pk w k2 g0) k f0) (pk (pk w k2 g0) k f9) := by
  refine Met.ofW (cc := cX4_copyFrom) (maxL := 2) (ret := none) (by decide) rfl ?_
  intro p e s m args below meth c s₁ B hml hv
  obtain ⟨ha, hP, hK⟩ := hv
  have hx := B.exec
  have hb := B.bytes
  have hr := B.returns
  have hts := atoms_spec (ws := wsX4_copyFrom) B.pre
  have hown : s.vm.findClass RX4 = some m.cls := findClass_of_methodNamed B.named
  have hlocks := B.notSynchronized
  obtain ⟨R, hR⟩ : ∃ R, R = (headSpec wsX4_copyFrom rmX4_copyFrom).room := ⟨_, rfl⟩
  rw [← hR]
  have hR1 : R.frames = 2 := by rw [hR]; rfl
  have hR2 : R.locals = 81 := by rw [hR]; rfl
  obtain ⟨Q, hQ⟩ : ∃ Q : State → Prop, Q = MQ below (va_Qv (fun (_ : Unit) => True) (fun _ t => WU X (pk (pk w k2 g0) k f9) t) (xF b0)) args s 0 0 (xF b0) := ⟨_, rfl⟩
  rw [← hQ]
  have hS : va_S (xF b0) s.heap s.heap [] := va_S.rf
  have hl := lv_entry ([.ref (xa X (51*k+1)), .ref (xa X (51*k2+1))]) (n := 2) (Nat.le_of_ble_eq_true rfl)
  refine W.eq ((congrArg (fun z => entryFrame m z 2) ha).trans (lg_entry_eq m _ 2)) ?_
  generalize (lg_sl ([.ref (xa X (51*k+1)), .ref (xa X (51*k2+1))]) ++ List.replicate (2 - (lg_sl ([.ref (xa X (51*k+1)), .ref (xa X (51*k2+1))])).length) Slot.unset).toArray = ls at hl ⊢
  have hl : lv_has ls 2 [(0, .ref (xa X (51*k+1))), (1, .ref (xa X (51*k2+1)))] := hl
  have hk_f32 := hts (.fieldLink RX4 32 "BakeTurns$Kinds" "count" "I") (by decide +kernel)
  have hk_f14 := hts (.fieldLink RX4 14 "BakeTurns$Kinds" "least" "LBakeTurns$Row;") (by decide +kernel)
  have hc_36 := (cwV 1 hts gX4_copyFrom_X6_copyFrom rfl rfl rfl (by decide +kernel) ⟨by rw [hR1]; exact Nat.le_of_ble_eq_true rfl, by rw [hR2]; exact Nat.le_of_ble_eq_true rfl⟩ : CallW R s args RX4 RX6 36 yX6_copyFrom cX6_copyFrom 2 none wsX6_copyFrom rmX6_copyFrom 0 0 1)
  have hk_f20 := hts (.fieldLink RX4 20 "BakeTurns$Kinds" "greatest" "LBakeTurns$Row;") (by decide +kernel)
  have hk_f23 := hts (.fieldLink RX4 23 "BakeTurns$Kinds" "bake" "LBakeTurns$Row;") (by decide +kernel)
  have hk_f26 := hts (.fieldLink RX4 26 "BakeTurns$Kinds" "ripen" "LBakeTurns$Row;") (by decide +kernel)
  have hk_f29 := hts (.fieldLink RX4 29 "BakeTurns$Kinds" "keep" "LBakeTurns$Row;") (by decide +kernel)
  unfold m4_copyFrom at hf
  refine lv_aload_n hx hb dX4_copyFrom_0 rfl (lv_at hl 1 rfl) ?_
  refine lv_ifnull hx hb dX4_copyFrom_1 ?_
  refine lv_aload_n hx hb dX4_copyFrom_4 rfl (lv_at hl 0 rfl) ?_
  refine lv_aload_n hx hb dX4_copyFrom_5 rfl (lv_at hl 1 rfl) ?_
  refine st_get (i0 := 1) hx hb hts iX4_copyFrom_X4 hown (HW_comm hne hP) hK hk2 (by decide) rfl rfl 0 (by decide) hk_f32 rfl dX4_copyFrom_6 ?_
  refine st_put (i0 := 1) hx hb hts iX4_copyFrom_X4 tyX4 tyX4_ok nmX4 hown hX hP hK hS hk (by decide) rfl rfl 0 (by decide) hk_f32 rfl rfl (Nat.le_of_ble_eq_true rfl) es_0 dX4_copyFrom_9 (fun f1 ef1 H locs hP hS => ?_)
  replace hf := ltn_s ef1 hf
  refine lv_aload_n hx hb dX4_copyFrom_12 rfl (lv_at hl 0 rfl) ?_
  refine st_get (i0 := 1) hx hb hts iX4_copyFrom_X4 hown hP hK hk (by decide) rfl rfl 1 (by decide) hk_f14 rfl dX4_copyFrom_13 ?_
  refine lv_aload_n hx hb dX4_copyFrom_16 rfl (lv_at hl 1 rfl) ?_
  refine st_get (i0 := 1) hx hb hts iX4_copyFrom_X4 hown (HW_comm hne hP) hK hk2 (by decide) rfl rfl 1 (by decide) hk_f14 rfl dX4_copyFrom_17 ?_
  refine st_cpy (j := 0) (n := 5) hX ⟨hx, hb, hml, hown, hts⟩ hP hK hS hk hk2 hne (by decide) rfl hc_36 hl.1 (Nat.le_of_ble_eq_true rfl) dX4_copyFrom_20 (fun f2 ef2 H locs hP hS => ?_)
  replace hf := ltn_s ef2 hf
  refine lv_aload_n hx hb dX4_copyFrom_23 rfl (lv_at hl 0 rfl) ?_
  refine st_get (i0 := 1) hx hb hts iX4_copyFrom_X4 hown hP hK hk (by decide) rfl rfl 2 (by decide) hk_f20 rfl dX4_copyFrom_24 ?_
  refine lv_aload_n hx hb dX4_copyFrom_27 rfl (lv_at hl 1 rfl) ?_
  refine st_get (i0 := 1) hx hb hts iX4_copyFrom_X4 hown (HW_comm hne hP) hK hk2 (by decide) rfl rfl 2 (by decide) hk_f20 rfl dX4_copyFrom_28 ?_
  refine st_cpy (j := 1) (n := 5) hX ⟨hx, hb, hml, hown, hts⟩ hP hK hS hk hk2 hne (by decide) rfl hc_36 hl.1 (Nat.le_of_ble_eq_true rfl) dX4_copyFrom_31 (fun f3 ef3 H locs hP hS => ?_)
  replace hf := ltn_s ef3 hf
  refine lv_aload_n hx hb dX4_copyFrom_34 rfl (lv_at hl 0 rfl) ?_
  refine st_get (i0 := 1) hx hb hts iX4_copyFrom_X4 hown hP hK hk (by decide) rfl rfl 3 (by decide) hk_f23 rfl dX4_copyFrom_35 ?_
  refine lv_aload_n hx hb dX4_copyFrom_38 rfl (lv_at hl 1 rfl) ?_
  refine st_get (i0 := 1) hx hb hts iX4_copyFrom_X4 hown (HW_comm hne hP) hK hk2 (by decide) rfl rfl 3 (by decide) hk_f23 rfl dX4_copyFrom_39 ?_
  refine st_cpy (j := 2) (n := 5) hX ⟨hx, hb, hml, hown, hts⟩ hP hK hS hk hk2 hne (by decide) rfl hc_36 hl.1 (Nat.le_of_ble_eq_true rfl) dX4_copyFrom_42 (fun f4 ef4 H locs hP hS => ?_)
  replace hf := ltn_s ef4 hf
  refine lv_aload_n hx hb dX4_copyFrom_45 rfl (lv_at hl 0 rfl) ?_
  refine st_get (i0 := 1) hx hb hts iX4_copyFrom_X4 hown hP hK hk (by decide) rfl rfl 4 (by decide) hk_f26 rfl dX4_copyFrom_46 ?_
  refine lv_aload_n hx hb dX4_copyFrom_49 rfl (lv_at hl 1 rfl) ?_
  refine st_get (i0 := 1) hx hb hts iX4_copyFrom_X4 hown (HW_comm hne hP) hK hk2 (by decide) rfl rfl 4 (by decide) hk_f26 rfl dX4_copyFrom_50 ?_
  refine st_cpy (j := 3) (n := 5) hX ⟨hx, hb, hml, hown, hts⟩ hP hK hS hk hk2 hne (by decide) rfl hc_36 hl.1 (Nat.le_of_ble_eq_true rfl) dX4_copyFrom_53 (fun f5 ef5 H locs hP hS => ?_)
  replace hf := ltn_s ef5 hf
  refine lv_aload_n hx hb dX4_copyFrom_56 rfl (lv_at hl 0 rfl) ?_
  refine st_get (i0 := 1) hx hb hts iX4_copyFrom_X4 hown hP hK hk (by decide) rfl rfl 5 (by decide) hk_f29 rfl dX4_copyFrom_57 ?_
  refine lv_aload_n hx hb dX4_copyFrom_60 rfl (lv_at hl 1 rfl) ?_
  refine st_get (i0 := 1) hx hb hts iX4_copyFrom_X4 hown (HW_comm hne hP) hK hk2 (by decide) rfl rfl 5 (by decide) hk_f29 rfl dX4_copyFrom_61 ?_
  refine st_cpy (j := 4) (n := 5) hX ⟨hx, hb, hml, hown, hts⟩ hP hK hS hk hk2 hne (by decide) rfl hc_36 hl.1 (Nat.le_of_ble_eq_true rfl) dX4_copyFrom_64 (fun f6 ef6 H locs hP hS => ?_)
  replace hf := ltn_s ef6 hf
  obtain rfl := hf
  rw [hQ]
  exact w_vret hx hb hr hlocks hP hK hS dX4_copyFrom_67 rfl
abbrev rmX3_copyFrom : Room := { frames := 2, cells := 0, slots := 0, locals := 81 }
theorem iX3_copyFrom_X3 : ∀ w ∈ wsX30, w ∈ wsX3_copyFrom := by decide +kernel
set_option maxHeartbeats 4000000 in
set_option maxRecDepth 100000 in
theorem k3_copyFrom (l : Launch) {X : bkX} {b0 : Nat} (hX : XO X b0) {k k2 : Nat} (hk : k < 6) (hk2 : k2 < 6) (hne : k ≠ k2) (w : bkW) {f0 : bkA} {g0 : bkA} {f9 : bkA} (hf : m3_copyFrom f0 g0 = f9) : cV l yX3_copyFrom wsX3_copyFrom rmX3_copyFrom X b0 [.ref (xa X (51*k+2)), .ref (xa X (51*k2+2))] (pk (pk w k2 g0) k f0) (pk (pk w k2 g0) k f9) := by
  refine Met.ofW (cc := cX3_copyFrom) (maxL := 2) (ret := none) (by decide) rfl ?_
  intro p e s m args below meth c s₁ B hml hv
  obtain ⟨ha, hP, hK⟩ := hv
  have hx := B.exec
  have hb := B.bytes
  have hr := B.returns
  have hts := atoms_spec (ws := wsX3_copyFrom) B.pre
  have hown : s.vm.findClass RX3 = some m.cls := findClass_of_methodNamed B.named
  have hlocks := B.notSynchronized
  obtain ⟨R, hR⟩ : ∃ R, R = (headSpec wsX3_copyFrom rmX3_copyFrom).room := ⟨_, rfl⟩
  rw [← hR]
  have hR1 : R.frames = 2 := by rw [hR]; rfl
  have hR2 : R.locals = 81 := by rw [hR]; rfl
  obtain ⟨Q, hQ⟩ : ∃ Q : State → Prop, Q = MQ below (va_Qv (fun (_ : Unit) => True) (fun _ t => WU X (pk (pk w k2 g0) k f9) t) (xF b0)) args s 0 0 (xF b0) := ⟨_, rfl⟩
  rw [← hQ]
  have hS : va_S (xF b0) s.heap s.heap [] := va_S.rf
  have hl := lv_entry ([.ref (xa X (51*k+2)), .ref (xa X (51*k2+2))]) (n := 2) (Nat.le_of_ble_eq_true rfl)
  refine W.eq ((congrArg (fun z => entryFrame m z 2) ha).trans (lg_entry_eq m _ 2)) ?_
  generalize (lg_sl ([.ref (xa X (51*k+2)), .ref (xa X (51*k2+2))]) ++ List.replicate (2 - (lg_sl ([.ref (xa X (51*k+2)), .ref (xa X (51*k2+2))])).length) Slot.unset).toArray = ls at hl ⊢
  have hl : lv_has ls 2 [(0, .ref (xa X (51*k+2))), (1, .ref (xa X (51*k2+2)))] := hl
  have hk_f35 := hts (.fieldLink RX3 35 "BakeTurns$Houses" "count" "I") (by decide +kernel)
  have hk_f14 := hts (.fieldLink RX3 14 "BakeTurns$Houses" "balance" "LBakeTurns$Row;") (by decide +kernel)
  have hc_39 := (cwV 1 hts gX3_copyFrom_X6_copyFrom rfl rfl rfl (by decide +kernel) ⟨by rw [hR1]; exact Nat.le_of_ble_eq_true rfl, by rw [hR2]; exact Nat.le_of_ble_eq_true rfl⟩ : CallW R s args RX3 RX6 39 yX6_copyFrom cX6_copyFrom 2 none wsX6_copyFrom rmX6_copyFrom 0 0 1)
  have hk_f20 := hts (.fieldLink RX3 20 "BakeTurns$Houses" "use" "LBakeTurns$Row;") (by decide +kernel)
  have hk_f23 := hts (.fieldLink RX3 23 "BakeTurns$Houses" "paid" "LBakeTurns$Row;") (by decide +kernel)
  have hk_f26 := hts (.fieldLink RX3 26 "BakeTurns$Houses" "brought" "LBakeTurns$Row;") (by decide +kernel)
  have hk_f29 := hts (.fieldLink RX3 29 "BakeTurns$Houses" "loavesDone" "LBakeTurns$Row;") (by decide +kernel)
  have hk_f32 := hts (.fieldLink RX3 32 "BakeTurns$Houses" "loavesBurnt" "LBakeTurns$Row;") (by decide +kernel)
  unfold m3_copyFrom at hf
  refine lv_aload_n hx hb dX3_copyFrom_0 rfl (lv_at hl 1 rfl) ?_
  refine lv_ifnull hx hb dX3_copyFrom_1 ?_
  refine lv_aload_n hx hb dX3_copyFrom_4 rfl (lv_at hl 0 rfl) ?_
  refine lv_aload_n hx hb dX3_copyFrom_5 rfl (lv_at hl 1 rfl) ?_
  refine st_get (i0 := 2) hx hb hts iX3_copyFrom_X3 hown (HW_comm hne hP) hK hk2 (by decide) rfl rfl 0 (by decide) hk_f35 rfl dX3_copyFrom_6 ?_
  refine st_put (i0 := 2) hx hb hts iX3_copyFrom_X3 tyX3 tyX3_ok nmX3 hown hX hP hK hS hk (by decide) rfl rfl 0 (by decide) hk_f35 rfl rfl (Nat.le_of_ble_eq_true rfl) es_1 dX3_copyFrom_9 (fun f1 ef1 H locs hP hS => ?_)
  replace hf := ltn_s ef1 hf
  refine lv_aload_n hx hb dX3_copyFrom_12 rfl (lv_at hl 0 rfl) ?_
  refine st_get (i0 := 2) hx hb hts iX3_copyFrom_X3 hown hP hK hk (by decide) rfl rfl 1 (by decide) hk_f14 rfl dX3_copyFrom_13 ?_
  refine lv_aload_n hx hb dX3_copyFrom_16 rfl (lv_at hl 1 rfl) ?_
  refine st_get (i0 := 2) hx hb hts iX3_copyFrom_X3 hown (HW_comm hne hP) hK hk2 (by decide) rfl rfl 1 (by decide) hk_f14 rfl dX3_copyFrom_17 ?_
  refine st_cpy (j := 5) (n := 8) hX ⟨hx, hb, hml, hown, hts⟩ hP hK hS hk hk2 hne (by decide) rfl hc_39 hl.1 (Nat.le_of_ble_eq_true rfl) dX3_copyFrom_20 (fun f2 ef2 H locs hP hS => ?_)
  replace hf := ltn_s ef2 hf
  refine lv_aload_n hx hb dX3_copyFrom_23 rfl (lv_at hl 0 rfl) ?_
  refine st_get (i0 := 2) hx hb hts iX3_copyFrom_X3 hown hP hK hk (by decide) rfl rfl 2 (by decide) hk_f20 rfl dX3_copyFrom_24 ?_
  refine lv_aload_n hx hb dX3_copyFrom_27 rfl (lv_at hl 1 rfl) ?_
  refine st_get (i0 := 2) hx hb hts iX3_copyFrom_X3 hown (HW_comm hne hP) hK hk2 (by decide) rfl rfl 2 (by decide) hk_f20 rfl dX3_copyFrom_28 ?_
  refine st_cpy (j := 6) (n := 8) hX ⟨hx, hb, hml, hown, hts⟩ hP hK hS hk hk2 hne (by decide) rfl hc_39 hl.1 (Nat.le_of_ble_eq_true rfl) dX3_copyFrom_31 (fun f3 ef3 H locs hP hS => ?_)
  replace hf := ltn_s ef3 hf
  refine lv_aload_n hx hb dX3_copyFrom_34 rfl (lv_at hl 0 rfl) ?_
  refine st_get (i0 := 2) hx hb hts iX3_copyFrom_X3 hown hP hK hk (by decide) rfl rfl 3 (by decide) hk_f23 rfl dX3_copyFrom_35 ?_
  refine lv_aload_n hx hb dX3_copyFrom_38 rfl (lv_at hl 1 rfl) ?_
  refine st_get (i0 := 2) hx hb hts iX3_copyFrom_X3 hown (HW_comm hne hP) hK hk2 (by decide) rfl rfl 3 (by decide) hk_f23 rfl dX3_copyFrom_39 ?_
  refine st_cpy (j := 7) (n := 8) hX ⟨hx, hb, hml, hown, hts⟩ hP hK hS hk hk2 hne (by decide) rfl hc_39 hl.1 (Nat.le_of_ble_eq_true rfl) dX3_copyFrom_42 (fun f4 ef4 H locs hP hS => ?_)
  replace hf := ltn_s ef4 hf
  refine lv_aload_n hx hb dX3_copyFrom_45 rfl (lv_at hl 0 rfl) ?_
  refine st_get (i0 := 2) hx hb hts iX3_copyFrom_X3 hown hP hK hk (by decide) rfl rfl 4 (by decide) hk_f26 rfl dX3_copyFrom_46 ?_
  refine lv_aload_n hx hb dX3_copyFrom_49 rfl (lv_at hl 1 rfl) ?_
  refine st_get (i0 := 2) hx hb hts iX3_copyFrom_X3 hown (HW_comm hne hP) hK hk2 (by decide) rfl rfl 4 (by decide) hk_f26 rfl dX3_copyFrom_50 ?_
  refine st_cpy (j := 8) (n := 8) hX ⟨hx, hb, hml, hown, hts⟩ hP hK hS hk hk2 hne (by decide) rfl hc_39 hl.1 (Nat.le_of_ble_eq_true rfl) dX3_copyFrom_53 (fun f5 ef5 H locs hP hS => ?_)
  replace hf := ltn_s ef5 hf
  refine lv_aload_n hx hb dX3_copyFrom_56 rfl (lv_at hl 0 rfl) ?_
  refine st_get (i0 := 2) hx hb hts iX3_copyFrom_X3 hown hP hK hk (by decide) rfl rfl 5 (by decide) hk_f29 rfl dX3_copyFrom_57 ?_
  refine lv_aload_n hx hb dX3_copyFrom_60 rfl (lv_at hl 1 rfl) ?_
  refine st_get (i0 := 2) hx hb hts iX3_copyFrom_X3 hown (HW_comm hne hP) hK hk2 (by decide) rfl rfl 5 (by decide) hk_f29 rfl dX3_copyFrom_61 ?_
  refine st_cpy (j := 9) (n := 8) hX ⟨hx, hb, hml, hown, hts⟩ hP hK hS hk hk2 hne (by decide) rfl hc_39 hl.1 (Nat.le_of_ble_eq_true rfl) dX3_copyFrom_64 (fun f6 ef6 H locs hP hS => ?_)
  replace hf := ltn_s ef6 hf
  refine lv_aload_n hx hb dX3_copyFrom_67 rfl (lv_at hl 0 rfl) ?_
  refine st_get (i0 := 2) hx hb hts iX3_copyFrom_X3 hown hP hK hk (by decide) rfl rfl 6 (by decide) hk_f32 rfl dX3_copyFrom_68 ?_
  refine lv_aload_n hx hb dX3_copyFrom_71 rfl (lv_at hl 1 rfl) ?_
  refine st_get (i0 := 2) hx hb hts iX3_copyFrom_X3 hown (HW_comm hne hP) hK hk2 (by decide) rfl rfl 6 (by decide) hk_f32 rfl dX3_copyFrom_72 ?_
  refine st_cpy (j := 10) (n := 8) hX ⟨hx, hb, hml, hown, hts⟩ hP hK hS hk hk2 hne (by decide) rfl hc_39 hl.1 (Nat.le_of_ble_eq_true rfl) dX3_copyFrom_75 (fun f7 ef7 H locs hP hS => ?_)
  replace hf := ltn_s ef7 hf
  obtain rfl := hf
  rw [hQ]
  exact w_vret hx hb hr hlocks hP hK hS dX3_copyFrom_78 rfl
abbrev rmX1_copyFrom : Room := { frames := 2, cells := 0, slots := 0, locals := 81 }
theorem iX1_copyFrom_X1 : ∀ w ∈ wsX10, w ∈ wsX1_copyFrom := by decide +kernel
set_option maxHeartbeats 4000000 in
set_option maxRecDepth 100000 in
theorem k1_copyFrom (l : Launch) {X : bkX} {b0 : Nat} (hX : XO X b0) {k k2 : Nat} (hk : k < 6) (hk2 : k2 < 6) (hne : k ≠ k2) (w : bkW) {f0 : bkA} {g0 : bkA} {f9 : bkA} (hf : m1_copyFrom f0 g0 = f9) : cV l yX1_copyFrom wsX1_copyFrom rmX1_copyFrom X b0 [.ref (xa X (51*k+3)), .ref (xa X (51*k2+3))] (pk (pk w k2 g0) k f0) (pk (pk w k2 g0) k f9) := by
  refine Met.ofW (cc := cX1_copyFrom) (maxL := 2) (ret := none) (by decide) rfl ?_
  intro p e s m args below meth c s₁ B hml hv
  obtain ⟨ha, hP, hK⟩ := hv
  have hx := B.exec
  have hb := B.bytes
  have hr := B.returns
  have hts := atoms_spec (ws := wsX1_copyFrom) B.pre
  have hown : s.vm.findClass RX1 = some m.cls := findClass_of_methodNamed B.named
  have hlocks := B.notSynchronized
  obtain ⟨R, hR⟩ : ∃ R, R = (headSpec wsX1_copyFrom rmX1_copyFrom).room := ⟨_, rfl⟩
  rw [← hR]
  have hR1 : R.frames = 2 := by rw [hR]; rfl
  have hR2 : R.locals = 81 := by rw [hR]; rfl
  obtain ⟨Q, hQ⟩ : ∃ Q : State → Prop, Q = MQ below (va_Qv (fun (_ : Unit) => True) (fun _ t => WU X (pk (pk w k2 g0) k f9) t) (xF b0)) args s 0 0 (xF b0) := ⟨_, rfl⟩
  rw [← hQ]
  have hS : va_S (xF b0) s.heap s.heap [] := va_S.rf
  have hl := lv_entry ([.ref (xa X (51*k+3)), .ref (xa X (51*k2+3))]) (n := 2) (Nat.le_of_ble_eq_true rfl)
  refine W.eq ((congrArg (fun z => entryFrame m z 2) ha).trans (lg_entry_eq m _ 2)) ?_
  generalize (lg_sl ([.ref (xa X (51*k+3)), .ref (xa X (51*k2+3))]) ++ List.replicate (2 - (lg_sl ([.ref (xa X (51*k+3)), .ref (xa X (51*k2+3))])).length) Slot.unset).toArray = ls at hl ⊢
  have hl : lv_has ls 2 [(0, .ref (xa X (51*k+3))), (1, .ref (xa X (51*k2+3)))] := hl
  have hk_f41 := hts (.fieldLink RX1 41 "BakeTurns$Doughs" "count" "I") (by decide +kernel)
  have hk_f14 := hts (.fieldLink RX1 14 "BakeTurns$Doughs" "houseOf" "LBakeTurns$Row;") (by decide +kernel)
  have hc_45 := (cwV 1 hts gX1_copyFrom_X6_copyFrom rfl rfl rfl (by decide +kernel) ⟨by rw [hR1]; exact Nat.le_of_ble_eq_true rfl, by rw [hR2]; exact Nat.le_of_ble_eq_true rfl⟩ : CallW R s args RX1 RX6 45 yX6_copyFrom cX6_copyFrom 2 none wsX6_copyFrom rmX6_copyFrom 0 0 1)
  have hk_f20 := hts (.fieldLink RX1 20 "BakeTurns$Doughs" "kindOf" "LBakeTurns$Row;") (by decide +kernel)
  have hk_f23 := hts (.fieldLink RX1 23 "BakeTurns$Doughs" "loaves" "LBakeTurns$Row;") (by decide +kernel)
  have hk_f26 := hts (.fieldLink RX1 26 "BakeTurns$Doughs" "age" "LBakeTurns$Row;") (by decide +kernel)
  have hk_f29 := hts (.fieldLink RX1 29 "BakeTurns$Doughs" "phase" "LBakeTurns$Row;") (by decide +kernel)
  have hk_f32 := hts (.fieldLink RX1 32 "BakeTurns$Doughs" "lastReason" "LBakeTurns$Row;") (by decide +kernel)
  have hk_f35 := hts (.fieldLink RX1 35 "BakeTurns$Doughs" "loadedAt" "LBakeTurns$Row;") (by decide +kernel)
  have hk_f38 := hts (.fieldLink RX1 38 "BakeTurns$Doughs" "burnt" "LBakeTurns$Row;") (by decide +kernel)
  unfold m1_copyFrom at hf
  refine lv_aload_n hx hb dX1_copyFrom_0 rfl (lv_at hl 1 rfl) ?_
  refine lv_ifnull hx hb dX1_copyFrom_1 ?_
  refine lv_aload_n hx hb dX1_copyFrom_4 rfl (lv_at hl 0 rfl) ?_
  refine lv_aload_n hx hb dX1_copyFrom_5 rfl (lv_at hl 1 rfl) ?_
  refine st_get (i0 := 3) hx hb hts iX1_copyFrom_X1 hown (HW_comm hne hP) hK hk2 (by decide) rfl rfl 0 (by decide) hk_f41 rfl dX1_copyFrom_6 ?_
  refine st_put (i0 := 3) hx hb hts iX1_copyFrom_X1 tyX1 tyX1_ok nmX1 hown hX hP hK hS hk (by decide) rfl rfl 0 (by decide) hk_f41 rfl rfl (Nat.le_of_ble_eq_true rfl) es_2 dX1_copyFrom_9 (fun f1 ef1 H locs hP hS => ?_)
  replace hf := ltn_s ef1 hf
  refine lv_aload_n hx hb dX1_copyFrom_12 rfl (lv_at hl 0 rfl) ?_
  refine st_get (i0 := 3) hx hb hts iX1_copyFrom_X1 hown hP hK hk (by decide) rfl rfl 1 (by decide) hk_f14 rfl dX1_copyFrom_13 ?_
  refine lv_aload_n hx hb dX1_copyFrom_16 rfl (lv_at hl 1 rfl) ?_
  refine st_get (i0 := 3) hx hb hts iX1_copyFrom_X1 hown (HW_comm hne hP) hK hk2 (by decide) rfl rfl 1 (by decide) hk_f14 rfl dX1_copyFrom_17 ?_
  refine st_cpy (j := 11) (n := 16) hX ⟨hx, hb, hml, hown, hts⟩ hP hK hS hk hk2 hne (by decide) rfl hc_45 hl.1 (Nat.le_of_ble_eq_true rfl) dX1_copyFrom_20 (fun f2 ef2 H locs hP hS => ?_)
  replace hf := ltn_s ef2 hf
  refine lv_aload_n hx hb dX1_copyFrom_23 rfl (lv_at hl 0 rfl) ?_
  refine st_get (i0 := 3) hx hb hts iX1_copyFrom_X1 hown hP hK hk (by decide) rfl rfl 2 (by decide) hk_f20 rfl dX1_copyFrom_24 ?_
  refine lv_aload_n hx hb dX1_copyFrom_27 rfl (lv_at hl 1 rfl) ?_
  refine st_get (i0 := 3) hx hb hts iX1_copyFrom_X1 hown (HW_comm hne hP) hK hk2 (by decide) rfl rfl 2 (by decide) hk_f20 rfl dX1_copyFrom_28 ?_
  refine st_cpy (j := 12) (n := 16) hX ⟨hx, hb, hml, hown, hts⟩ hP hK hS hk hk2 hne (by decide) rfl hc_45 hl.1 (Nat.le_of_ble_eq_true rfl) dX1_copyFrom_31 (fun f3 ef3 H locs hP hS => ?_)
  replace hf := ltn_s ef3 hf
  refine lv_aload_n hx hb dX1_copyFrom_34 rfl (lv_at hl 0 rfl) ?_
  refine st_get (i0 := 3) hx hb hts iX1_copyFrom_X1 hown hP hK hk (by decide) rfl rfl 3 (by decide) hk_f23 rfl dX1_copyFrom_35 ?_
  refine lv_aload_n hx hb dX1_copyFrom_38 rfl (lv_at hl 1 rfl) ?_
  refine st_get (i0 := 3) hx hb hts iX1_copyFrom_X1 hown (HW_comm hne hP) hK hk2 (by decide) rfl rfl 3 (by decide) hk_f23 rfl dX1_copyFrom_39 ?_
  refine st_cpy (j := 13) (n := 16) hX ⟨hx, hb, hml, hown, hts⟩ hP hK hS hk hk2 hne (by decide) rfl hc_45 hl.1 (Nat.le_of_ble_eq_true rfl) dX1_copyFrom_42 (fun f4 ef4 H locs hP hS => ?_)
  replace hf := ltn_s ef4 hf
  refine lv_aload_n hx hb dX1_copyFrom_45 rfl (lv_at hl 0 rfl) ?_
  refine st_get (i0 := 3) hx hb hts iX1_copyFrom_X1 hown hP hK hk (by decide) rfl rfl 4 (by decide) hk_f26 rfl dX1_copyFrom_46 ?_
  refine lv_aload_n hx hb dX1_copyFrom_49 rfl (lv_at hl 1 rfl) ?_
  refine st_get (i0 := 3) hx hb hts iX1_copyFrom_X1 hown (HW_comm hne hP) hK hk2 (by decide) rfl rfl 4 (by decide) hk_f26 rfl dX1_copyFrom_50 ?_
  refine st_cpy (j := 14) (n := 16) hX ⟨hx, hb, hml, hown, hts⟩ hP hK hS hk hk2 hne (by decide) rfl hc_45 hl.1 (Nat.le_of_ble_eq_true rfl) dX1_copyFrom_53 (fun f5 ef5 H locs hP hS => ?_)
  replace hf := ltn_s ef5 hf
  refine lv_aload_n hx hb dX1_copyFrom_56 rfl (lv_at hl 0 rfl) ?_
  refine st_get (i0 := 3) hx hb hts iX1_copyFrom_X1 hown hP hK hk (by decide) rfl rfl 5 (by decide) hk_f29 rfl dX1_copyFrom_57 ?_
  refine lv_aload_n hx hb dX1_copyFrom_60 rfl (lv_at hl 1 rfl) ?_
  refine st_get (i0 := 3) hx hb hts iX1_copyFrom_X1 hown (HW_comm hne hP) hK hk2 (by decide) rfl rfl 5 (by decide) hk_f29 rfl dX1_copyFrom_61 ?_
  refine st_cpy (j := 15) (n := 16) hX ⟨hx, hb, hml, hown, hts⟩ hP hK hS hk hk2 hne (by decide) rfl hc_45 hl.1 (Nat.le_of_ble_eq_true rfl) dX1_copyFrom_64 (fun f6 ef6 H locs hP hS => ?_)
  replace hf := ltn_s ef6 hf
  refine lv_aload_n hx hb dX1_copyFrom_67 rfl (lv_at hl 0 rfl) ?_
  refine st_get (i0 := 3) hx hb hts iX1_copyFrom_X1 hown hP hK hk (by decide) rfl rfl 6 (by decide) hk_f32 rfl dX1_copyFrom_68 ?_
  refine lv_aload_n hx hb dX1_copyFrom_71 rfl (lv_at hl 1 rfl) ?_
  refine st_get (i0 := 3) hx hb hts iX1_copyFrom_X1 hown (HW_comm hne hP) hK hk2 (by decide) rfl rfl 6 (by decide) hk_f32 rfl dX1_copyFrom_72 ?_
  refine st_cpy (j := 16) (n := 16) hX ⟨hx, hb, hml, hown, hts⟩ hP hK hS hk hk2 hne (by decide) rfl hc_45 hl.1 (Nat.le_of_ble_eq_true rfl) dX1_copyFrom_75 (fun f7 ef7 H locs hP hS => ?_)
  replace hf := ltn_s ef7 hf
  refine lv_aload_n hx hb dX1_copyFrom_78 rfl (lv_at hl 0 rfl) ?_
  refine st_get (i0 := 3) hx hb hts iX1_copyFrom_X1 hown hP hK hk (by decide) rfl rfl 7 (by decide) hk_f35 rfl dX1_copyFrom_79 ?_
  refine lv_aload_n hx hb dX1_copyFrom_82 rfl (lv_at hl 1 rfl) ?_
  refine st_get (i0 := 3) hx hb hts iX1_copyFrom_X1 hown (HW_comm hne hP) hK hk2 (by decide) rfl rfl 7 (by decide) hk_f35 rfl dX1_copyFrom_83 ?_
  refine st_cpy (j := 17) (n := 16) hX ⟨hx, hb, hml, hown, hts⟩ hP hK hS hk hk2 hne (by decide) rfl hc_45 hl.1 (Nat.le_of_ble_eq_true rfl) dX1_copyFrom_86 (fun f8 ef8 H locs hP hS => ?_)
  replace hf := ltn_s ef8 hf
  refine lv_aload_n hx hb dX1_copyFrom_89 rfl (lv_at hl 0 rfl) ?_
  refine st_get (i0 := 3) hx hb hts iX1_copyFrom_X1 hown hP hK hk (by decide) rfl rfl 8 (by decide) hk_f38 rfl dX1_copyFrom_90 ?_
  refine lv_aload_n hx hb dX1_copyFrom_93 rfl (lv_at hl 1 rfl) ?_
  refine st_get (i0 := 3) hx hb hts iX1_copyFrom_X1 hown (HW_comm hne hP) hK hk2 (by decide) rfl rfl 8 (by decide) hk_f38 rfl dX1_copyFrom_94 ?_
  refine st_cpy (j := 18) (n := 16) hX ⟨hx, hb, hml, hown, hts⟩ hP hK hS hk hk2 hne (by decide) rfl hc_45 hl.1 (Nat.le_of_ble_eq_true rfl) dX1_copyFrom_97 (fun f9 ef9 H locs hP hS => ?_)
  replace hf := ltn_s ef9 hf
  obtain rfl := hf
  rw [hQ]
  exact w_vret hx hb hr hlocks hP hK hS dX1_copyFrom_100 rfl
abbrev rmX5_copyFrom : Room := { frames := 2, cells := 0, slots := 0, locals := 81 }
theorem iX5_copyFrom_X5 : ∀ w ∈ wsX50, w ∈ wsX5_copyFrom := by decide +kernel
set_option maxHeartbeats 4000000 in
set_option maxRecDepth 100000 in
theorem k5_copyFrom (l : Launch) {X : bkX} {b0 : Nat} (hX : XO X b0) {k k2 : Nat} (hk : k < 6) (hk2 : k2 < 6) (hne : k ≠ k2) (w : bkW) {f0 : bkA} {g0 : bkA} {f9 : bkA} (hf : m5_copyFrom f0 g0 = f9) : cV l yX5_copyFrom wsX5_copyFrom rmX5_copyFrom X b0 [.ref (xa X (51*k+4)), .ref (xa X (51*k2+4))] (pk (pk w k2 g0) k f0) (pk (pk w k2 g0) k f9) := by
  refine Met.ofW (cc := cX5_copyFrom) (maxL := 2) (ret := none) (by decide) rfl ?_
  intro p e s m args below meth c s₁ B hml hv
  obtain ⟨ha, hP, hK⟩ := hv
  have hx := B.exec
  have hb := B.bytes
  have hr := B.returns
  have hts := atoms_spec (ws := wsX5_copyFrom) B.pre
  have hown : s.vm.findClass RX5 = some m.cls := findClass_of_methodNamed B.named
  have hlocks := B.notSynchronized
  obtain ⟨R, hR⟩ : ∃ R, R = (headSpec wsX5_copyFrom rmX5_copyFrom).room := ⟨_, rfl⟩
  rw [← hR]
  have hR1 : R.frames = 2 := by rw [hR]; rfl
  have hR2 : R.locals = 81 := by rw [hR]; rfl
  obtain ⟨Q, hQ⟩ : ∃ Q : State → Prop, Q = MQ below (va_Qv (fun (_ : Unit) => True) (fun _ t => WU X (pk (pk w k2 g0) k f9) t) (xF b0)) args s 0 0 (xF b0) := ⟨_, rfl⟩
  rw [← hQ]
  have hS : va_S (xF b0) s.heap s.heap [] := va_S.rf
  have hl := lv_entry ([.ref (xa X (51*k+4)), .ref (xa X (51*k2+4))]) (n := 2) (Nat.le_of_ble_eq_true rfl)
  refine W.eq ((congrArg (fun z => entryFrame m z 2) ha).trans (lg_entry_eq m _ 2)) ?_
  generalize (lg_sl ([.ref (xa X (51*k+4)), .ref (xa X (51*k2+4))]) ++ List.replicate (2 - (lg_sl ([.ref (xa X (51*k+4)), .ref (xa X (51*k2+4))])).length) Slot.unset).toArray = ls at hl ⊢
  have hl : lv_has ls 2 [(0, .ref (xa X (51*k+4))), (1, .ref (xa X (51*k2+4)))] := hl
  have hk_f14 := hts (.fieldLink RX5 14 "BakeTurns$Places" "doughOn" "LBakeTurns$Row;") (by decide +kernel)
  have hc_29 := (cwV 1 hts gX5_copyFrom_X6_copyFrom rfl rfl rfl (by decide +kernel) ⟨by rw [hR1]; exact Nat.le_of_ble_eq_true rfl, by rw [hR2]; exact Nat.le_of_ble_eq_true rfl⟩ : CallW R s args RX5 RX6 29 yX6_copyFrom cX6_copyFrom 2 none wsX6_copyFrom rmX6_copyFrom 0 0 1)
  have hk_f20 := hts (.fieldLink RX5 20 "BakeTurns$Places" "baked" "LBakeTurns$Row;") (by decide +kernel)
  have hk_f23 := hts (.fieldLink RX5 23 "BakeTurns$Places" "scorched" "LBakeTurns$Row;") (by decide +kernel)
  unfold m5_copyFrom at hf
  refine lv_aload_n hx hb dX5_copyFrom_0 rfl (lv_at hl 1 rfl) ?_
  refine lv_ifnull hx hb dX5_copyFrom_1 ?_
  refine lv_aload_n hx hb dX5_copyFrom_4 rfl (lv_at hl 0 rfl) ?_
  refine st_get (i0 := 4) hx hb hts iX5_copyFrom_X5 hown hP hK hk (by decide) rfl rfl 0 (by decide) hk_f14 rfl dX5_copyFrom_5 ?_
  refine lv_aload_n hx hb dX5_copyFrom_8 rfl (lv_at hl 1 rfl) ?_
  refine st_get (i0 := 4) hx hb hts iX5_copyFrom_X5 hown (HW_comm hne hP) hK hk2 (by decide) rfl rfl 0 (by decide) hk_f14 rfl dX5_copyFrom_9 ?_
  refine st_cpy (j := 19) (n := 12) hX ⟨hx, hb, hml, hown, hts⟩ hP hK hS hk hk2 hne (by decide) rfl hc_29 hl.1 (Nat.le_of_ble_eq_true rfl) dX5_copyFrom_12 (fun f1 ef1 H locs hP hS => ?_)
  replace hf := ltn_s ef1 hf
  refine lv_aload_n hx hb dX5_copyFrom_15 rfl (lv_at hl 0 rfl) ?_
  refine st_get (i0 := 4) hx hb hts iX5_copyFrom_X5 hown hP hK hk (by decide) rfl rfl 1 (by decide) hk_f20 rfl dX5_copyFrom_16 ?_
  refine lv_aload_n hx hb dX5_copyFrom_19 rfl (lv_at hl 1 rfl) ?_
  refine st_get (i0 := 4) hx hb hts iX5_copyFrom_X5 hown (HW_comm hne hP) hK hk2 (by decide) rfl rfl 1 (by decide) hk_f20 rfl dX5_copyFrom_20 ?_
  refine st_cpy (j := 20) (n := 12) hX ⟨hx, hb, hml, hown, hts⟩ hP hK hS hk hk2 hne (by decide) rfl hc_29 hl.1 (Nat.le_of_ble_eq_true rfl) dX5_copyFrom_23 (fun f2 ef2 H locs hP hS => ?_)
  replace hf := ltn_s ef2 hf
  refine lv_aload_n hx hb dX5_copyFrom_26 rfl (lv_at hl 0 rfl) ?_
  refine st_get (i0 := 4) hx hb hts iX5_copyFrom_X5 hown hP hK hk (by decide) rfl rfl 2 (by decide) hk_f23 rfl dX5_copyFrom_27 ?_
  refine lv_aload_n hx hb dX5_copyFrom_30 rfl (lv_at hl 1 rfl) ?_
  refine st_get (i0 := 4) hx hb hts iX5_copyFrom_X5 hown (HW_comm hne hP) hK hk2 (by decide) rfl rfl 2 (by decide) hk_f23 rfl dX5_copyFrom_31 ?_
  refine st_cpy (j := 21) (n := 12) hX ⟨hx, hb, hml, hown, hts⟩ hP hK hS hk hk2 hne (by decide) rfl hc_29 hl.1 (Nat.le_of_ble_eq_true rfl) dX5_copyFrom_34 (fun f3 ef3 H locs hP hS => ?_)
  replace hf := ltn_s ef3 hf
  obtain rfl := hf
  rw [hQ]
  exact w_vret hx hb hr hlocks hP hK hS dX5_copyFrom_37 rfl
abbrev rmX7_copyFrom : Room := { frames := 3, cells := 0, slots := 0, locals := 102 }
theorem iX7_copyFrom_X7 : ∀ w ∈ wsX70, w ∈ wsX7_copyFrom := by decide +kernel
set_option maxHeartbeats 4000000 in
set_option maxRecDepth 100000 in
theorem k7_copyFrom (l : Launch) {X : bkX} {b0 : Nat} (hX : XO X b0) {k k2 : Nat} (hk : k < 6) (hk2 : k2 < 6) (hne : k ≠ k2) (w : bkW) {f0 : bkA} {g0 : bkA} {f9 : bkA} (hf : m7_copyFrom f0 g0 = f9) : cV l yX7_copyFrom wsX7_copyFrom rmX7_copyFrom X b0 [.ref (xa X (51*k+0)), .ref (xa X (51*k2+0))] (pk (pk w k2 g0) k f0) (pk (pk w k2 g0) k g0) := by
  refine Met.ofW (cc := cX7_copyFrom) (maxL := 2) (ret := none) (by decide) rfl ?_
  intro p e s m args below meth c s₁ B hml hv
  obtain ⟨ha, hP, hK⟩ := hv
  have hx := B.exec
  have hb := B.bytes
  have hr := B.returns
  have hts := atoms_spec (ws := wsX7_copyFrom) B.pre
  have hown : s.vm.findClass RX7 = some m.cls := findClass_of_methodNamed B.named
  have hlocks := B.notSynchronized
  obtain ⟨R, hR⟩ : ∃ R, R = (headSpec wsX7_copyFrom rmX7_copyFrom).room := ⟨_, rfl⟩
  rw [← hR]
  have hR1 : R.frames = 3 := by rw [hR]; rfl
  have hR2 : R.locals = 102 := by rw [hR]; rfl
  obtain ⟨Q, hQ⟩ : ∃ Q : State → Prop, Q = MQ below (va_Qv (fun (_ : Unit) => True) (fun _ t => WU X (pk (pk w k2 g0) k g0) t) (xF b0)) args s 0 0 (xF b0) := ⟨_, rfl⟩
  rw [← hQ]
  have hS : va_S (xF b0) s.heap s.heap [] := va_S.rf
  have hl := lv_entry ([.ref (xa X (51*k+0)), .ref (xa X (51*k2+0))]) (n := 2) (Nat.le_of_ble_eq_true rfl)
  refine W.eq ((congrArg (fun z => entryFrame m z 2) ha).trans (lg_entry_eq m _ 2)) ?_
  generalize (lg_sl ([.ref (xa X (51*k+0)), .ref (xa X (51*k2+0))]) ++ List.replicate (2 - (lg_sl ([.ref (xa X (51*k+0)), .ref (xa X (51*k2+0))])).length) Slot.unset).toArray = ls at hl ⊢
  have hl : lv_has ls 2 [(0, .ref (xa X (51*k+0))), (1, .ref (xa X (51*k2+0)))] := hl
  have hk_f12 := hts (.fieldLink RX7 12 "BakeTurns$State" "kinds" "LBakeTurns$Kinds;") (by decide +kernel)
  have hc_48 := (cwV 1 hts gX7_copyFrom_X4_copyFrom rfl rfl rfl (by decide +kernel) ⟨by rw [hR1]; exact Nat.le_of_ble_eq_true rfl, by rw [hR2]; exact Nat.le_of_ble_eq_true rfl⟩ : CallW R s args RX7 RX4 48 yX4_copyFrom cX4_copyFrom 2 none wsX4_copyFrom rmX4_copyFrom 0 0 1)
  have hk_f21 := hts (.fieldLink RX7 21 "BakeTurns$State" "houses" "LBakeTurns$Houses;") (by decide +kernel)
  have hc_52 := (cwV 1 hts gX7_copyFrom_X3_copyFrom rfl rfl rfl (by decide +kernel) ⟨by rw [hR1]; exact Nat.le_of_ble_eq_true rfl, by rw [hR2]; exact Nat.le_of_ble_eq_true rfl⟩ : CallW R s args RX7 RX3 52 yX3_copyFrom cX3_copyFrom 2 none wsX3_copyFrom rmX3_copyFrom 0 0 1)
  have hk_f28 := hts (.fieldLink RX7 28 "BakeTurns$State" "doughs" "LBakeTurns$Doughs;") (by decide +kernel)
  have hc_55 := (cwV 1 hts gX7_copyFrom_X1_copyFrom rfl rfl rfl (by decide +kernel) ⟨by rw [hR1]; exact Nat.le_of_ble_eq_true rfl, by rw [hR2]; exact Nat.le_of_ble_eq_true rfl⟩ : CallW R s args RX7 RX1 55 yX1_copyFrom cX1_copyFrom 2 none wsX1_copyFrom rmX1_copyFrom 0 0 1)
  have hk_f35 := hts (.fieldLink RX7 35 "BakeTurns$State" "places" "LBakeTurns$Places;") (by decide +kernel)
  have hc_58 := (cwV 1 hts gX7_copyFrom_X5_copyFrom rfl rfl rfl (by decide +kernel) ⟨by rw [hR1]; exact Nat.le_of_ble_eq_true rfl, by rw [hR2]; exact Nat.le_of_ble_eq_true rfl⟩ : CallW R s args RX7 RX5 58 yX5_copyFrom cX5_copyFrom 2 none wsX5_copyFrom rmX5_copyFrom 0 0 1)
  have hk_f44 := hts (.fieldLink RX7 44 "BakeTurns$State" "inLine" "LBakeTurns$Row;") (by decide +kernel)
  have hc_61 := (cwV 1 hts gX7_copyFrom_X6_copyFrom rfl rfl rfl (by decide +kernel) ⟨by rw [hR1]; exact Nat.le_of_ble_eq_true rfl, by rw [hR2]; exact Nat.le_of_ble_eq_true rfl⟩ : CallW R s args RX7 RX6 61 yX6_copyFrom cX6_copyFrom 2 none wsX6_copyFrom rmX6_copyFrom 0 0 1)
  have hk_f64 := hts (.fieldLink RX7 64 "BakeTurns$State" "waiting" "I") (by decide +kernel)
  have hk_f68 := hts (.fieldLink RX7 68 "BakeTurns$State" "heat" "I") (by decide +kernel)
  have hk_f71 := hts (.fieldLink RX7 71 "BakeTurns$State" "ticks" "I") (by decide +kernel)
  have hk_f74 := hts (.fieldLink RX7 74 "BakeTurns$State" "unsettled" "I") (by decide +kernel)
  have hk_f77 := hts (.fieldLink RX7 77 "BakeTurns$State" "logsBurnt" "I") (by decide +kernel)
  have hk_f80 := hts (.fieldLink RX7 80 "BakeTurns$State" "logsBrought" "I") (by decide +kernel)
  have hk_f83 := hts (.fieldLink RX7 83 "BakeTurns$State" "openings" "I") (by decide +kernel)
  have hk_f86 := hts (.fieldLink RX7 86 "BakeTurns$State" "loavesDone" "I") (by decide +kernel)
  have hk_f89 := hts (.fieldLink RX7 89 "BakeTurns$State" "spoiledEver" "I") (by decide +kernel)
  have hf0 := hf
  unfold m7_copyFrom at hf
  refine lv_aload_n hx hb dX7_copyFrom_0 rfl (lv_at hl 1 rfl) ?_
  refine lv_ifnull hx hb dX7_copyFrom_1 ?_
  refine lv_aload_n hx hb dX7_copyFrom_4 rfl (lv_at hl 0 rfl) ?_
  refine st_get (i0 := 0) hx hb hts iX7_copyFrom_X7 hown hP hK hk (by decide) rfl rfl 0 (by decide) hk_f12 rfl dX7_copyFrom_5 ?_
  refine lv_aload_n hx hb dX7_copyFrom_8 rfl (lv_at hl 1 rfl) ?_
  refine st_get (i0 := 0) hx hb hts iX7_copyFrom_X7 hown (HW_comm hne hP) hK hk2 (by decide) rfl rfl 0 (by decide) hk_f12 rfl dX7_copyFrom_9 ?_
  obtain ⟨f1, hc2, hf⟩ := lt1_e hf
  refine w_cv ⟨hx, hb, hml, hown, hts⟩ hP hK hS (k4_copyFrom l hX hk hk2 hne w hc2) hc_48 (st_recv (i0 := 1) hP hK hk (by decide) rfl rfl) rfl hl.1 rfl (Nat.le_of_ble_eq_true rfl) dX7_copyFrom_12 ⟨Nat.zero_le _, Nat.zero_le _⟩ (fun H locs hP hS => ?_)
  refine lv_aload_n hx hb dX7_copyFrom_15 rfl (lv_at hl 0 rfl) ?_
  refine st_get (i0 := 0) hx hb hts iX7_copyFrom_X7 hown hP hK hk (by decide) rfl rfl 1 (by decide) hk_f21 rfl dX7_copyFrom_16 ?_
  refine lv_aload_n hx hb dX7_copyFrom_19 rfl (lv_at hl 1 rfl) ?_
  refine st_get (i0 := 0) hx hb hts iX7_copyFrom_X7 hown (HW_comm hne hP) hK hk2 (by decide) rfl rfl 1 (by decide) hk_f21 rfl dX7_copyFrom_20 ?_
  obtain ⟨f3, hc4, hf⟩ := lt1_e hf
  refine w_cv ⟨hx, hb, hml, hown, hts⟩ hP hK hS (k3_copyFrom l hX hk hk2 hne w hc4) hc_52 (st_recv (i0 := 2) hP hK hk (by decide) rfl rfl) rfl hl.1 rfl (Nat.le_of_ble_eq_true rfl) dX7_copyFrom_23 ⟨Nat.zero_le _, Nat.zero_le _⟩ (fun H locs hP hS => ?_)
  refine lv_aload_n hx hb dX7_copyFrom_26 rfl (lv_at hl 0 rfl) ?_
  refine st_get (i0 := 0) hx hb hts iX7_copyFrom_X7 hown hP hK hk (by decide) rfl rfl 2 (by decide) hk_f28 rfl dX7_copyFrom_27 ?_
  refine lv_aload_n hx hb dX7_copyFrom_30 rfl (lv_at hl 1 rfl) ?_
  refine st_get (i0 := 0) hx hb hts iX7_copyFrom_X7 hown (HW_comm hne hP) hK hk2 (by decide) rfl rfl 2 (by decide) hk_f28 rfl dX7_copyFrom_31 ?_
  obtain ⟨f5, hc6, hf⟩ := lt1_e hf
  refine w_cv ⟨hx, hb, hml, hown, hts⟩ hP hK hS (k1_copyFrom l hX hk hk2 hne w hc6) hc_55 (st_recv (i0 := 3) hP hK hk (by decide) rfl rfl) rfl hl.1 rfl (Nat.le_of_ble_eq_true rfl) dX7_copyFrom_34 ⟨Nat.zero_le _, Nat.zero_le _⟩ (fun H locs hP hS => ?_)
  refine lv_aload_n hx hb dX7_copyFrom_37 rfl (lv_at hl 0 rfl) ?_
  refine st_get (i0 := 0) hx hb hts iX7_copyFrom_X7 hown hP hK hk (by decide) rfl rfl 3 (by decide) hk_f35 rfl dX7_copyFrom_38 ?_
  refine lv_aload_n hx hb dX7_copyFrom_41 rfl (lv_at hl 1 rfl) ?_
  refine st_get (i0 := 0) hx hb hts iX7_copyFrom_X7 hown (HW_comm hne hP) hK hk2 (by decide) rfl rfl 3 (by decide) hk_f35 rfl dX7_copyFrom_42 ?_
  obtain ⟨f7, hc8, hf⟩ := lt1_e hf
  refine w_cv ⟨hx, hb, hml, hown, hts⟩ hP hK hS (k5_copyFrom l hX hk hk2 hne w hc8) hc_58 (st_recv (i0 := 4) hP hK hk (by decide) rfl rfl) rfl hl.1 rfl (Nat.le_of_ble_eq_true rfl) dX7_copyFrom_45 ⟨Nat.zero_le _, Nat.zero_le _⟩ (fun H locs hP hS => ?_)
  refine lv_aload_n hx hb dX7_copyFrom_48 rfl (lv_at hl 0 rfl) ?_
  refine st_get (i0 := 0) hx hb hts iX7_copyFrom_X7 hown hP hK hk (by decide) rfl rfl 4 (by decide) hk_f44 rfl dX7_copyFrom_49 ?_
  refine lv_aload_n hx hb dX7_copyFrom_52 rfl (lv_at hl 1 rfl) ?_
  refine st_get (i0 := 0) hx hb hts iX7_copyFrom_X7 hown (HW_comm hne hP) hK hk2 (by decide) rfl rfl 4 (by decide) hk_f44 rfl dX7_copyFrom_53 ?_
  refine st_cpy (j := 22) (n := 16) hX ⟨hx, hb, hml, hown, hts⟩ hP hK hS hk hk2 hne (by decide) rfl hc_61 hl.1 (Nat.le_of_ble_eq_true rfl) dX7_copyFrom_56 (fun f9 ef9 H locs hP hS => ?_)
  replace hf := ltn_s ef9 hf
  refine lv_aload_n hx hb dX7_copyFrom_59 rfl (lv_at hl 0 rfl) ?_
  refine lv_aload_n hx hb dX7_copyFrom_60 rfl (lv_at hl 1 rfl) ?_
  refine st_get (i0 := 0) hx hb hts iX7_copyFrom_X7 hown (HW_comm hne hP) hK hk2 (by decide) rfl rfl 5 (by decide) hk_f64 rfl dX7_copyFrom_61 ?_
  refine st_put (i0 := 0) hx hb hts iX7_copyFrom_X7 tyX7 tyX7_ok nmX7 hown hX hP hK hS hk (by decide) rfl rfl 5 (by decide) hk_f64 rfl rfl (Nat.le_of_ble_eq_true rfl) es_3 dX7_copyFrom_64 (fun f10 ef10 H locs hP hS => ?_)
  replace hf := ltn_s ef10 hf
  refine lv_aload_n hx hb dX7_copyFrom_67 rfl (lv_at hl 0 rfl) ?_
  refine lv_aload_n hx hb dX7_copyFrom_68 rfl (lv_at hl 1 rfl) ?_
  refine st_get (i0 := 0) hx hb hts iX7_copyFrom_X7 hown (HW_comm hne hP) hK hk2 (by decide) rfl rfl 6 (by decide) hk_f68 rfl dX7_copyFrom_69 ?_
  refine st_put (i0 := 0) hx hb hts iX7_copyFrom_X7 tyX7 tyX7_ok nmX7 hown hX hP hK hS hk (by decide) rfl rfl 6 (by decide) hk_f68 rfl rfl (Nat.le_of_ble_eq_true rfl) es_4 dX7_copyFrom_72 (fun f11 ef11 H locs hP hS => ?_)
  replace hf := ltn_s ef11 hf
  refine lv_aload_n hx hb dX7_copyFrom_75 rfl (lv_at hl 0 rfl) ?_
  refine lv_aload_n hx hb dX7_copyFrom_76 rfl (lv_at hl 1 rfl) ?_
  refine st_get (i0 := 0) hx hb hts iX7_copyFrom_X7 hown (HW_comm hne hP) hK hk2 (by decide) rfl rfl 7 (by decide) hk_f71 rfl dX7_copyFrom_77 ?_
  refine st_put (i0 := 0) hx hb hts iX7_copyFrom_X7 tyX7 tyX7_ok nmX7 hown hX hP hK hS hk (by decide) rfl rfl 7 (by decide) hk_f71 rfl rfl (Nat.le_of_ble_eq_true rfl) es_5 dX7_copyFrom_80 (fun f12 ef12 H locs hP hS => ?_)
  replace hf := ltn_s ef12 hf
  refine lv_aload_n hx hb dX7_copyFrom_83 rfl (lv_at hl 0 rfl) ?_
  refine lv_aload_n hx hb dX7_copyFrom_84 rfl (lv_at hl 1 rfl) ?_
  refine st_get (i0 := 0) hx hb hts iX7_copyFrom_X7 hown (HW_comm hne hP) hK hk2 (by decide) rfl rfl 8 (by decide) hk_f74 rfl dX7_copyFrom_85 ?_
  refine st_put (i0 := 0) hx hb hts iX7_copyFrom_X7 tyX7 tyX7_ok nmX7 hown hX hP hK hS hk (by decide) rfl rfl 8 (by decide) hk_f74 rfl rfl (Nat.le_of_ble_eq_true rfl) es_6 dX7_copyFrom_88 (fun f13 ef13 H locs hP hS => ?_)
  replace hf := ltn_s ef13 hf
  refine lv_aload_n hx hb dX7_copyFrom_91 rfl (lv_at hl 0 rfl) ?_
  refine lv_aload_n hx hb dX7_copyFrom_92 rfl (lv_at hl 1 rfl) ?_
  refine st_get (i0 := 0) hx hb hts iX7_copyFrom_X7 hown (HW_comm hne hP) hK hk2 (by decide) rfl rfl 9 (by decide) hk_f77 rfl dX7_copyFrom_93 ?_
  refine st_put (i0 := 0) hx hb hts iX7_copyFrom_X7 tyX7 tyX7_ok nmX7 hown hX hP hK hS hk (by decide) rfl rfl 9 (by decide) hk_f77 rfl rfl (Nat.le_of_ble_eq_true rfl) es_7 dX7_copyFrom_96 (fun f14 ef14 H locs hP hS => ?_)
  replace hf := ltn_s ef14 hf
  refine lv_aload_n hx hb dX7_copyFrom_99 rfl (lv_at hl 0 rfl) ?_
  refine lv_aload_n hx hb dX7_copyFrom_100 rfl (lv_at hl 1 rfl) ?_
  refine st_get (i0 := 0) hx hb hts iX7_copyFrom_X7 hown (HW_comm hne hP) hK hk2 (by decide) rfl rfl 10 (by decide) hk_f80 rfl dX7_copyFrom_101 ?_
  refine st_put (i0 := 0) hx hb hts iX7_copyFrom_X7 tyX7 tyX7_ok nmX7 hown hX hP hK hS hk (by decide) rfl rfl 10 (by decide) hk_f80 rfl rfl (Nat.le_of_ble_eq_true rfl) es_8 dX7_copyFrom_104 (fun f15 ef15 H locs hP hS => ?_)
  replace hf := ltn_s ef15 hf
  refine lv_aload_n hx hb dX7_copyFrom_107 rfl (lv_at hl 0 rfl) ?_
  refine lv_aload_n hx hb dX7_copyFrom_108 rfl (lv_at hl 1 rfl) ?_
  refine st_get (i0 := 0) hx hb hts iX7_copyFrom_X7 hown (HW_comm hne hP) hK hk2 (by decide) rfl rfl 11 (by decide) hk_f83 rfl dX7_copyFrom_109 ?_
  refine st_put (i0 := 0) hx hb hts iX7_copyFrom_X7 tyX7 tyX7_ok nmX7 hown hX hP hK hS hk (by decide) rfl rfl 11 (by decide) hk_f83 rfl rfl (Nat.le_of_ble_eq_true rfl) es_9 dX7_copyFrom_112 (fun f16 ef16 H locs hP hS => ?_)
  replace hf := ltn_s ef16 hf
  refine lv_aload_n hx hb dX7_copyFrom_115 rfl (lv_at hl 0 rfl) ?_
  refine lv_aload_n hx hb dX7_copyFrom_116 rfl (lv_at hl 1 rfl) ?_
  refine st_get (i0 := 0) hx hb hts iX7_copyFrom_X7 hown (HW_comm hne hP) hK hk2 (by decide) rfl rfl 12 (by decide) hk_f86 rfl dX7_copyFrom_117 ?_
  refine st_put (i0 := 0) hx hb hts iX7_copyFrom_X7 tyX7 tyX7_ok nmX7 hown hX hP hK hS hk (by decide) rfl rfl 12 (by decide) hk_f86 rfl rfl (Nat.le_of_ble_eq_true rfl) es_10 dX7_copyFrom_120 (fun f17 ef17 H locs hP hS => ?_)
  replace hf := ltn_s ef17 hf
  refine lv_aload_n hx hb dX7_copyFrom_123 rfl (lv_at hl 0 rfl) ?_
  refine lv_aload_n hx hb dX7_copyFrom_124 rfl (lv_at hl 1 rfl) ?_
  refine st_get (i0 := 0) hx hb hts iX7_copyFrom_X7 hown (HW_comm hne hP) hK hk2 (by decide) rfl rfl 13 (by decide) hk_f89 rfl dX7_copyFrom_125 ?_
  refine st_put (i0 := 0) hx hb hts iX7_copyFrom_X7 tyX7 tyX7_ok nmX7 hown hX hP hK hS hk (by decide) rfl rfl 13 (by decide) hk_f89 rfl rfl (Nat.le_of_ble_eq_true rfl) es_11 dX7_copyFrom_128 (fun f18 ef18 H locs hP hS => ?_)
  replace hf := ltn_s ef18 hf
  obtain rfl := hf
  rw [hQ]
  exact w_vret hx hb hr hlocks (HW_ext hk (cp_rows hf0) (cp_sc hf0) hP) hK hS dX7_copyFrom_131 rfl
