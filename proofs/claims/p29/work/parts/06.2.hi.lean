theorem vp_lt {x : Int32} {n : Nat} (hn : n < 2^31) (h : vp_in x n) : x.toNatClampNeg < n := by
  obtain ⟨j, hj, rfl⟩ := vp_in_of h hn
  rw [nI_clamp (by omega)]
  exact hj
def m2_size (o0 : Nat → Int32) : Int32 :=
  o0 1
def m2_save (f0 : bkA) (y0 : Nat → bkA) (o0 : Nat → Int32) : Option ((Nat → bkA) × (Nat → Int32)) :=
  ck (slx (o0 0) (o0 1)) 4 <|
  lt_ (ur y0 (slx (o0 0) (o0 1)).toNatClampNeg f0) fun y2 =>
  if 4 ≤ (o0 1) then
    lt_ (upd o0 0 (((o0 0) + 1) - ((o0 0) + 1) / 4 * 4)) fun o4 =>
    some (y2, o4)
  else
    lt_ (upd o0 1 ((o0 1) + 1)) fun o5 =>
    some (y2, o5)
def m2_restoreTo (f0 : bkA) (y0 : Nat → bkA) (o0 : Nat → Int32) : Option (bkA × (Nat → Int32)) :=
  if (o0 1) ≤ 0 then
    some (f0, o0)
  else
    lt_ (upd o0 1 ((o0 1) - 1)) fun o2 =>
    ck (slx (o2 0) (o2 1)) 4 <|
    some ((y0 (slx (o2 0) (o2 1)).toNatClampNeg), o2)
def m8_refusalOfValue (a0 : Int32) (a1 : Int32) (a2 : Int32) : Int32 :=
  if a0 = 0 then
    1
  else
    if a1 < 0 then
      2
    else
      if a1 < a2 then
        0
      else
        2
def m8_mixed (a0 : Int64) (a2 : Int32) : Int64 :=
  (31 * a0) + (a2.toInt64)
abbrev rmX2_size : Room := { frames := 0, cells := 0, slots := 0, locals := 0 }
theorem iX2_size_X2 : ∀ w ∈ wsX20, w ∈ wsX2_size := by decide +kernel
set_option maxHeartbeats 4000000 in
set_option maxRecDepth 100000 in
theorem k2_size (l : Launch) {X : bkX} {b0 : Nat} (hX : XO X b0) (w : bkW) {f0 : bkA} {g0 : bkA} {c0 : bkA} {y0 : Nat → bkA} {o0 : Nat → Int32} {res9 : Int32} (hf : m2_size o0 = res9) : cI l yX2_size wsX2_size rmX2_size X b0 [.ref (xa X 307)] (pbt w f0 g0 c0 y0 o0) res9 (pbt w f0 g0 c0 y0 o0) := by
  refine Met.ofW (cc := cX2_size) (maxL := 1) (ret := (some .int)) (by decide) rfl ?_
  intro p e s m args below meth c s₁ B hml hv
  obtain ⟨ha, hP, hK⟩ := hv
  have hx := B.exec
  have hb := B.bytes
  have hr := B.returns
  have hts := atoms_spec (ws := wsX2_size) B.pre
  have hown : s.vm.findClass RX2 = some m.cls := findClass_of_methodNamed B.named
  have hlocks := B.notSynchronized
  obtain ⟨R, hR⟩ : ∃ R, R = (headSpec wsX2_size rmX2_size).room := ⟨_, rfl⟩
  rw [← hR]
  have hR1 : R.frames = 0 := by rw [hR]; rfl
  have hR2 : R.locals = 0 := by rw [hR]; rfl
  obtain ⟨Q, hQ⟩ : ∃ Q : State → Prop, Q = MQ below (va_Qi (fun r' (_ : Unit) => r' = res9) (fun _ t => WU X (pbt w f0 g0 c0 y0 o0) t) (xF b0)) args s 0 0 (xF b0) := ⟨_, rfl⟩
  rw [← hQ]
  have hS : va_S (xF b0) s.heap s.heap [] := va_S.rf
  have hl := lv_entry ([.ref (xa X 307)]) (n := 1) (Nat.le_of_ble_eq_true rfl)
  refine W.eq ((congrArg (fun z => entryFrame m z 1) ha).trans (lg_entry_eq m _ 1)) ?_
  generalize (lg_sl ([.ref (xa X 307)]) ++ List.replicate (1 - (lg_sl ([.ref (xa X 307)])).length) Slot.unset).toArray = ls at hl ⊢
  have hl : lv_has ls 1 [(0, .ref (xa X 307))] := hl
  have hk_f18 := hts (.fieldLink RX2 18 "BakeTurns$History" "count" "I") (by decide +kernel)
  unfold m2_size at hf
  refine lv_aload_n hx hb dX2_size_0 rfl (lv_at hl 0 rfl) ?_
  refine w_get hx hb hts iX2_size_X2 hown hP hK (by decide) emb_hi rfl 2 (by decide) hk_f18 rfl dX2_size_1 ?_
  obtain rfl := hf
  rw [hQ]
  exact w_iret hx hb hr hlocks hP hK hS dX2_size_4 rfl rfl
abbrev rmX2_save : Room := { frames := 4, cells := 0, slots := 0, locals := 123 }
theorem iX2_save_X2 : ∀ w ∈ wsX20, w ∈ wsX2_save := by decide +kernel
set_option maxHeartbeats 4000000 in
set_option maxRecDepth 100000 in
theorem k2_save (l : Launch) {X : bkX} {b0 : Nat} (hX : XO X b0) (w : bkW) {f0 : bkA} {g0 : bkA} {c0 : bkA} {y0 : Nat → bkA} {o0 : Nat → Int32} {y9 : Nat → bkA} {o9 : Nat → Int32} (hf : m2_save f0 y0 o0 = some (y9, o9)) : cV l yX2_save wsX2_save rmX2_save X b0 [.ref (xa X 307), .ref (xa X (51*0+0))] (pbt w f0 g0 c0 y0 o0) (pbt w f0 g0 c0 y9 o9) := by
  refine Met.ofW (cc := cX2_save) (maxL := 3) (ret := none) (by decide) rfl ?_
  intro p e s m args below meth c s₁ B hml hv
  obtain ⟨ha, hP, hK⟩ := hv
  have hx := B.exec
  have hb := B.bytes
  have hr := B.returns
  have hts := atoms_spec (ws := wsX2_save) B.pre
  have hown : s.vm.findClass RX2 = some m.cls := findClass_of_methodNamed B.named
  have hlocks := B.notSynchronized
  obtain ⟨R, hR⟩ : ∃ R, R = (headSpec wsX2_save rmX2_save).room := ⟨_, rfl⟩
  rw [← hR]
  have hR1 : R.frames = 4 := by rw [hR]; rfl
  have hR2 : R.locals = 123 := by rw [hR]; rfl
  obtain ⟨Q, hQ⟩ : ∃ Q : State → Prop, Q = MQ below (va_Qv (fun (_ : Unit) => True) (fun _ t => WU X (pbt w f0 g0 c0 y9 o9) t) (xF b0)) args s 0 0 (xF b0) := ⟨_, rfl⟩
  rw [← hQ]
  have hS : va_S (xF b0) s.heap s.heap [] := va_S.rf
  have hl := lv_entry ([.ref (xa X 307), .ref (xa X (51*0+0))]) (n := 3) (Nat.le_of_ble_eq_true rfl)
  refine W.eq ((congrArg (fun z => entryFrame m z 3) ha).trans (lg_entry_eq m _ 3)) ?_
  generalize (lg_sl ([.ref (xa X 307), .ref (xa X (51*0+0))]) ++ List.replicate (3 - (lg_sl ([.ref (xa X 307), .ref (xa X (51*0+0))])).length) Slot.unset).toArray = ls at hl ⊢
  have hl : lv_has ls 3 [(0, .ref (xa X 307)), (1, .ref (xa X (51*0+0)))] := hl
  have hk_f18 := hts (.fieldLink RX2 18 "BakeTurns$History" "count" "I") (by decide +kernel)
  have hc_22 := (cwV 1 hts gX2_save_X2_slotAt rfl rfl rfl (by decide +kernel) ⟨by rw [hR1]; exact Nat.le_of_ble_eq_true rfl, by rw [hR2]; exact Nat.le_of_ble_eq_true rfl⟩ : CallW R s args RX2 RX2 22 yX2_slotAt cX2_slotAt 3 (some (.object "BakeTurns$State")) wsX2_slotAt rmX2_slotAt 0 0 1)
  have hc_26 := (cwV 1 hts gX2_save_X7_copyFrom rfl rfl rfl (by decide +kernel) ⟨by rw [hR1]; exact Nat.le_of_ble_eq_true rfl, by rw [hR2]; exact Nat.le_of_ble_eq_true rfl⟩ : CallW R s args RX2 RX7 26 yX7_copyFrom cX7_copyFrom 2 none wsX7_copyFrom rmX7_copyFrom 0 0 1)
  have hk_f30 := hts (.fieldLink RX2 30 "BakeTurns$History" "oldest" "I") (by decide +kernel)
  unfold m2_save at hf
  refine lv_aload_n hx hb dX2_save_0 rfl (lv_at hl 0 rfl) ?_
  refine lv_aload_n hx hb dX2_save_1 rfl (lv_at hl 0 rfl) ?_
  refine w_get hx hb hts iX2_save_X2 hown hP hK (by decide) emb_hi rfl 2 (by decide) hk_f18 rfl dX2_save_2 ?_
  obtain ⟨hin1, hf⟩ := ck_e hf
  refine hi_slot hin1 ⟨hx, hb, hml, hown, hts⟩ hP hK hS hc_22 hl.1 (Nat.le_of_ble_eq_true rfl) dX2_save_5 ⟨Nat.zero_le _, Nat.zero_le _⟩ (fun H locs hP hS => ?_)
  refine lv_astore_n (lv' := [(2, .ref (xa X (51*(2+(slx (o0 0) (o0 1)).toNatClampNeg)+0))), (0, .ref (xa X 307)), (1, .ref (xa X (51*0+0)))]) hx hb dX2_save_8 rfl hl (by decide) rfl (fun ls hl => ?_)
  refine lv_aload_n hx hb dX2_save_9 rfl (lv_at hl 0 rfl) ?_
  refine lv_ifnull hx hb dX2_save_10 ?_
  refine lv_aload_n hx hb dX2_save_13 rfl (lv_at hl 0 rfl) ?_
  refine lv_aload_n hx hb dX2_save_14 rfl (lv_at hl 2 rfl) ?_
  refine w_cv ⟨hx, hb, hml, hown, hts⟩ hP hK hS (hi_cpTo l hX (vp_lt (by decide) hin1)) hc_26 (st_recv (i0 := 0) (HW_y (vp_lt (by decide) hin1) hP) hK (slot6 (vp_lt (by decide) hin1)) (by decide) rfl rfl) rfl hl.1 rfl (Nat.le_of_ble_eq_true rfl) dX2_save_15 ⟨Nat.zero_le _, Nat.zero_le _⟩ (fun H locs hP hS => ?_)
  obtain ⟨y2, ey2⟩ : ∃ z, z = ur y0 (slx (o0 0) (o0 1)).toNatClampNeg f0 := ⟨_, rfl⟩
  rw [← ey2] at hP
  replace hf := ltn_s ey2 hf
  refine lv_aload_n hx hb dX2_save_18 rfl (lv_at hl 1 rfl) ?_
  refine w_get hx hb hts iX2_save_X2 hown hP hK (by decide) emb_hi rfl 2 (by decide) hk_f18 rfl dX2_save_19 ?_
  refine lv_iconst (v := 4) hx hb dX2_save_22 (by decide) ?_
  refine lv_icmp_ge (tgt := 39) hx hb dX2_save_23 (by decide) (fun h3 => ?_) (fun h3 => ?_)
  · rw [if_pos h3] at hf
    refine lv_aload_n hx hb dX2_save_39 rfl (lv_at hl 1 rfl) ?_
    refine lv_aload_n hx hb dX2_save_40 rfl (lv_at hl 1 rfl) ?_
    refine w_get hx hb hts iX2_save_X2 hown hP hK (by decide) emb_hi rfl 1 (by decide) hk_f30 rfl dX2_save_41 ?_
    refine lv_iconst (v := 1) hx hb dX2_save_44 (by decide) ?_
    refine lv_iadd hx hb dX2_save_45 ?_
    refine lv_iconst (v := 4) hx hb dX2_save_46 (by decide) ?_
    refine lv_irem hx hb dX2_save_47 (by decide) ?_
    refine hi_put hx hb hts iX2_save_X2 hown hX hP hK hS 1 (by decide) hk_f30 rfl rfl (Nat.le_of_ble_eq_true rfl) (hi_es0 _) dX2_save_48 (fun o4 eo4 H locs hP hS => ?_)
    replace hf := ltn_s eo4 hf
    have hf := Option.some.inj hf
    simp only [Prod.mk.injEq] at hf
    obtain ⟨rfl, rfl⟩ := hf
    rw [hQ]
    exact w_vret hx hb hr hlocks hP hK hS dX2_save_51 rfl
  · rw [if_neg h3] at hf
    refine lv_aload_n hx hb dX2_save_26 rfl (lv_at hl 1 rfl) ?_
    refine lv_dup hx hb dX2_save_27 rfl ?_
    refine w_get hx hb hts iX2_save_X2 hown hP hK (by decide) emb_hi rfl 2 (by decide) hk_f18 rfl dX2_save_28 ?_
    refine lv_iconst (v := 1) hx hb dX2_save_31 (by decide) ?_
    refine lv_iadd hx hb dX2_save_32 ?_
    refine hi_put hx hb hts iX2_save_X2 hown hX hP hK hS 2 (by decide) hk_f18 rfl rfl (Nat.le_of_ble_eq_true rfl) (hi_es1 _) dX2_save_33 (fun o5 eo5 H locs hP hS => ?_)
    replace hf := ltn_s eo5 hf
    refine lv_goto (tgt := 51) hx hb dX2_save_36 (by decide) ?_
    have hf := Option.some.inj hf
    simp only [Prod.mk.injEq] at hf
    obtain ⟨rfl, rfl⟩ := hf
    rw [hQ]
    exact w_vret hx hb hr hlocks hP hK hS dX2_save_51 rfl
abbrev rmX2_restoreTo : Room := { frames := 4, cells := 0, slots := 0, locals := 123 }
theorem iX2_restoreTo_X2 : ∀ w ∈ wsX20, w ∈ wsX2_restoreTo := by decide +kernel
set_option maxHeartbeats 4000000 in
set_option maxRecDepth 100000 in
theorem k2_restoreTo (l : Launch) {X : bkX} {b0 : Nat} (hX : XO X b0) (w : bkW) {f0 : bkA} {g0 : bkA} {c0 : bkA} {y0 : Nat → bkA} {o0 : Nat → Int32} {f9 : bkA} {o9 : Nat → Int32} (hf : m2_restoreTo f0 y0 o0 = some (f9, o9)) : cV l yX2_restoreTo wsX2_restoreTo rmX2_restoreTo X b0 [.ref (xa X 307), .ref (xa X (51*0+0))] (pbt w f0 g0 c0 y0 o0) (pbt w f9 g0 c0 y0 o9) := by
  refine Met.ofW (cc := cX2_restoreTo) (maxL := 2) (ret := none) (by decide) rfl ?_
  intro p e s m args below meth c s₁ B hml hv
  obtain ⟨ha, hP, hK⟩ := hv
  have hx := B.exec
  have hb := B.bytes
  have hr := B.returns
  have hts := atoms_spec (ws := wsX2_restoreTo) B.pre
  have hown : s.vm.findClass RX2 = some m.cls := findClass_of_methodNamed B.named
  have hlocks := B.notSynchronized
  obtain ⟨R, hR⟩ : ∃ R, R = (headSpec wsX2_restoreTo rmX2_restoreTo).room := ⟨_, rfl⟩
  rw [← hR]
  have hR1 : R.frames = 4 := by rw [hR]; rfl
  have hR2 : R.locals = 123 := by rw [hR]; rfl
  obtain ⟨Q, hQ⟩ : ∃ Q : State → Prop, Q = MQ below (va_Qv (fun (_ : Unit) => True) (fun _ t => WU X (pbt w f9 g0 c0 y0 o9) t) (xF b0)) args s 0 0 (xF b0) := ⟨_, rfl⟩
  rw [← hQ]
  have hS : va_S (xF b0) s.heap s.heap [] := va_S.rf
  have hl := lv_entry ([.ref (xa X 307), .ref (xa X (51*0+0))]) (n := 2) (Nat.le_of_ble_eq_true rfl)
  refine W.eq ((congrArg (fun z => entryFrame m z 2) ha).trans (lg_entry_eq m _ 2)) ?_
  generalize (lg_sl ([.ref (xa X 307), .ref (xa X (51*0+0))]) ++ List.replicate (2 - (lg_sl ([.ref (xa X 307), .ref (xa X (51*0+0))])).length) Slot.unset).toArray = ls at hl ⊢
  have hl : lv_has ls 2 [(0, .ref (xa X 307)), (1, .ref (xa X (51*0+0)))] := hl
  have hk_f18 := hts (.fieldLink RX2 18 "BakeTurns$History" "count" "I") (by decide +kernel)
  have hc_22 := (cwV 1 hts gX2_restoreTo_X2_slotAt rfl rfl rfl (by decide +kernel) ⟨by rw [hR1]; exact Nat.le_of_ble_eq_true rfl, by rw [hR2]; exact Nat.le_of_ble_eq_true rfl⟩ : CallW R s args RX2 RX2 22 yX2_slotAt cX2_slotAt 3 (some (.object "BakeTurns$State")) wsX2_slotAt rmX2_slotAt 0 0 1)
  have hc_26 := (cwV 1 hts gX2_restoreTo_X7_copyFrom rfl rfl rfl (by decide +kernel) ⟨by rw [hR1]; exact Nat.le_of_ble_eq_true rfl, by rw [hR2]; exact Nat.le_of_ble_eq_true rfl⟩ : CallW R s args RX2 RX7 26 yX7_copyFrom cX7_copyFrom 2 none wsX7_copyFrom rmX7_copyFrom 0 0 1)
  unfold m2_restoreTo at hf
  refine lv_aload_n hx hb dX2_restoreTo_0 rfl (lv_at hl 0 rfl) ?_
  refine w_get hx hb hts iX2_restoreTo_X2 hown hP hK (by decide) emb_hi rfl 2 (by decide) hk_f18 rfl dX2_restoreTo_1 ?_
  refine lv_if_le (tgt := 33) hx hb dX2_restoreTo_4 (by decide) (fun h1 => ?_) (fun h1 => ?_)
  · rw [if_pos h1] at hf
    have hf := Option.some.inj hf
    simp only [Prod.mk.injEq] at hf
    obtain ⟨rfl, rfl⟩ := hf
    rw [hQ]
    exact w_vret hx hb hr hlocks hP hK hS dX2_restoreTo_33 rfl
  · rw [if_neg h1] at hf
    refine lv_aload_n hx hb dX2_restoreTo_7 rfl (lv_at hl 1 rfl) ?_
    refine lv_ifnull hx hb dX2_restoreTo_8 ?_
    refine lv_aload_n hx hb dX2_restoreTo_11 rfl (lv_at hl 0 rfl) ?_
    refine lv_dup hx hb dX2_restoreTo_12 rfl ?_
    refine w_get hx hb hts iX2_restoreTo_X2 hown hP hK (by decide) emb_hi rfl 2 (by decide) hk_f18 rfl dX2_restoreTo_13 ?_
    refine lv_iconst (v := 1) hx hb dX2_restoreTo_16 (by decide) ?_
    refine lv_isub hx hb dX2_restoreTo_17 ?_
    refine hi_put hx hb hts iX2_restoreTo_X2 hown hX hP hK hS 2 (by decide) hk_f18 rfl rfl (Nat.le_of_ble_eq_true rfl) (hi_es1 _) dX2_restoreTo_18 (fun o2 eo2 H locs hP hS => ?_)
    replace hf := ltn_s eo2 hf
    refine lv_aload_n hx hb dX2_restoreTo_21 rfl (lv_at hl 1 rfl) ?_
    refine lv_aload_n hx hb dX2_restoreTo_22 rfl (lv_at hl 0 rfl) ?_
    refine lv_aload_n hx hb dX2_restoreTo_23 rfl (lv_at hl 0 rfl) ?_
    refine w_get hx hb hts iX2_restoreTo_X2 hown hP hK (by decide) emb_hi rfl 2 (by decide) hk_f18 rfl dX2_restoreTo_24 ?_
    obtain ⟨hin3, hf⟩ := ck_e hf
    refine hi_slot hin3 ⟨hx, hb, hml, hown, hts⟩ hP hK hS hc_22 hl.1 (Nat.le_of_ble_eq_true rfl) dX2_restoreTo_27 ⟨Nat.zero_le _, Nat.zero_le _⟩ (fun H locs hP hS => ?_)
    refine w_cv ⟨hx, hb, hml, hown, hts⟩ hP hK hS (hi_cpFrom l hX (vp_lt (by decide) hin3)) hc_26 (st_recv (k := 0) (i0 := 0) (HW_f hP) hK (by decide) (by decide) rfl rfl) rfl hl.1 rfl (Nat.le_of_ble_eq_true rfl) dX2_restoreTo_30 ⟨Nat.zero_le _, Nat.zero_le _⟩ (fun H locs hP hS => ?_)
    have hf := Option.some.inj hf
    simp only [Prod.mk.injEq] at hf
    obtain ⟨rfl, rfl⟩ := hf
    rw [hQ]
    exact w_vret hx hb hr hlocks hP hK hS dX2_restoreTo_33 rfl
abbrev rmX8_refusalOfValue : Room := { frames := 0, cells := 0, slots := 0, locals := 0 }
set_option maxHeartbeats 4000000 in
set_option maxRecDepth 100000 in
theorem k8_refusalOfValue (l : Launch) {X : bkX} {b0 : Nat} (hX : XO X b0) (w : bkW) {a0 : Int32} {a1 : Int32} {a2 : Int32} {res9 : Int32} (hf : m8_refusalOfValue a0 a1 a2 = res9) : cI l yX8_refusalOfValue wsX8_refusalOfValue rmX8_refusalOfValue X b0 [.int a0, .int a1, .int a2] w res9 w := by
  refine Met.ofW (cc := cX8_refusalOfValue) (maxL := 3) (ret := (some .int)) (by decide) rfl ?_
  intro p e s m args below meth c s₁ B hml hv
  obtain ⟨ha, hP, hK⟩ := hv
  have hx := B.exec
  have hb := B.bytes
  have hr := B.returns
  have hts := atoms_spec (ws := wsX8_refusalOfValue) B.pre
  have hown : s.vm.findClass RX8 = some m.cls := findClass_of_methodNamed B.named
  have hlocks := B.notSynchronized
  obtain ⟨R, hR⟩ : ∃ R, R = (headSpec wsX8_refusalOfValue rmX8_refusalOfValue).room := ⟨_, rfl⟩
  rw [← hR]
  have hR1 : R.frames = 0 := by rw [hR]; rfl
  have hR2 : R.locals = 0 := by rw [hR]; rfl
  obtain ⟨Q, hQ⟩ : ∃ Q : State → Prop, Q = MQ below (va_Qi (fun r' (_ : Unit) => r' = res9) (fun _ t => WU X w t) (xF b0)) args s 0 0 (xF b0) := ⟨_, rfl⟩
  rw [← hQ]
  have hS : va_S (xF b0) s.heap s.heap [] := va_S.rf
  have hl := lv_entry ([.int a0, .int a1, .int a2]) (n := 3) (Nat.le_of_ble_eq_true rfl)
  refine W.eq ((congrArg (fun z => entryFrame m z 3) ha).trans (lg_entry_eq m _ 3)) ?_
  generalize (lg_sl ([.int a0, .int a1, .int a2]) ++ List.replicate (3 - (lg_sl ([.int a0, .int a1, .int a2])).length) Slot.unset).toArray = ls at hl ⊢
  have hl : lv_has ls 3 [(0, .int a0), (1, .int a1), (2, .int a2)] := hl
  unfold m8_refusalOfValue at hf
  refine lv_iload_n hx hb dX8_refusalOfValue_0 rfl (lv_at hl 0 rfl) ?_
  refine lv_if_ne (tgt := 6) hx hb dX8_refusalOfValue_1 (by decide) (fun h1 => ?_) (fun h1 => ?_)
  · rw [if_neg h1] at hf
    refine lv_iload_n hx hb dX8_refusalOfValue_6 rfl (lv_at hl 1 rfl) ?_
    refine lv_if_lt (tgt := 15) hx hb dX8_refusalOfValue_7 (by decide) (fun h2 => ?_) (fun h2 => ?_)
    · rw [if_pos h2] at hf
      refine lv_iconst (v := 2) hx hb dX8_refusalOfValue_15 (by decide) ?_
      refine lv_goto (tgt := 20) hx hb dX8_refusalOfValue_16 (by decide) ?_
      obtain rfl := hf
      rw [hQ]
      exact w_iret hx hb hr hlocks hP hK hS dX8_refusalOfValue_20 rfl rfl
    · rw [if_neg h2] at hf
      refine lv_iload_n hx hb dX8_refusalOfValue_10 rfl (lv_at hl 1 rfl) ?_
      refine lv_iload_n hx hb dX8_refusalOfValue_11 rfl (lv_at hl 2 rfl) ?_
      refine lv_icmp_lt (tgt := 19) hx hb dX8_refusalOfValue_12 (by decide) (fun h3 => ?_) (fun h3 => ?_)
      · rw [if_pos h3] at hf
        refine lv_iconst (v := 0) hx hb dX8_refusalOfValue_19 (by decide) ?_
        obtain rfl := hf
        rw [hQ]
        exact w_iret hx hb hr hlocks hP hK hS dX8_refusalOfValue_20 rfl rfl
      · rw [if_neg h3] at hf
        refine lv_iconst (v := 2) hx hb dX8_refusalOfValue_15 (by decide) ?_
        refine lv_goto (tgt := 20) hx hb dX8_refusalOfValue_16 (by decide) ?_
        obtain rfl := hf
        rw [hQ]
        exact w_iret hx hb hr hlocks hP hK hS dX8_refusalOfValue_20 rfl rfl
  · rw [if_pos h1] at hf
    refine lv_iconst (v := 1) hx hb dX8_refusalOfValue_4 (by decide) ?_
    obtain rfl := hf
    rw [hQ]
    exact w_iret hx hb hr hlocks hP hK hS dX8_refusalOfValue_5 rfl rfl
abbrev rmX8_mixed : Room := { frames := 0, cells := 0, slots := 0, locals := 0 }
set_option maxHeartbeats 4000000 in
set_option maxRecDepth 100000 in
theorem k8_mixed (l : Launch) {X : bkX} {b0 : Nat} (hX : XO X b0) (w : bkW) {a0 : Int64} {a2 : Int32} {res9 : Int64} (hf : m8_mixed a0 a2 = res9) : cJ l yX8_mixed wsX8_mixed rmX8_mixed X b0 [.long a0, .int a2] w res9 w := by
  refine Met.ofW (cc := cX8_mixed) (maxL := 3) (ret := (some .long)) (by decide) rfl ?_
  intro p e s m args below meth c s₁ B hml hv
  obtain ⟨ha, hP, hK⟩ := hv
  have hx := B.exec
  have hb := B.bytes
  have hr := B.returns
  have hts := atoms_spec (ws := wsX8_mixed) B.pre
  have hown : s.vm.findClass RX8 = some m.cls := findClass_of_methodNamed B.named
  have hlocks := B.notSynchronized
  obtain ⟨R, hR⟩ : ∃ R, R = (headSpec wsX8_mixed rmX8_mixed).room := ⟨_, rfl⟩
  rw [← hR]
  have hR1 : R.frames = 0 := by rw [hR]; rfl
  have hR2 : R.locals = 0 := by rw [hR]; rfl
  obtain ⟨Q, hQ⟩ : ∃ Q : State → Prop, Q = MQ below (va_Ql (fun r' (_ : Unit) => r' = res9) (fun _ t => WU X w t) (xF b0)) args s 0 0 (xF b0) := ⟨_, rfl⟩
  rw [← hQ]
  have hS : va_S (xF b0) s.heap s.heap [] := va_S.rf
  have hl := lv_entry ([.long a0, .int a2]) (n := 3) (Nat.le_of_ble_eq_true rfl)
  refine W.eq ((congrArg (fun z => entryFrame m z 3) ha).trans (lg_entry_eq m _ 3)) ?_
  generalize (lg_sl ([.long a0, .int a2]) ++ List.replicate (3 - (lg_sl ([.long a0, .int a2])).length) Slot.unset).toArray = ls at hl ⊢
  have hl : lv_has ls 3 [(0, .long a0), (2, .int a2)] := hl
  have hk_c224 := hts (.constantLong RX8 224 31) (by decide +kernel)
  unfold m8_mixed at hf
  refine lv_ldc2 (v := 31) hx hb hown hk_c224 dX8_mixed_0 ?_
  refine lv_lload_n hx hb dX8_mixed_3 rfl (lv_at hl 0 rfl) ?_
  refine lv_lmul hx hb dX8_mixed_4 ?_
  refine lv_iload_n hx hb dX8_mixed_5 rfl (lv_at hl 1 rfl) ?_
  refine lv_i2l hx hb dX8_mixed_6 rfl ?_
  refine lv_ladd hx hb dX8_mixed_7 ?_
  obtain rfl := hf
  rw [hQ]
  exact w_lret hx hb hr hlocks hP hK hS dX8_mixed_8 rfl rfl
