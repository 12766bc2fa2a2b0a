def m8_clearDoughs (N : Nat) (f0 : bkA) (y0 : Nat → bkA) (o0 : Nat → Int32) : Option (Int32 × bkA × (Nat → bkA) × (Nat → Int32)) :=
  ob2 (m2_save f0 y0 o0) fun y1 o2 =>
  ob2 (m7_clearAway N f0) fun x4 f5 =>
  some (x4, f5, y1, o2)
def m8_settle (N : Nat) (f0 : bkA) (y0 : Nat → bkA) (o0 : Nat → Int32) : Option (Int32 × bkA × (Nat → bkA) × (Nat → Int32)) :=
  ob2 (m2_save f0 y0 o0) fun y1 o2 =>
  ob2 (m7_settleLogs N f0) fun x4 f5 =>
  some (x4, f5, y1, o2)
def m8_valueOfWhole (N : Nat) (f0 : bkA) (c0 : bkA) (a1 : Int32) : Option (Int32) :=
  if a1 = 14 then
    lt1 (m0_length c0) fun x4 =>
    some x4
  else
    ob1 (m7_valueOfWholeHouse N f0 a1) fun x2 =>
    some x2
def m8_heatAfter (N : Nat) (f0 : bkA) (g0 : bkA) (a1 : Int32) : Option (Int32 × bkA) :=
  ob2 (m7_passTicks N f0 a1) fun x1 g2 =>
  some (g2 23 4, g2)
def m8_mixedKinds_L23 (N : Nat) : Nat → (Int64) → (Int32) → (Int32) → (bkA) → Option (Int64)
  | 0, _, _, _, _ => none
  | n+1, x7, x8, x9, f0 =>
    if 5 ≤ x9 then
      some x7
    else
      lt1 (m7_valueOfKind f0 x8 x9) fun x12 =>
      lt1 (m8_mixed x7 x12) fun x14 =>
      lt_ (x9 + 1) fun x16 =>
      m8_mixedKinds_L23 N n x14 x8 x16 f0
def m8_mixedKinds_L5 (N : Nat) : Nat → (Int64) → (Int32) → (bkA) → Option (Int64)
  | 0, _, _, _ => none
  | n+1, x2, x3, f0 =>
    if (f0 23 0) ≤ x3 then
      some x2
    else
      ob1 (m8_mixedKinds_L23 N N x2 x3 0 f0) fun x17 =>
      lt_ (x3 + 1) fun x19 =>
      m8_mixedKinds_L5 N n x17 x19 f0
def m8_mixedKinds (N : Nat) (f0 : bkA) (a1 : Int64) : Option (Int64) :=
  ob1 (m8_mixedKinds_L5 N N a1 0 f0) fun x20 =>
  some x20
def m8_mixedHouses_L23 (N : Nat) : Nat → (Int64) → (Int32) → (Int32) → (bkA) → Option (Int64)
  | 0, _, _, _, _ => none
  | n+1, x7, x8, x9, f0 =>
    if 7 ≤ x9 then
      some x7
    else
      ob1 (m7_valueOfHouse N f0 x8 x9) fun x12 =>
      lt1 (m8_mixed x7 x12) fun x14 =>
      lt_ (x9 + 1) fun x16 =>
      m8_mixedHouses_L23 N n x14 x8 x16 f0
def m8_mixedHouses_L5 (N : Nat) : Nat → (Int64) → (Int32) → (bkA) → Option (Int64)
  | 0, _, _, _ => none
  | n+1, x2, x3, f0 =>
    if (f0 23 1) ≤ x3 then
      some x2
    else
      ob1 (m8_mixedHouses_L23 N N x2 x3 0 f0) fun x17 =>
      ob1 (m7_owedBy N f0 x3) fun x19 =>
      lt1 (m8_mixed x17 x19) fun x21 =>
      lt_ (x3 + 1) fun x23 =>
      m8_mixedHouses_L5 N n x21 x23 f0
def m8_mixedHouses (N : Nat) (f0 : bkA) (a1 : Int64) : Option (Int64) :=
  ob1 (m8_mixedHouses_L5 N N a1 0 f0) fun x24 =>
  some x24
def m8_mixedDoughs_L23 (N : Nat) : Nat → (Int64) → (Int32) → (Int32) → (bkA) → Option (Int64)
  | 0, _, _, _, _ => none
  | n+1, x7, x8, x9, f0 =>
    if 10 ≤ x9 then
      some x7
    else
      ob1 (m7_valueOfDough N f0 x8 x9) fun x12 =>
      lt1 (m8_mixed x7 x12) fun x14 =>
      lt_ (x9 + 1) fun x16 =>
      m8_mixedDoughs_L23 N n x14 x8 x16 f0
def m8_mixedDoughs_L5 (N : Nat) : Nat → (Int64) → (Int32) → (bkA) → Option (Int64)
  | 0, _, _, _ => none
  | n+1, x2, x3, f0 =>
    if (f0 23 2) ≤ x3 then
      some x2
    else
      ob1 (m8_mixedDoughs_L23 N N x2 x3 0 f0) fun x17 =>
      ob1 (m7_reasonNow N f0 x3) fun x19 =>
      lt1 (m8_mixed x17 x19) fun x21 =>
      lt_ (x3 + 1) fun x23 =>
      m8_mixedDoughs_L5 N n x21 x23 f0
def m8_mixedDoughs (N : Nat) (f0 : bkA) (a1 : Int64) : Option (Int64) :=
  ob1 (m8_mixedDoughs_L5 N N a1 0 f0) fun x24 =>
  some x24
def m8_mixedPlaces_L15 (N : Nat) : Nat → (Int64) → (Int32) → (Int32) → (bkA) → Option (Int64)
  | 0, _, _, _, _ => none
  | n+1, x7, x8, x9, f0 =>
    if 4 ≤ x9 then
      some x7
    else
      lt1 (m7_valueOfPlace f0 x8 x9) fun x12 =>
      lt1 (m8_mixed x7 x12) fun x14 =>
      lt_ (x9 + 1) fun x16 =>
      m8_mixedPlaces_L15 N n x14 x8 x16 f0
def m8_mixedPlaces_L5 (N : Nat) : Nat → (Int64) → (Int32) → (bkA) → Option (Int64)
  | 0, _, _, _ => none
  | n+1, x2, x3, f0 =>
    if 12 ≤ x3 then
      some x2
    else
      ob1 (m8_mixedPlaces_L15 N N x2 x3 0 f0) fun x17 =>
      lt_ (x3 + 1) fun x19 =>
      m8_mixedPlaces_L5 N n x17 x19 f0
def m8_mixedPlaces_L52 (N : Nat) : Nat → (Int64) → (Int32) → (bkA) → Option (Int64)
  | 0, _, _, _ => none
  | n+1, x23, x24, f0 =>
    if (f0 23 3) ≤ x24 then
      some x23
    else
      lt1 (m7_doughInLine f0 x24) fun x27 =>
      lt1 (m8_mixed x23 x27) fun x29 =>
      lt_ (x24 + 1) fun x31 =>
      m8_mixedPlaces_L52 N n x29 x31 f0
def m8_mixedPlaces (N : Nat) (f0 : bkA) (a1 : Int64) : Option (Int64) :=
  ob1 (m8_mixedPlaces_L5 N N a1 0 f0) fun x20 =>
  ob1 (m8_mixedPlaces_L52 N N x20 0 f0) fun x32 =>
  some x32
def m8_digest_L16 (N : Nat) : Nat → (Int64) → (Int32) → (bkA) → (bkA) → Option (Int64)
  | 0, _, _, _, _ => none
  | n+1, x6, x7, f0, c0 =>
    if 15 ≤ x7 then
      some x6
    else
      ob1 (m8_valueOfWhole N f0 c0 x7) fun x10 =>
      lt1 (m8_mixed x6 x10) fun x12 =>
      lt_ (x7 + 1) fun x14 =>
      m8_digest_L16 N n x12 x14 f0 c0
def m8_digest (N : Nat) (f0 : bkA) (g0 : bkA) (c0 : bkA) (o0 : Nat → Int32) : Option (Int64 × bkA) :=
  lt1 (m2_size o0) fun x1 =>
  lt1 (m8_mixed 43350 x1) fun x3 =>
  ob1 (m8_digest_L16 N N x3 0 f0 c0) fun x15 =>
  ob1 (m8_mixedKinds N f0 x15) fun x17 =>
  ob1 (m8_mixedHouses N f0 x17) fun x19 =>
  ob1 (m8_mixedDoughs N f0 x19) fun x21 =>
  ob1 (m8_mixedPlaces N f0 x21) fun x23 =>
  ob2 (m8_heatAfter N f0 g0 10) fun x25 g26 =>
  lt1 (m8_mixed x23 x25) fun x28 =>
  some (x28, g26)
abbrev rmX8_clearDoughs : Room := { frames := 5, cells := 0, slots := 0, locals := 145 }
theorem iX8_clearDoughs_X8 : ∀ w ∈ wsX80, w ∈ wsX8_clearDoughs := by decide +kernel
set_option maxHeartbeats 4000000 in
set_option maxRecDepth 100000 in
theorem k8_clearDoughs (l : Launch) {X : bkX} {b0 : Nat} (hX : XO X b0) (w : bkW) {N : Nat} {f0 : bkA} {g0 : bkA} {c0 : bkA} {y0 : Nat → bkA} {o0 : Nat → Int32} {res9 : Int32} {f9 : bkA} {y9 : Nat → bkA} {o9 : Nat → Int32} (hf : m8_clearDoughs N f0 y0 o0 = some (res9, f9, y9, o9)) : cI l yX8_clearDoughs wsX8_clearDoughs rmX8_clearDoughs X b0 [.ref (xa X 306)] (pbt w f0 g0 c0 y0 o0) res9 (pbt w f9 g0 c0 y9 o9) := by
  refine Met.ofW (cc := cX8_clearDoughs) (maxL := 1) (ret := (some .int)) (by decide) rfl ?_
  intro p e s m args below meth c s₁ B hml hv
  obtain ⟨ha, hP, hK⟩ := hv
  have hx := B.exec
  have hb := B.bytes
  have hr := B.returns
  have hts := atoms_spec (ws := wsX8_clearDoughs) B.pre
  have hown : s.vm.findClass RX8 = some m.cls := findClass_of_methodNamed B.named
  have hlocks := B.notSynchronized
  obtain ⟨R, hR⟩ : ∃ R, R = (headSpec wsX8_clearDoughs rmX8_clearDoughs).room := ⟨_, rfl⟩
  rw [← hR]
  have hR1 : R.frames = 5 := by rw [hR]; rfl
  have hR2 : R.locals = 145 := by rw [hR]; rfl
  obtain ⟨Q, hQ⟩ : ∃ Q : State → Prop, Q = MQ below (va_Qi (fun r' (_ : Unit) => r' = res9) (fun _ t => WU X (pbt w f9 g0 c0 y9 o9) t) (xF b0)) args s 0 0 (xF b0) := ⟨_, rfl⟩
  rw [← hQ]
  have hS : va_S (xF b0) s.heap s.heap [] := va_S.rf
  have hl := lv_entry ([.ref (xa X 306)]) (n := 1) (Nat.le_of_ble_eq_true rfl)
  refine W.eq ((congrArg (fun z => entryFrame m z 1) ha).trans (lg_entry_eq m _ 1)) ?_
  generalize (lg_sl ([.ref (xa X 306)]) ++ List.replicate (1 - (lg_sl ([.ref (xa X 306)])).length) Slot.unset).toArray = ls at hl ⊢
  have hl : lv_has ls 1 [(0, .ref (xa X 306))] := hl
  have hk_f22 := hts (.fieldLink RX8 22 "BakeTurns" "history" "LBakeTurns$History;") (by decide +kernel)
  have hk_f10 := hts (.fieldLink RX8 10 "BakeTurns" "now" "LBakeTurns$State;") (by decide +kernel)
  have hc_41 := (cwV 1 hts gX8_clearDoughs_X2_save rfl rfl rfl (by decide +kernel) ⟨by rw [hR1]; exact Nat.le_of_ble_eq_true rfl, by rw [hR2]; exact Nat.le_of_ble_eq_true rfl⟩ : CallW R s args RX8 RX2 41 yX2_save cX2_save 3 none wsX2_save rmX2_save 0 0 1)
  have hc_62 := (cwV 0 hts gX8_clearDoughs_X7_clearAway rfl rfl rfl (by decide +kernel) ⟨by rw [hR1]; exact Nat.le_of_ble_eq_true rfl, by rw [hR2]; exact Nat.le_of_ble_eq_true rfl⟩ : CallW R s args RX8 RX7 62 yX7_clearAway cX7_clearAway 5 (some .int) wsX7_clearAway rmX7_clearAway 0 0 0)
  unfold m8_clearDoughs at hf
  refine lv_aload_n hx hb dX8_clearDoughs_0 rfl (lv_at hl 0 rfl) ?_
  refine w_get hx hb hts iX8_clearDoughs_X8 hown hP hK (by decide) emb_bt rfl 2 (by decide) hk_f22 rfl dX8_clearDoughs_1 ?_
  refine lv_aload_n hx hb dX8_clearDoughs_4 rfl (lv_at hl 0 rfl) ?_
  refine w_get hx hb hts iX8_clearDoughs_X8 hown hP hK (by decide) emb_bt rfl 0 (by decide) hk_f10 rfl dX8_clearDoughs_5 ?_
  obtain ⟨y1, o2, hc3, hf⟩ := ob2_e hf
  refine w_cv ⟨hx, hb, hml, hown, hts⟩ hP hK hS (k2_save l hX w hc3) hc_41 (w_recv hP hK (by decide) emb_hi rfl) rfl hl.1 rfl (Nat.le_of_ble_eq_true rfl) dX8_clearDoughs_8 ⟨Nat.zero_le _, Nat.zero_le _⟩ (fun H locs hP hS => ?_)
  refine lv_aload_n hx hb dX8_clearDoughs_11 rfl (lv_at hl 0 rfl) ?_
  refine w_get hx hb hts iX8_clearDoughs_X8 hown hP hK (by decide) emb_bt rfl 0 (by decide) hk_f10 rfl dX8_clearDoughs_12 ?_
  obtain ⟨x4, f5, hc6, hf⟩ := ob2_e hf
  refine w_ci ⟨hx, hb, hml, hown, hts⟩ hP hK hS (by have hM := k7_clearAway l hX (k := 0) (by decide) (pbt w f0 g0 c0 y1 o2) hc6; simp only [pbt_f] at hM; exact hM) hc_62 (st_recv (k := 0) (i0 := 0) (HW_f hP) hK (by decide) (by decide) rfl rfl) rfl hl.1 rfl (Nat.le_of_ble_eq_true rfl) dX8_clearDoughs_15 ⟨Nat.zero_le _, Nat.zero_le _⟩ (fun H locs hP hS => ?_)
  have hf := Option.some.inj hf
  simp only [Prod.mk.injEq] at hf
  obtain ⟨rfl, rfl, rfl, rfl⟩ := hf
  rw [hQ]
  exact w_iret hx hb hr hlocks hP hK hS dX8_clearDoughs_18 rfl rfl
abbrev rmX8_settle : Room := { frames := 5, cells := 0, slots := 0, locals := 145 }
theorem iX8_settle_X8 : ∀ w ∈ wsX80, w ∈ wsX8_settle := by decide +kernel
set_option maxHeartbeats 4000000 in
set_option maxRecDepth 100000 in
theorem k8_settle (l : Launch) {X : bkX} {b0 : Nat} (hX : XO X b0) (w : bkW) {N : Nat} {f0 : bkA} {g0 : bkA} {c0 : bkA} {y0 : Nat → bkA} {o0 : Nat → Int32} {res9 : Int32} {f9 : bkA} {y9 : Nat → bkA} {o9 : Nat → Int32} (hf : m8_settle N f0 y0 o0 = some (res9, f9, y9, o9)) : cI l yX8_settle wsX8_settle rmX8_settle X b0 [.ref (xa X 306)] (pbt w f0 g0 c0 y0 o0) res9 (pbt w f9 g0 c0 y9 o9) := by
  refine Met.ofW (cc := cX8_settle) (maxL := 1) (ret := (some .int)) (by decide) rfl ?_
  intro p e s m args below meth c s₁ B hml hv
  obtain ⟨ha, hP, hK⟩ := hv
  have hx := B.exec
  have hb := B.bytes
  have hr := B.returns
  have hts := atoms_spec (ws := wsX8_settle) B.pre
  have hown : s.vm.findClass RX8 = some m.cls := findClass_of_methodNamed B.named
  have hlocks := B.notSynchronized
  obtain ⟨R, hR⟩ : ∃ R, R = (headSpec wsX8_settle rmX8_settle).room := ⟨_, rfl⟩
  rw [← hR]
  have hR1 : R.frames = 5 := by rw [hR]; rfl
  have hR2 : R.locals = 145 := by rw [hR]; rfl
  obtain ⟨Q, hQ⟩ : ∃ Q : State → Prop, Q = MQ below (va_Qi (fun r' (_ : Unit) => r' = res9) (fun _ t => WU X (pbt w f9 g0 c0 y9 o9) t) (xF b0)) args s 0 0 (xF b0) := ⟨_, rfl⟩
  rw [← hQ]
  have hS : va_S (xF b0) s.heap s.heap [] := va_S.rf
  have hl := lv_entry ([.ref (xa X 306)]) (n := 1) (Nat.le_of_ble_eq_true rfl)
  refine W.eq ((congrArg (fun z => entryFrame m z 1) ha).trans (lg_entry_eq m _ 1)) ?_
  generalize (lg_sl ([.ref (xa X 306)]) ++ List.replicate (1 - (lg_sl ([.ref (xa X 306)])).length) Slot.unset).toArray = ls at hl ⊢
  have hl : lv_has ls 1 [(0, .ref (xa X 306))] := hl
  have hk_f22 := hts (.fieldLink RX8 22 "BakeTurns" "history" "LBakeTurns$History;") (by decide +kernel)
  have hk_f10 := hts (.fieldLink RX8 10 "BakeTurns" "now" "LBakeTurns$State;") (by decide +kernel)
  have hc_41 := (cwV 1 hts gX8_settle_X2_save rfl rfl rfl (by decide +kernel) ⟨by rw [hR1]; exact Nat.le_of_ble_eq_true rfl, by rw [hR2]; exact Nat.le_of_ble_eq_true rfl⟩ : CallW R s args RX8 RX2 41 yX2_save cX2_save 3 none wsX2_save rmX2_save 0 0 1)
  have hc_84 := (cwV 0 hts gX8_settle_X7_settleLogs rfl rfl rfl (by decide +kernel) ⟨by rw [hR1]; exact Nat.le_of_ble_eq_true rfl, by rw [hR2]; exact Nat.le_of_ble_eq_true rfl⟩ : CallW R s args RX8 RX7 84 yX7_settleLogs cX7_settleLogs 3 (some .int) wsX7_settleLogs rmX7_settleLogs 0 0 0)
  unfold m8_settle at hf
  refine lv_aload_n hx hb dX8_settle_0 rfl (lv_at hl 0 rfl) ?_
  refine w_get hx hb hts iX8_settle_X8 hown hP hK (by decide) emb_bt rfl 2 (by decide) hk_f22 rfl dX8_settle_1 ?_
  refine lv_aload_n hx hb dX8_settle_4 rfl (lv_at hl 0 rfl) ?_
  refine w_get hx hb hts iX8_settle_X8 hown hP hK (by decide) emb_bt rfl 0 (by decide) hk_f10 rfl dX8_settle_5 ?_
  obtain ⟨y1, o2, hc3, hf⟩ := ob2_e hf
  refine w_cv ⟨hx, hb, hml, hown, hts⟩ hP hK hS (k2_save l hX w hc3) hc_41 (w_recv hP hK (by decide) emb_hi rfl) rfl hl.1 rfl (Nat.le_of_ble_eq_true rfl) dX8_settle_8 ⟨Nat.zero_le _, Nat.zero_le _⟩ (fun H locs hP hS => ?_)
  refine lv_aload_n hx hb dX8_settle_11 rfl (lv_at hl 0 rfl) ?_
  refine w_get hx hb hts iX8_settle_X8 hown hP hK (by decide) emb_bt rfl 0 (by decide) hk_f10 rfl dX8_settle_12 ?_
  obtain ⟨x4, f5, hc6, hf⟩ := ob2_e hf
  refine w_ci ⟨hx, hb, hml, hown, hts⟩ hP hK hS (by have hM := k7_settleLogs l hX (k := 0) (by decide) (pbt w f0 g0 c0 y1 o2) hc6; simp only [pbt_f] at hM; exact hM) hc_84 (st_recv (k := 0) (i0 := 0) (HW_f hP) hK (by decide) (by decide) rfl rfl) rfl hl.1 rfl (Nat.le_of_ble_eq_true rfl) dX8_settle_15 ⟨Nat.zero_le _, Nat.zero_le _⟩ (fun H locs hP hS => ?_)
  have hf := Option.some.inj hf
  simp only [Prod.mk.injEq] at hf
  obtain ⟨rfl, rfl, rfl, rfl⟩ := hf
  rw [hQ]
  exact w_iret hx hb hr hlocks hP hK hS dX8_settle_18 rfl rfl
abbrev rmX8_valueOfWhole : Room := { frames := 4, cells := 0, slots := 0, locals := 85 }
theorem iX8_valueOfWhole_X8 : ∀ w ∈ wsX80, w ∈ wsX8_valueOfWhole := by decide +kernel
set_option maxHeartbeats 4000000 in
set_option maxRecDepth 100000 in
theorem k8_valueOfWhole (l : Launch) {X : bkX} {b0 : Nat} (hX : XO X b0) (w : bkW) {N : Nat} {f0 : bkA} {g0 : bkA} {c0 : bkA} {y0 : Nat → bkA} {o0 : Nat → Int32} {a1 : Int32} {res9 : Int32} (hf : m8_valueOfWhole N f0 c0 a1 = some res9) : cI l yX8_valueOfWhole wsX8_valueOfWhole rmX8_valueOfWhole X b0 [.ref (xa X 306), .int a1] (pbt w f0 g0 c0 y0 o0) res9 (pbt w f0 g0 c0 y0 o0) := by
  refine Met.ofW (cc := cX8_valueOfWhole) (maxL := 2) (ret := (some .int)) (by decide) rfl ?_
  intro p e s m args below meth c s₁ B hml hv
  obtain ⟨ha, hP, hK⟩ := hv
  have hx := B.exec
  have hb := B.bytes
  have hr := B.returns
  have hts := atoms_spec (ws := wsX8_valueOfWhole) B.pre
  have hown : s.vm.findClass RX8 = some m.cls := findClass_of_methodNamed B.named
  have hlocks := B.notSynchronized
  obtain ⟨R, hR⟩ : ∃ R, R = (headSpec wsX8_valueOfWhole rmX8_valueOfWhole).room := ⟨_, rfl⟩
  rw [← hR]
  have hR1 : R.frames = 4 := by rw [hR]; rfl
  have hR2 : R.locals = 85 := by rw [hR]; rfl
  obtain ⟨Q, hQ⟩ : ∃ Q : State → Prop, Q = MQ below (va_Qi (fun r' (_ : Unit) => r' = res9) (fun _ t => WU X (pbt w f0 g0 c0 y0 o0) t) (xF b0)) args s 0 0 (xF b0) := ⟨_, rfl⟩
  rw [← hQ]
  have hS : va_S (xF b0) s.heap s.heap [] := va_S.rf
  have hl := lv_entry ([.ref (xa X 306), .int a1]) (n := 2) (Nat.le_of_ble_eq_true rfl)
  refine W.eq ((congrArg (fun z => entryFrame m z 2) ha).trans (lg_entry_eq m _ 2)) ?_
  generalize (lg_sl ([.ref (xa X 306), .int a1]) ++ List.replicate (2 - (lg_sl ([.ref (xa X 306), .int a1])).length) Slot.unset).toArray = ls at hl ⊢
  have hl : lv_has ls 2 [(0, .ref (xa X 306)), (1, .int a1)] := hl
  have hk_f10 := hts (.fieldLink RX8 10 "BakeTurns" "now" "LBakeTurns$State;") (by decide +kernel)
  have hc_217 := (cwV 1 hts gX8_valueOfWhole_X7_valueOfWholeHouse rfl rfl rfl (by decide +kernel) ⟨by rw [hR1]; exact Nat.le_of_ble_eq_true rfl, by rw [hR2]; exact Nat.le_of_ble_eq_true rfl⟩ : CallW R s args RX8 RX7 217 yX7_valueOfWholeHouse cX7_valueOfWholeHouse 2 (some .int) wsX7_valueOfWholeHouse rmX7_valueOfWholeHouse 0 0 1)
  have hk_f29 := hts (.fieldLink RX8 29 "BakeTurns" "commands" "LBakeTurns$Commands;") (by decide +kernel)
  have hc_214 := (cwV 0 hts gX8_valueOfWhole_X0_length rfl rfl rfl (by decide +kernel) ⟨by rw [hR1]; exact Nat.le_of_ble_eq_true rfl, by rw [hR2]; exact Nat.le_of_ble_eq_true rfl⟩ : CallW R s args RX8 RX0 214 yX0_length cX0_length 1 (some .int) wsX0_length rmX0_length 0 0 0)
  unfold m8_valueOfWhole at hf
  refine lv_iload_n hx hb dX8_valueOfWhole_0 rfl (lv_at hl 1 rfl) ?_
  refine lv_bipush (v := 14) hx hb dX8_valueOfWhole_1 (by decide) ?_
  refine lv_icmp_ne (tgt := 16) hx hb dX8_valueOfWhole_3 (by decide) (fun h1 => ?_) (fun h1 => ?_)
  · rw [if_neg h1] at hf
    refine lv_aload_n hx hb dX8_valueOfWhole_16 rfl (lv_at hl 0 rfl) ?_
    refine w_get hx hb hts iX8_valueOfWhole_X8 hown hP hK (by decide) emb_bt rfl 0 (by decide) hk_f10 rfl dX8_valueOfWhole_17 ?_
    refine lv_iload_n hx hb dX8_valueOfWhole_20 rfl (lv_at hl 1 rfl) ?_
    obtain ⟨x2, hc3, hf⟩ := ob1_e hf
    refine w_ci ⟨hx, hb, hml, hown, hts⟩ hP hK hS (by have hM := k7_valueOfWholeHouse l hX (k := 0) (by decide) (pbt w f0 g0 c0 y0 o0) hc3; simp only [pbt_f] at hM; exact hM) hc_217 (st_recv (k := 0) (i0 := 0) (HW_f hP) hK (by decide) (by decide) rfl rfl) rfl hl.1 rfl (Nat.le_of_ble_eq_true rfl) dX8_valueOfWhole_21 ⟨Nat.zero_le _, Nat.zero_le _⟩ (fun H locs hP hS => ?_)
    have hf := Option.some.inj hf
    obtain rfl := hf
    rw [hQ]
    exact w_iret hx hb hr hlocks hP hK hS dX8_valueOfWhole_24 rfl rfl
  · rw [if_pos h1] at hf
    refine lv_aload_n hx hb dX8_valueOfWhole_6 rfl (lv_at hl 0 rfl) ?_
    refine w_get hx hb hts iX8_valueOfWhole_X8 hown hP hK (by decide) emb_bt rfl 3 (by decide) hk_f29 rfl dX8_valueOfWhole_7 ?_
    obtain ⟨x4, hc5, hf⟩ := lt1_e hf
    refine w_ci ⟨hx, hb, hml, hown, hts⟩ hP hK hS (by have hM := k0_length l hX (pbt w f0 g0 c0 y0 o0) hc5; simp only [pbt_c] at hM; exact hM) hc_214 (w_recv (HW_c hP) hK (by decide) emb_cm rfl) rfl hl.1 rfl (Nat.le_of_ble_eq_true rfl) dX8_valueOfWhole_10 ⟨Nat.zero_le _, Nat.zero_le _⟩ (fun H locs hP hS => ?_)
    refine lv_goto (tgt := 24) hx hb dX8_valueOfWhole_13 (by decide) ?_
    have hf := Option.some.inj hf
    obtain rfl := hf
    rw [hQ]
    exact w_iret hx hb hr hlocks hP hK hS dX8_valueOfWhole_24 rfl rfl
abbrev rmX8_heatAfter : Room := { frames := 5, cells := 0, slots := 0, locals := 123 }
theorem iX8_heatAfter_X7 : ∀ w ∈ wsX70, w ∈ wsX8_heatAfter := by decide +kernel
theorem iX8_heatAfter_X8 : ∀ w ∈ wsX80, w ∈ wsX8_heatAfter := by decide +kernel
set_option maxHeartbeats 4000000 in
set_option maxRecDepth 100000 in
theorem k8_heatAfter (l : Launch) {X : bkX} {b0 : Nat} (hX : XO X b0) (w : bkW) {N : Nat} {f0 : bkA} {g0 : bkA} {c0 : bkA} {y0 : Nat → bkA} {o0 : Nat → Int32} {a1 : Int32} {res9 : Int32} {g9 : bkA} (hf : m8_heatAfter N f0 g0 a1 = some (res9, g9)) : cI l yX8_heatAfter wsX8_heatAfter rmX8_heatAfter X b0 [.ref (xa X 306), .int a1] (pbt w f0 g0 c0 y0 o0) res9 (pbt w f0 g9 c0 y0 o0) := by
  refine Met.ofW (cc := cX8_heatAfter) (maxL := 2) (ret := (some .int)) (by decide) rfl ?_
  intro p e s m args below meth c s₁ B hml hv
  obtain ⟨ha, hP, hK⟩ := hv
  have hx := B.exec
  have hb := B.bytes
  have hr := B.returns
  have hts := atoms_spec (ws := wsX8_heatAfter) B.pre
  have hown : s.vm.findClass RX8 = some m.cls := findClass_of_methodNamed B.named
  have hlocks := B.notSynchronized
  obtain ⟨R, hR⟩ : ∃ R, R = (headSpec wsX8_heatAfter rmX8_heatAfter).room := ⟨_, rfl⟩
  rw [← hR]
  have hR1 : R.frames = 5 := by rw [hR]; rfl
  have hR2 : R.locals = 123 := by rw [hR]; rfl
  obtain ⟨Q, hQ⟩ : ∃ Q : State → Prop, Q = MQ below (va_Qi (fun r' (_ : Unit) => r' = res9) (fun _ t => WU X (pbt w f0 g9 c0 y0 o0) t) (xF b0)) args s 0 0 (xF b0) := ⟨_, rfl⟩
  rw [← hQ]
  have hS : va_S (xF b0) s.heap s.heap [] := va_S.rf
  have hl := lv_entry ([.ref (xa X 306), .int a1]) (n := 2) (Nat.le_of_ble_eq_true rfl)
  refine W.eq ((congrArg (fun z => entryFrame m z 2) ha).trans (lg_entry_eq m _ 2)) ?_
  generalize (lg_sl ([.ref (xa X 306), .int a1]) ++ List.replicate (2 - (lg_sl ([.ref (xa X 306), .int a1])).length) Slot.unset).toArray = ls at hl ⊢
  have hl : lv_has ls 2 [(0, .ref (xa X 306)), (1, .int a1)] := hl
  have hk_f16 := hts (.fieldLink RX8 16 "BakeTurns" "whatIf" "LBakeTurns$State;") (by decide +kernel)
  have hk_f10 := hts (.fieldLink RX8 10 "BakeTurns" "now" "LBakeTurns$State;") (by decide +kernel)
  have hc_132 := (cwV 1 hts gX8_heatAfter_X7_copyFrom rfl rfl rfl (by decide +kernel) ⟨by rw [hR1]; exact Nat.le_of_ble_eq_true rfl, by rw [hR2]; exact Nat.le_of_ble_eq_true rfl⟩ : CallW R s args RX8 RX7 132 yX7_copyFrom cX7_copyFrom 2 none wsX7_copyFrom rmX7_copyFrom 0 0 1)
  have hc_91 := (cwV 1 hts gX8_heatAfter_X7_passTicks rfl rfl rfl (by decide +kernel) ⟨by rw [hR1]; exact Nat.le_of_ble_eq_true rfl, by rw [hR2]; exact Nat.le_of_ble_eq_true rfl⟩ : CallW R s args RX8 RX7 91 yX7_passTicks cX7_passTicks 6 (some .int) wsX7_passTicks rmX7_passTicks 0 0 1)
  have hk_f220 := hts (.fieldLink RX8 220 "BakeTurns$State" "heat" "I") (by decide +kernel)
  unfold m8_heatAfter at hf
  refine lv_aload_n hx hb dX8_heatAfter_0 rfl (lv_at hl 0 rfl) ?_
  refine w_get hx hb hts iX8_heatAfter_X8 hown hP hK (by decide) emb_bt rfl 1 (by decide) hk_f16 rfl dX8_heatAfter_1 ?_
  refine lv_aload_n hx hb dX8_heatAfter_4 rfl (lv_at hl 0 rfl) ?_
  refine w_get hx hb hts iX8_heatAfter_X8 hown hP hK (by decide) emb_bt rfl 0 (by decide) hk_f10 rfl dX8_heatAfter_5 ?_
  refine w_cv ⟨hx, hb, hml, hown, hts⟩ hP hK hS (bt_cpWhatIf l hX) hc_132 (st_recv (k := 1) (i0 := 0) (HW_g hP) hK (by decide) (by decide) rfl rfl) rfl hl.1 rfl (Nat.le_of_ble_eq_true rfl) dX8_heatAfter_8 ⟨Nat.zero_le _, Nat.zero_le _⟩ (fun H locs hP hS => ?_)
  refine lv_aload_n hx hb dX8_heatAfter_11 rfl (lv_at hl 0 rfl) ?_
  refine w_get hx hb hts iX8_heatAfter_X8 hown hP hK (by decide) emb_bt rfl 1 (by decide) hk_f16 rfl dX8_heatAfter_12 ?_
  refine lv_iload_n hx hb dX8_heatAfter_15 rfl (lv_at hl 1 rfl) ?_
  obtain ⟨x1, g2, hc3, hf⟩ := ob2_e hf
  refine w_ci ⟨hx, hb, hml, hown, hts⟩ hP hK hS (by have hM := k7_passTicks l hX (k := 1) (by decide) (pbt w f0 f0 c0 y0 o0) hc3; simp only [pbt_g] at hM; exact hM) hc_91 (st_recv (k := 1) (i0 := 0) (HW_g hP) hK (by decide) (by decide) rfl rfl) rfl hl.1 rfl (Nat.le_of_ble_eq_true rfl) dX8_heatAfter_16 ⟨Nat.zero_le _, Nat.zero_le _⟩ (fun H locs hP hS => ?_)
  refine lv_pop hx hb dX8_heatAfter_19 rfl ?_
  refine lv_aload_n hx hb dX8_heatAfter_20 rfl (lv_at hl 0 rfl) ?_
  refine w_get hx hb hts iX8_heatAfter_X8 hown hP hK (by decide) emb_bt rfl 1 (by decide) hk_f16 rfl dX8_heatAfter_21 ?_
  refine st_get (k := 1) (i0 := 0) hx hb hts iX8_heatAfter_X7 hown (HW_g hP) hK (by decide) (by decide) rfl rfl 6 (by decide) hk_f220 rfl dX8_heatAfter_24 ?_
  have hf := Option.some.inj hf
  simp only [Prod.mk.injEq] at hf
  obtain ⟨rfl, rfl⟩ := hf
  rw [hQ]
  exact w_iret hx hb hr hlocks hP hK hS dX8_heatAfter_27 rfl rfl
abbrev rmX8_mixedKinds : Room := { frames := 2, cells := 0, slots := 0, locals := 43 }
theorem iX8_mixedKinds_X4 : ∀ w ∈ wsX40, w ∈ wsX8_mixedKinds := by decide +kernel
theorem iX8_mixedKinds_X7 : ∀ w ∈ wsX70, w ∈ wsX8_mixedKinds := by decide +kernel
theorem iX8_mixedKinds_X8 : ∀ w ∈ wsX80, w ∈ wsX8_mixedKinds := by decide +kernel
set_option maxHeartbeats 4000000 in
set_option maxRecDepth 100000 in
theorem k8_mixedKinds (l : Launch) {X : bkX} {b0 : Nat} (hX : XO X b0) (w : bkW) {N : Nat} {f0 : bkA} {g0 : bkA} {c0 : bkA} {y0 : Nat → bkA} {o0 : Nat → Int32} {a1 : Int64} {res9 : Int64} (hf : m8_mixedKinds N f0 a1 = some res9) : cJ l yX8_mixedKinds wsX8_mixedKinds rmX8_mixedKinds X b0 [.ref (xa X 306), .long a1] (pbt w f0 g0 c0 y0 o0) res9 (pbt w f0 g0 c0 y0 o0) := by
  refine Met.ofW (cc := cX8_mixedKinds) (maxL := 7) (ret := (some .long)) (by decide) rfl ?_
  intro p e s m args below meth c s₁ B hml hv
  obtain ⟨ha, hP, hK⟩ := hv
  have hx := B.exec
  have hb := B.bytes
  have hr := B.returns
  have hts := atoms_spec (ws := wsX8_mixedKinds) B.pre
  have hown : s.vm.findClass RX8 = some m.cls := findClass_of_methodNamed B.named
  have hlocks := B.notSynchronized
  obtain ⟨R, hR⟩ : ∃ R, R = (headSpec wsX8_mixedKinds rmX8_mixedKinds).room := ⟨_, rfl⟩
  rw [← hR]
  have hR1 : R.frames = 2 := by rw [hR]; rfl
  have hR2 : R.locals = 43 := by rw [hR]; rfl
  obtain ⟨Q, hQ⟩ : ∃ Q : State → Prop, Q = MQ below (va_Ql (fun r' (_ : Unit) => r' = res9) (fun _ t => WU X (pbt w f0 g0 c0 y0 o0) t) (xF b0)) args s 0 0 (xF b0) := ⟨_, rfl⟩
  rw [← hQ]
  have hS : va_S (xF b0) s.heap s.heap [] := va_S.rf
  have hl := lv_entry ([.ref (xa X 306), .long a1]) (n := 7) (Nat.le_of_ble_eq_true rfl)
  refine W.eq ((congrArg (fun z => entryFrame m z 7) ha).trans (lg_entry_eq m _ 7)) ?_
  generalize (lg_sl ([.ref (xa X 306), .long a1]) ++ List.replicate (7 - (lg_sl ([.ref (xa X 306), .long a1])).length) Slot.unset).toArray = ls at hl ⊢
  have hl : lv_has ls 7 [(0, .ref (xa X 306)), (1, .long a1)] := hl
  have hk_f10 := hts (.fieldLink RX8 10 "BakeTurns" "now" "LBakeTurns$State;") (by decide +kernel)
  have hk_f226 := hts (.fieldLink RX8 226 "BakeTurns$State" "kinds" "LBakeTurns$Kinds;") (by decide +kernel)
  have hk_f230 := hts (.fieldLink RX8 230 "BakeTurns$Kinds" "count" "I") (by decide +kernel)
  have hc_102 := (cwV 2 hts gX8_mixedKinds_X7_valueOfKind rfl rfl rfl (by decide +kernel) ⟨by rw [hR1]; exact Nat.le_of_ble_eq_true rfl, by rw [hR2]; exact Nat.le_of_ble_eq_true rfl⟩ : CallW R s args RX8 RX7 102 yX7_valueOfKind cX7_valueOfKind 3 (some .int) wsX7_valueOfKind rmX7_valueOfKind 0 0 2)
  have hc_180 := (cwS 2 hts gX8_mixedKinds_X8_mixed rfl rfl rfl (by decide +kernel) ⟨by rw [hR1]; exact Nat.le_of_ble_eq_true rfl, by rw [hR2]; exact Nat.le_of_ble_eq_true rfl⟩ : CallB R s args RX8 180 yX8_mixed cX8_mixed 3 (some .long) wsX8_mixed rmX8_mixed 0 0 2 ∧ (Cond.static yX8_mixed).before args s = true)
  unfold m8_mixedKinds at hf
  refine lv_lload_n hx hb dX8_mixedKinds_0 rfl (lv_at hl 1 rfl) ?_
  refine lv_lstore_n (lv' := [(3, .long a1), (0, .ref (xa X 306)), (1, .long a1)]) hx hb dX8_mixedKinds_1 rfl hl (by decide) rfl (fun ls hl => ?_)
  refine lv_iconst (v := 0) hx hb dX8_mixedKinds_2 (by decide) ?_
  refine lv_istore (lv' := [(5, .int 0), (3, .long a1), (0, .ref (xa X 306)), (1, .long a1)]) hx hb dX8_mixedKinds_3 hl (by decide) rfl (fun ls hl => ?_)
  have L5 : ∀ (n : Nat) (x2 : Int64) (x3 : Int32)  (o4 : Int64) (H : Heap) (locs : List Loc) (ls : Array Slot), m8_mixedKinds_L5 N n x2 x3 f0 = some o4 → HW X (pbt w f0 g0 c0 y0 o0) H → va_S (xF b0) s.heap H locs → lv_has ls 7 [(0, .ref (xa X 306)), (3, .long x2), (5, .int x3)] → (∀ (H1 : Heap) (locs1 : List Loc) (ls1 : Array Slot), HW X (pbt w f0 g0 c0 y0 o0) H1 → va_S (xF b0) s.heap H1 locs1 → lv_has ls1 7 [(3, .long o4)] → W p l e R s m args below meth c H1 locs1 0 0 Q (F0 m 57 ls1 [])) → W p l e R s m args below meth c H locs 0 0 Q (F0 m 5 ls []) := by
    intro n; induction n with
    | zero => intro x2 x3 o4 H locs ls hf; rw [m8_mixedKinds_L5] at hf; cases hf
    | succ n ih =>
      intro x2 x3 o4 H locs ls hf hP hS hl K
      rw [m8_mixedKinds_L5] at hf
      refine lv_iload hx hb dX8_mixedKinds_5 (lv_at hl 2 rfl) ?_
      refine lv_aload_n hx hb dX8_mixedKinds_7 rfl (lv_at hl 0 rfl) ?_
      refine w_get hx hb hts iX8_mixedKinds_X8 hown hP hK (by decide) emb_bt rfl 0 (by decide) hk_f10 rfl dX8_mixedKinds_8 ?_
      refine st_get (k := 0) (i0 := 0) hx hb hts iX8_mixedKinds_X7 hown (HW_f hP) hK (by decide) (by decide) rfl rfl 0 (by decide) hk_f226 rfl dX8_mixedKinds_11 ?_
      refine st_get (k := 0) (i0 := 1) hx hb hts iX8_mixedKinds_X4 hown (HW_f hP) hK (by decide) (by decide) rfl rfl 0 (by decide) hk_f230 rfl dX8_mixedKinds_14 ?_
      refine lv_icmp_ge (tgt := 57) hx hb dX8_mixedKinds_17 (by decide) (fun h5 => ?_) (fun h5 => ?_)
      · rw [if_pos h5] at hf
        have hf := Option.some.inj hf
        obtain rfl := hf
        exact K _ _ _ hP hS (lv_sub hl [1] rfl)
      · rw [if_neg h5] at hf
        refine lv_iconst (v := 0) hx hb dX8_mixedKinds_20 (by decide) ?_
        refine lv_istore (lv' := [(6, .int 0), (0, .ref (xa X 306)), (3, .long x2), (5, .int x3)]) hx hb dX8_mixedKinds_21 hl (by decide) rfl (fun ls hl => ?_)
        have L23 : ∀ (n : Nat) (x7 : Int64) (x8 : Int32) (x9 : Int32)  (o10 : Int64) (H : Heap) (locs : List Loc) (ls : Array Slot), m8_mixedKinds_L23 N n x7 x8 x9 f0 = some o10 → HW X (pbt w f0 g0 c0 y0 o0) H → va_S (xF b0) s.heap H locs → lv_has ls 7 [(0, .ref (xa X 306)), (3, .long x7), (5, .int x8), (6, .int x9)] → (∀ (H1 : Heap) (locs1 : List Loc) (ls1 : Array Slot), HW X (pbt w f0 g0 c0 y0 o0) H1 → va_S (xF b0) s.heap H1 locs1 → lv_has ls1 7 [(0, .ref (xa X 306)), (3, .long o10), (5, .int x8)] → W p l e R s m args below meth c H1 locs1 0 0 Q (F0 m 51 ls1 [])) → W p l e R s m args below meth c H locs 0 0 Q (F0 m 23 ls []) := by
          intro n; induction n with
          | zero => intro x7 x8 x9 o10 H locs ls hf; rw [m8_mixedKinds_L23] at hf; cases hf
          | succ n ih =>
            intro x7 x8 x9 o10 H locs ls hf hP hS hl K
            rw [m8_mixedKinds_L23] at hf
            refine lv_iload hx hb dX8_mixedKinds_23 (lv_at hl 3 rfl) ?_
            refine lv_iconst (v := 5) hx hb dX8_mixedKinds_25 (by decide) ?_
            refine lv_icmp_ge (tgt := 51) hx hb dX8_mixedKinds_26 (by decide) (fun h11 => ?_) (fun h11 => ?_)
            · rw [if_pos h11] at hf
              have hf := Option.some.inj hf
              obtain rfl := hf
              exact K _ _ _ hP hS (lv_sub hl [0, 1, 2] rfl)
            · rw [if_neg h11] at hf
              refine lv_lload_n hx hb dX8_mixedKinds_29 rfl (lv_at hl 1 rfl) ?_
              refine lv_aload_n hx hb dX8_mixedKinds_30 rfl (lv_at hl 0 rfl) ?_
              refine w_get hx hb hts iX8_mixedKinds_X8 hown hP hK (by decide) emb_bt rfl 0 (by decide) hk_f10 rfl dX8_mixedKinds_31 ?_
              refine lv_iload hx hb dX8_mixedKinds_34 (lv_at hl 2 rfl) ?_
              refine lv_iload hx hb dX8_mixedKinds_36 (lv_at hl 3 rfl) ?_
              obtain ⟨x12, hc13, hf⟩ := lt1_e hf
              refine w_ci ⟨hx, hb, hml, hown, hts⟩ hP hK hS (by have hM := k7_valueOfKind l hX (k := 0) (by decide) (pbt w f0 g0 c0 y0 o0) hc13; simp only [pbt_f] at hM; exact hM) hc_102 (st_recv (k := 0) (i0 := 0) (HW_f hP) hK (by decide) (by decide) rfl rfl) rfl hl.1 rfl (Nat.le_of_ble_eq_true rfl) dX8_mixedKinds_38 ⟨Nat.zero_le _, Nat.zero_le _⟩ (fun H locs hP hS => ?_)
              obtain ⟨x14, hc15, hf⟩ := lt1_e hf
              refine w_csj ⟨hx, hb, hml, hown, hts⟩ hP hK hS (k8_mixed l hX (pbt w f0 g0 c0 y0 o0) hc15) hc_180 rfl hl.1 rfl (Nat.le_of_ble_eq_true rfl) dX8_mixedKinds_41 ⟨Nat.zero_le _, Nat.zero_le _⟩ (fun H locs hP hS => ?_)
              refine lv_lstore_n (lv' := [(3, .long x14), (0, .ref (xa X 306)), (5, .int x8), (6, .int x9)]) hx hb dX8_mixedKinds_44 rfl hl (by decide) rfl (fun ls hl => ?_)
              obtain ⟨x16, ex16⟩ : ∃ y : Int32, y = x9 + 1 := ⟨_, rfl⟩
              replace hf := ltn_s ex16 hf
              refine lv_iinc (v := x16) (lv' := [(6, .int x16), (3, .long x14), (0, .ref (xa X 306)), (5, .int x8)]) hx hb dX8_mixedKinds_45 hl (k := 3) rfl (by rw [ex16]; rfl) (by decide) rfl (fun ls hl => ?_)
              refine lv_goto (tgt := 23) hx hb dX8_mixedKinds_48 (by decide) ?_
              exact ih x14 x8 x16 o10 _ _ _ hf hP hS (lv_sub hl [2, 1, 3, 0] rfl) K
        obtain ⟨x17, hc18, hf⟩ := ob1_e hf
        refine L23 N x2 x3 0  x17 _ _ _ hc18 hP hS (lv_sub hl [1, 2, 3, 0] rfl) (fun H locs ls hP hS hl => ?_)
        obtain ⟨x19, ex19⟩ : ∃ y : Int32, y = x3 + 1 := ⟨_, rfl⟩
        replace hf := ltn_s ex19 hf
        refine lv_iinc (v := x19) (lv' := [(5, .int x19), (0, .ref (xa X 306)), (3, .long x17)]) hx hb dX8_mixedKinds_51 hl (k := 2) rfl (by rw [ex19]; rfl) (by decide) rfl (fun ls hl => ?_)
        refine lv_goto (tgt := 5) hx hb dX8_mixedKinds_54 (by decide) ?_
        exact ih x17 x19 o4 _ _ _ hf hP hS (lv_sub hl [1, 2, 0] rfl) K
  obtain ⟨x20, hc21, hf⟩ := ob1_e hf
  refine L5 N a1 0  x20 _ _ _ hc21 hP hS (lv_sub hl [2, 1, 0] rfl) (fun H locs ls hP hS hl => ?_)
  refine lv_lload_n hx hb dX8_mixedKinds_57 rfl (lv_at hl 0 rfl) ?_
  have hf := Option.some.inj hf
  obtain rfl := hf
  rw [hQ]
  exact w_lret hx hb hr hlocks hP hK hS dX8_mixedKinds_58 rfl rfl
abbrev rmX8_mixedHouses : Room := { frames := 3, cells := 0, slots := 0, locals := 78 }
theorem iX8_mixedHouses_X3 : ∀ w ∈ wsX30, w ∈ wsX8_mixedHouses := by decide +kernel
theorem iX8_mixedHouses_X7 : ∀ w ∈ wsX70, w ∈ wsX8_mixedHouses := by decide +kernel
theorem iX8_mixedHouses_X8 : ∀ w ∈ wsX80, w ∈ wsX8_mixedHouses := by decide +kernel
set_option maxHeartbeats 4000000 in
set_option maxRecDepth 100000 in
theorem k8_mixedHouses (l : Launch) {X : bkX} {b0 : Nat} (hX : XO X b0) (w : bkW) {N : Nat} {f0 : bkA} {g0 : bkA} {c0 : bkA} {y0 : Nat → bkA} {o0 : Nat → Int32} {a1 : Int64} {res9 : Int64} (hf : m8_mixedHouses N f0 a1 = some res9) : cJ l yX8_mixedHouses wsX8_mixedHouses rmX8_mixedHouses X b0 [.ref (xa X 306), .long a1] (pbt w f0 g0 c0 y0 o0) res9 (pbt w f0 g0 c0 y0 o0) := by
  refine Met.ofW (cc := cX8_mixedHouses) (maxL := 7) (ret := (some .long)) (by decide) rfl ?_
  intro p e s m args below meth c s₁ B hml hv
  obtain ⟨ha, hP, hK⟩ := hv
  have hx := B.exec
  have hb := B.bytes
  have hr := B.returns
  have hts := atoms_spec (ws := wsX8_mixedHouses) B.pre
  have hown : s.vm.findClass RX8 = some m.cls := findClass_of_methodNamed B.named
  have hlocks := B.notSynchronized
  obtain ⟨R, hR⟩ : ∃ R, R = (headSpec wsX8_mixedHouses rmX8_mixedHouses).room := ⟨_, rfl⟩
  rw [← hR]
  have hR1 : R.frames = 3 := by rw [hR]; rfl
  have hR2 : R.locals = 78 := by rw [hR]; rfl
  obtain ⟨Q, hQ⟩ : ∃ Q : State → Prop, Q = MQ below (va_Ql (fun r' (_ : Unit) => r' = res9) (fun _ t => WU X (pbt w f0 g0 c0 y0 o0) t) (xF b0)) args s 0 0 (xF b0) := ⟨_, rfl⟩
  rw [← hQ]
  have hS : va_S (xF b0) s.heap s.heap [] := va_S.rf
  have hl := lv_entry ([.ref (xa X 306), .long a1]) (n := 7) (Nat.le_of_ble_eq_true rfl)
  refine W.eq ((congrArg (fun z => entryFrame m z 7) ha).trans (lg_entry_eq m _ 7)) ?_
  generalize (lg_sl ([.ref (xa X 306), .long a1]) ++ List.replicate (7 - (lg_sl ([.ref (xa X 306), .long a1])).length) Slot.unset).toArray = ls at hl ⊢
  have hl : lv_has ls 7 [(0, .ref (xa X 306)), (1, .long a1)] := hl
  have hk_f10 := hts (.fieldLink RX8 10 "BakeTurns" "now" "LBakeTurns$State;") (by decide +kernel)
  have hk_f235 := hts (.fieldLink RX8 235 "BakeTurns$State" "houses" "LBakeTurns$Houses;") (by decide +kernel)
  have hk_f239 := hts (.fieldLink RX8 239 "BakeTurns$Houses" "count" "I") (by decide +kernel)
  have hc_108 := (cwV 2 hts gX8_mixedHouses_X7_valueOfHouse rfl rfl rfl (by decide +kernel) ⟨by rw [hR1]; exact Nat.le_of_ble_eq_true rfl, by rw [hR2]; exact Nat.le_of_ble_eq_true rfl⟩ : CallW R s args RX8 RX7 108 yX7_valueOfHouse cX7_valueOfHouse 3 (some .int) wsX7_valueOfHouse rmX7_valueOfHouse 0 0 2)
  have hc_180 := (cwS 2 hts gX8_mixedHouses_X8_mixed rfl rfl rfl (by decide +kernel) ⟨by rw [hR1]; exact Nat.le_of_ble_eq_true rfl, by rw [hR2]; exact Nat.le_of_ble_eq_true rfl⟩ : CallB R s args RX8 180 yX8_mixed cX8_mixed 3 (some .long) wsX8_mixed rmX8_mixed 0 0 2 ∧ (Cond.static yX8_mixed).before args s = true)
  have hc_147 := (cwV 1 hts gX8_mixedHouses_X7_owedBy rfl rfl rfl (by decide +kernel) ⟨by rw [hR1]; exact Nat.le_of_ble_eq_true rfl, by rw [hR2]; exact Nat.le_of_ble_eq_true rfl⟩ : CallW R s args RX8 RX7 147 yX7_owedBy cX7_owedBy 16 (some .int) wsX7_owedBy rmX7_owedBy 0 0 1)
  unfold m8_mixedHouses at hf
  refine lv_lload_n hx hb dX8_mixedHouses_0 rfl (lv_at hl 1 rfl) ?_
  refine lv_lstore_n (lv' := [(3, .long a1), (0, .ref (xa X 306)), (1, .long a1)]) hx hb dX8_mixedHouses_1 rfl hl (by decide) rfl (fun ls hl => ?_)
  refine lv_iconst (v := 0) hx hb dX8_mixedHouses_2 (by decide) ?_
  refine lv_istore (lv' := [(5, .int 0), (3, .long a1), (0, .ref (xa X 306)), (1, .long a1)]) hx hb dX8_mixedHouses_3 hl (by decide) rfl (fun ls hl => ?_)
  have L5 : ∀ (n : Nat) (x2 : Int64) (x3 : Int32)  (o4 : Int64) (H : Heap) (locs : List Loc) (ls : Array Slot), m8_mixedHouses_L5 N n x2 x3 f0 = some o4 → HW X (pbt w f0 g0 c0 y0 o0) H → va_S (xF b0) s.heap H locs → lv_has ls 7 [(0, .ref (xa X 306)), (3, .long x2), (5, .int x3)] → (∀ (H1 : Heap) (locs1 : List Loc) (ls1 : Array Slot), HW X (pbt w f0 g0 c0 y0 o0) H1 → va_S (xF b0) s.heap H1 locs1 → lv_has ls1 7 [(3, .long o4)] → W p l e R s m args below meth c H1 locs1 0 0 Q (F0 m 72 ls1 [])) → W p l e R s m args below meth c H locs 0 0 Q (F0 m 5 ls []) := by
    intro n; induction n with
    | zero => intro x2 x3 o4 H locs ls hf; rw [m8_mixedHouses_L5] at hf; cases hf
    | succ n ih =>
      intro x2 x3 o4 H locs ls hf hP hS hl K
      rw [m8_mixedHouses_L5] at hf
      refine lv_iload hx hb dX8_mixedHouses_5 (lv_at hl 2 rfl) ?_
      refine lv_aload_n hx hb dX8_mixedHouses_7 rfl (lv_at hl 0 rfl) ?_
      refine w_get hx hb hts iX8_mixedHouses_X8 hown hP hK (by decide) emb_bt rfl 0 (by decide) hk_f10 rfl dX8_mixedHouses_8 ?_
      refine st_get (k := 0) (i0 := 0) hx hb hts iX8_mixedHouses_X7 hown (HW_f hP) hK (by decide) (by decide) rfl rfl 1 (by decide) hk_f235 rfl dX8_mixedHouses_11 ?_
      refine st_get (k := 0) (i0 := 2) hx hb hts iX8_mixedHouses_X3 hown (HW_f hP) hK (by decide) (by decide) rfl rfl 0 (by decide) hk_f239 rfl dX8_mixedHouses_14 ?_
      refine lv_icmp_ge (tgt := 72) hx hb dX8_mixedHouses_17 (by decide) (fun h5 => ?_) (fun h5 => ?_)
      · rw [if_pos h5] at hf
        have hf := Option.some.inj hf
        obtain rfl := hf
        exact K _ _ _ hP hS (lv_sub hl [1] rfl)
      · rw [if_neg h5] at hf
        refine lv_iconst (v := 0) hx hb dX8_mixedHouses_20 (by decide) ?_
        refine lv_istore (lv' := [(6, .int 0), (0, .ref (xa X 306)), (3, .long x2), (5, .int x3)]) hx hb dX8_mixedHouses_21 hl (by decide) rfl (fun ls hl => ?_)
        have L23 : ∀ (n : Nat) (x7 : Int64) (x8 : Int32) (x9 : Int32)  (o10 : Int64) (H : Heap) (locs : List Loc) (ls : Array Slot), m8_mixedHouses_L23 N n x7 x8 x9 f0 = some o10 → HW X (pbt w f0 g0 c0 y0 o0) H → va_S (xF b0) s.heap H locs → lv_has ls 7 [(0, .ref (xa X 306)), (3, .long x7), (5, .int x8), (6, .int x9)] → (∀ (H1 : Heap) (locs1 : List Loc) (ls1 : Array Slot), HW X (pbt w f0 g0 c0 y0 o0) H1 → va_S (xF b0) s.heap H1 locs1 → lv_has ls1 7 [(0, .ref (xa X 306)), (3, .long o10), (5, .int x8)] → W p l e R s m args below meth c H1 locs1 0 0 Q (F0 m 52 ls1 [])) → W p l e R s m args below meth c H locs 0 0 Q (F0 m 23 ls []) := by
          intro n; induction n with
          | zero => intro x7 x8 x9 o10 H locs ls hf; rw [m8_mixedHouses_L23] at hf; cases hf
          | succ n ih =>
            intro x7 x8 x9 o10 H locs ls hf hP hS hl K
            rw [m8_mixedHouses_L23] at hf
            refine lv_iload hx hb dX8_mixedHouses_23 (lv_at hl 3 rfl) ?_
            refine lv_bipush (v := 7) hx hb dX8_mixedHouses_25 (by decide) ?_
            refine lv_icmp_ge (tgt := 52) hx hb dX8_mixedHouses_27 (by decide) (fun h11 => ?_) (fun h11 => ?_)
            · rw [if_pos h11] at hf
              have hf := Option.some.inj hf
              obtain rfl := hf
              exact K _ _ _ hP hS (lv_sub hl [0, 1, 2] rfl)
            · rw [if_neg h11] at hf
              refine lv_lload_n hx hb dX8_mixedHouses_30 rfl (lv_at hl 1 rfl) ?_
              refine lv_aload_n hx hb dX8_mixedHouses_31 rfl (lv_at hl 0 rfl) ?_
              refine w_get hx hb hts iX8_mixedHouses_X8 hown hP hK (by decide) emb_bt rfl 0 (by decide) hk_f10 rfl dX8_mixedHouses_32 ?_
              refine lv_iload hx hb dX8_mixedHouses_35 (lv_at hl 2 rfl) ?_
              refine lv_iload hx hb dX8_mixedHouses_37 (lv_at hl 3 rfl) ?_
              obtain ⟨x12, hc13, hf⟩ := ob1_e hf
              refine w_ci ⟨hx, hb, hml, hown, hts⟩ hP hK hS (by have hM := k7_valueOfHouse l hX (k := 0) (by decide) (pbt w f0 g0 c0 y0 o0) hc13; simp only [pbt_f] at hM; exact hM) hc_108 (st_recv (k := 0) (i0 := 0) (HW_f hP) hK (by decide) (by decide) rfl rfl) rfl hl.1 rfl (Nat.le_of_ble_eq_true rfl) dX8_mixedHouses_39 ⟨Nat.zero_le _, Nat.zero_le _⟩ (fun H locs hP hS => ?_)
              obtain ⟨x14, hc15, hf⟩ := lt1_e hf
              refine w_csj ⟨hx, hb, hml, hown, hts⟩ hP hK hS (k8_mixed l hX (pbt w f0 g0 c0 y0 o0) hc15) hc_180 rfl hl.1 rfl (Nat.le_of_ble_eq_true rfl) dX8_mixedHouses_42 ⟨Nat.zero_le _, Nat.zero_le _⟩ (fun H locs hP hS => ?_)
              refine lv_lstore_n (lv' := [(3, .long x14), (0, .ref (xa X 306)), (5, .int x8), (6, .int x9)]) hx hb dX8_mixedHouses_45 rfl hl (by decide) rfl (fun ls hl => ?_)
              obtain ⟨x16, ex16⟩ : ∃ y : Int32, y = x9 + 1 := ⟨_, rfl⟩
              replace hf := ltn_s ex16 hf
              refine lv_iinc (v := x16) (lv' := [(6, .int x16), (3, .long x14), (0, .ref (xa X 306)), (5, .int x8)]) hx hb dX8_mixedHouses_46 hl (k := 3) rfl (by rw [ex16]; rfl) (by decide) rfl (fun ls hl => ?_)
              refine lv_goto (tgt := 23) hx hb dX8_mixedHouses_49 (by decide) ?_
              exact ih x14 x8 x16 o10 _ _ _ hf hP hS (lv_sub hl [2, 1, 3, 0] rfl) K
        obtain ⟨x17, hc18, hf⟩ := ob1_e hf
        refine L23 N x2 x3 0  x17 _ _ _ hc18 hP hS (lv_sub hl [1, 2, 3, 0] rfl) (fun H locs ls hP hS hl => ?_)
        refine lv_lload_n hx hb dX8_mixedHouses_52 rfl (lv_at hl 1 rfl) ?_
        refine lv_aload_n hx hb dX8_mixedHouses_53 rfl (lv_at hl 0 rfl) ?_
        refine w_get hx hb hts iX8_mixedHouses_X8 hown hP hK (by decide) emb_bt rfl 0 (by decide) hk_f10 rfl dX8_mixedHouses_54 ?_
        refine lv_iload hx hb dX8_mixedHouses_57 (lv_at hl 2 rfl) ?_
        obtain ⟨x19, hc20, hf⟩ := ob1_e hf
        refine w_ci ⟨hx, hb, hml, hown, hts⟩ hP hK hS (by have hM := k7_owedBy l hX (k := 0) (by decide) (pbt w f0 g0 c0 y0 o0) hc20; simp only [pbt_f] at hM; exact hM) hc_147 (st_recv (k := 0) (i0 := 0) (HW_f hP) hK (by decide) (by decide) rfl rfl) rfl hl.1 rfl (Nat.le_of_ble_eq_true rfl) dX8_mixedHouses_59 ⟨Nat.zero_le _, Nat.zero_le _⟩ (fun H locs hP hS => ?_)
        obtain ⟨x21, hc22, hf⟩ := lt1_e hf
        refine w_csj ⟨hx, hb, hml, hown, hts⟩ hP hK hS (k8_mixed l hX (pbt w f0 g0 c0 y0 o0) hc22) hc_180 rfl hl.1 rfl (Nat.le_of_ble_eq_true rfl) dX8_mixedHouses_62 ⟨Nat.zero_le _, Nat.zero_le _⟩ (fun H locs hP hS => ?_)
        refine lv_lstore_n (lv' := [(3, .long x21), (0, .ref (xa X 306)), (5, .int x3)]) hx hb dX8_mixedHouses_65 rfl hl (by decide) rfl (fun ls hl => ?_)
        obtain ⟨x23, ex23⟩ : ∃ y : Int32, y = x3 + 1 := ⟨_, rfl⟩
        replace hf := ltn_s ex23 hf
        refine lv_iinc (v := x23) (lv' := [(5, .int x23), (3, .long x21), (0, .ref (xa X 306))]) hx hb dX8_mixedHouses_66 hl (k := 2) rfl (by rw [ex23]; rfl) (by decide) rfl (fun ls hl => ?_)
        refine lv_goto (tgt := 5) hx hb dX8_mixedHouses_69 (by decide) ?_
        exact ih x21 x23 o4 _ _ _ hf hP hS (lv_sub hl [2, 1, 0] rfl) K
  obtain ⟨x24, hc25, hf⟩ := ob1_e hf
  refine L5 N a1 0  x24 _ _ _ hc25 hP hS (lv_sub hl [2, 1, 0] rfl) (fun H locs ls hP hS hl => ?_)
  refine lv_lload_n hx hb dX8_mixedHouses_72 rfl (lv_at hl 0 rfl) ?_
  have hf := Option.some.inj hf
  obtain rfl := hf
  rw [hQ]
  exact w_lret hx hb hr hlocks hP hK hS dX8_mixedHouses_73 rfl rfl
abbrev rmX8_mixedDoughs : Room := { frames := 4, cells := 0, slots := 0, locals := 92 }
theorem iX8_mixedDoughs_X1 : ∀ w ∈ wsX10, w ∈ wsX8_mixedDoughs := by decide +kernel
theorem iX8_mixedDoughs_X7 : ∀ w ∈ wsX70, w ∈ wsX8_mixedDoughs := by decide +kernel
theorem iX8_mixedDoughs_X8 : ∀ w ∈ wsX80, w ∈ wsX8_mixedDoughs := by decide +kernel
set_option maxHeartbeats 4000000 in
set_option maxRecDepth 100000 in
theorem k8_mixedDoughs (l : Launch) {X : bkX} {b0 : Nat} (hX : XO X b0) (w : bkW) {N : Nat} {f0 : bkA} {g0 : bkA} {c0 : bkA} {y0 : Nat → bkA} {o0 : Nat → Int32} {a1 : Int64} {res9 : Int64} (hf : m8_mixedDoughs N f0 a1 = some res9) : cJ l yX8_mixedDoughs wsX8_mixedDoughs rmX8_mixedDoughs X b0 [.ref (xa X 306), .long a1] (pbt w f0 g0 c0 y0 o0) res9 (pbt w f0 g0 c0 y0 o0) := by
  refine Met.ofW (cc := cX8_mixedDoughs) (maxL := 7) (ret := (some .long)) (by decide) rfl ?_
  intro p e s m args below meth c s₁ B hml hv
  obtain ⟨ha, hP, hK⟩ := hv
  have hx := B.exec
  have hb := B.bytes
  have hr := B.returns
  have hts := atoms_spec (ws := wsX8_mixedDoughs) B.pre
  have hown : s.vm.findClass RX8 = some m.cls := findClass_of_methodNamed B.named
  have hlocks := B.notSynchronized
  obtain ⟨R, hR⟩ : ∃ R, R = (headSpec wsX8_mixedDoughs rmX8_mixedDoughs).room := ⟨_, rfl⟩
  rw [← hR]
  have hR1 : R.frames = 4 := by rw [hR]; rfl
  have hR2 : R.locals = 92 := by rw [hR]; rfl
  obtain ⟨Q, hQ⟩ : ∃ Q : State → Prop, Q = MQ below (va_Ql (fun r' (_ : Unit) => r' = res9) (fun _ t => WU X (pbt w f0 g0 c0 y0 o0) t) (xF b0)) args s 0 0 (xF b0) := ⟨_, rfl⟩
  rw [← hQ]
  have hS : va_S (xF b0) s.heap s.heap [] := va_S.rf
  have hl := lv_entry ([.ref (xa X 306), .long a1]) (n := 7) (Nat.le_of_ble_eq_true rfl)
  refine W.eq ((congrArg (fun z => entryFrame m z 7) ha).trans (lg_entry_eq m _ 7)) ?_
  generalize (lg_sl ([.ref (xa X 306), .long a1]) ++ List.replicate (7 - (lg_sl ([.ref (xa X 306), .long a1])).length) Slot.unset).toArray = ls at hl ⊢
  have hl : lv_has ls 7 [(0, .ref (xa X 306)), (1, .long a1)] := hl
  have hk_f10 := hts (.fieldLink RX8 10 "BakeTurns" "now" "LBakeTurns$State;") (by decide +kernel)
  have hk_f242 := hts (.fieldLink RX8 242 "BakeTurns$State" "doughs" "LBakeTurns$Doughs;") (by decide +kernel)
  have hk_f246 := hts (.fieldLink RX8 246 "BakeTurns$Doughs" "count" "I") (by decide +kernel)
  have hc_114 := (cwV 2 hts gX8_mixedDoughs_X7_valueOfDough rfl rfl rfl (by decide +kernel) ⟨by rw [hR1]; exact Nat.le_of_ble_eq_true rfl, by rw [hR2]; exact Nat.le_of_ble_eq_true rfl⟩ : CallW R s args RX8 RX7 114 yX7_valueOfDough cX7_valueOfDough 3 (some .int) wsX7_valueOfDough rmX7_valueOfDough 0 0 2)
  have hc_180 := (cwS 2 hts gX8_mixedDoughs_X8_mixed rfl rfl rfl (by decide +kernel) ⟨by rw [hR1]; exact Nat.le_of_ble_eq_true rfl, by rw [hR2]; exact Nat.le_of_ble_eq_true rfl⟩ : CallB R s args RX8 180 yX8_mixed cX8_mixed 3 (some .long) wsX8_mixed rmX8_mixed 0 0 2 ∧ (Cond.static yX8_mixed).before args s = true)
  have hc_126 := (cwV 1 hts gX8_mixedDoughs_X7_reasonNow rfl rfl rfl (by decide +kernel) ⟨by rw [hR1]; exact Nat.le_of_ble_eq_true rfl, by rw [hR2]; exact Nat.le_of_ble_eq_true rfl⟩ : CallW R s args RX8 RX7 126 yX7_reasonNow cX7_reasonNow 2 (some .int) wsX7_reasonNow rmX7_reasonNow 0 0 1)
  unfold m8_mixedDoughs at hf
  refine lv_lload_n hx hb dX8_mixedDoughs_0 rfl (lv_at hl 1 rfl) ?_
  refine lv_lstore_n (lv' := [(3, .long a1), (0, .ref (xa X 306)), (1, .long a1)]) hx hb dX8_mixedDoughs_1 rfl hl (by decide) rfl (fun ls hl => ?_)
  refine lv_iconst (v := 0) hx hb dX8_mixedDoughs_2 (by decide) ?_
  refine lv_istore (lv' := [(5, .int 0), (3, .long a1), (0, .ref (xa X 306)), (1, .long a1)]) hx hb dX8_mixedDoughs_3 hl (by decide) rfl (fun ls hl => ?_)
  have L5 : ∀ (n : Nat) (x2 : Int64) (x3 : Int32)  (o4 : Int64) (H : Heap) (locs : List Loc) (ls : Array Slot), m8_mixedDoughs_L5 N n x2 x3 f0 = some o4 → HW X (pbt w f0 g0 c0 y0 o0) H → va_S (xF b0) s.heap H locs → lv_has ls 7 [(0, .ref (xa X 306)), (3, .long x2), (5, .int x3)] → (∀ (H1 : Heap) (locs1 : List Loc) (ls1 : Array Slot), HW X (pbt w f0 g0 c0 y0 o0) H1 → va_S (xF b0) s.heap H1 locs1 → lv_has ls1 7 [(3, .long o4)] → W p l e R s m args below meth c H1 locs1 0 0 Q (F0 m 72 ls1 [])) → W p l e R s m args below meth c H locs 0 0 Q (F0 m 5 ls []) := by
    intro n; induction n with
    | zero => intro x2 x3 o4 H locs ls hf; rw [m8_mixedDoughs_L5] at hf; cases hf
    | succ n ih =>
      intro x2 x3 o4 H locs ls hf hP hS hl K
      rw [m8_mixedDoughs_L5] at hf
      refine lv_iload hx hb dX8_mixedDoughs_5 (lv_at hl 2 rfl) ?_
      refine lv_aload_n hx hb dX8_mixedDoughs_7 rfl (lv_at hl 0 rfl) ?_
      refine w_get hx hb hts iX8_mixedDoughs_X8 hown hP hK (by decide) emb_bt rfl 0 (by decide) hk_f10 rfl dX8_mixedDoughs_8 ?_
      refine st_get (k := 0) (i0 := 0) hx hb hts iX8_mixedDoughs_X7 hown (HW_f hP) hK (by decide) (by decide) rfl rfl 2 (by decide) hk_f242 rfl dX8_mixedDoughs_11 ?_
      refine st_get (k := 0) (i0 := 3) hx hb hts iX8_mixedDoughs_X1 hown (HW_f hP) hK (by decide) (by decide) rfl rfl 0 (by decide) hk_f246 rfl dX8_mixedDoughs_14 ?_
      refine lv_icmp_ge (tgt := 72) hx hb dX8_mixedDoughs_17 (by decide) (fun h5 => ?_) (fun h5 => ?_)
      · rw [if_pos h5] at hf
        have hf := Option.some.inj hf
        obtain rfl := hf
        exact K _ _ _ hP hS (lv_sub hl [1] rfl)
      · rw [if_neg h5] at hf
        refine lv_iconst (v := 0) hx hb dX8_mixedDoughs_20 (by decide) ?_
        refine lv_istore (lv' := [(6, .int 0), (0, .ref (xa X 306)), (3, .long x2), (5, .int x3)]) hx hb dX8_mixedDoughs_21 hl (by decide) rfl (fun ls hl => ?_)
        have L23 : ∀ (n : Nat) (x7 : Int64) (x8 : Int32) (x9 : Int32)  (o10 : Int64) (H : Heap) (locs : List Loc) (ls : Array Slot), m8_mixedDoughs_L23 N n x7 x8 x9 f0 = some o10 → HW X (pbt w f0 g0 c0 y0 o0) H → va_S (xF b0) s.heap H locs → lv_has ls 7 [(0, .ref (xa X 306)), (3, .long x7), (5, .int x8), (6, .int x9)] → (∀ (H1 : Heap) (locs1 : List Loc) (ls1 : Array Slot), HW X (pbt w f0 g0 c0 y0 o0) H1 → va_S (xF b0) s.heap H1 locs1 → lv_has ls1 7 [(0, .ref (xa X 306)), (3, .long o10), (5, .int x8)] → W p l e R s m args below meth c H1 locs1 0 0 Q (F0 m 52 ls1 [])) → W p l e R s m args below meth c H locs 0 0 Q (F0 m 23 ls []) := by
          intro n; induction n with
          | zero => intro x7 x8 x9 o10 H locs ls hf; rw [m8_mixedDoughs_L23] at hf; cases hf
          | succ n ih =>
            intro x7 x8 x9 o10 H locs ls hf hP hS hl K
            rw [m8_mixedDoughs_L23] at hf
            refine lv_iload hx hb dX8_mixedDoughs_23 (lv_at hl 3 rfl) ?_
            refine lv_bipush (v := 10) hx hb dX8_mixedDoughs_25 (by decide) ?_
            refine lv_icmp_ge (tgt := 52) hx hb dX8_mixedDoughs_27 (by decide) (fun h11 => ?_) (fun h11 => ?_)
            · rw [if_pos h11] at hf
              have hf := Option.some.inj hf
              obtain rfl := hf
              exact K _ _ _ hP hS (lv_sub hl [0, 1, 2] rfl)
            · rw [if_neg h11] at hf
              refine lv_lload_n hx hb dX8_mixedDoughs_30 rfl (lv_at hl 1 rfl) ?_
              refine lv_aload_n hx hb dX8_mixedDoughs_31 rfl (lv_at hl 0 rfl) ?_
              refine w_get hx hb hts iX8_mixedDoughs_X8 hown hP hK (by decide) emb_bt rfl 0 (by decide) hk_f10 rfl dX8_mixedDoughs_32 ?_
              refine lv_iload hx hb dX8_mixedDoughs_35 (lv_at hl 2 rfl) ?_
              refine lv_iload hx hb dX8_mixedDoughs_37 (lv_at hl 3 rfl) ?_
              obtain ⟨x12, hc13, hf⟩ := ob1_e hf
              refine w_ci ⟨hx, hb, hml, hown, hts⟩ hP hK hS (by have hM := k7_valueOfDough l hX (k := 0) (by decide) (pbt w f0 g0 c0 y0 o0) hc13; simp only [pbt_f] at hM; exact hM) hc_114 (st_recv (k := 0) (i0 := 0) (HW_f hP) hK (by decide) (by decide) rfl rfl) rfl hl.1 rfl (Nat.le_of_ble_eq_true rfl) dX8_mixedDoughs_39 ⟨Nat.zero_le _, Nat.zero_le _⟩ (fun H locs hP hS => ?_)
              obtain ⟨x14, hc15, hf⟩ := lt1_e hf
              refine w_csj ⟨hx, hb, hml, hown, hts⟩ hP hK hS (k8_mixed l hX (pbt w f0 g0 c0 y0 o0) hc15) hc_180 rfl hl.1 rfl (Nat.le_of_ble_eq_true rfl) dX8_mixedDoughs_42 ⟨Nat.zero_le _, Nat.zero_le _⟩ (fun H locs hP hS => ?_)
              refine lv_lstore_n (lv' := [(3, .long x14), (0, .ref (xa X 306)), (5, .int x8), (6, .int x9)]) hx hb dX8_mixedDoughs_45 rfl hl (by decide) rfl (fun ls hl => ?_)
              obtain ⟨x16, ex16⟩ : ∃ y : Int32, y = x9 + 1 := ⟨_, rfl⟩
              replace hf := ltn_s ex16 hf
              refine lv_iinc (v := x16) (lv' := [(6, .int x16), (3, .long x14), (0, .ref (xa X 306)), (5, .int x8)]) hx hb dX8_mixedDoughs_46 hl (k := 3) rfl (by rw [ex16]; rfl) (by decide) rfl (fun ls hl => ?_)
              refine lv_goto (tgt := 23) hx hb dX8_mixedDoughs_49 (by decide) ?_
              exact ih x14 x8 x16 o10 _ _ _ hf hP hS (lv_sub hl [2, 1, 3, 0] rfl) K
        obtain ⟨x17, hc18, hf⟩ := ob1_e hf
        refine L23 N x2 x3 0  x17 _ _ _ hc18 hP hS (lv_sub hl [1, 2, 3, 0] rfl) (fun H locs ls hP hS hl => ?_)
        refine lv_lload_n hx hb dX8_mixedDoughs_52 rfl (lv_at hl 1 rfl) ?_
        refine lv_aload_n hx hb dX8_mixedDoughs_53 rfl (lv_at hl 0 rfl) ?_
        refine w_get hx hb hts iX8_mixedDoughs_X8 hown hP hK (by decide) emb_bt rfl 0 (by decide) hk_f10 rfl dX8_mixedDoughs_54 ?_
        refine lv_iload hx hb dX8_mixedDoughs_57 (lv_at hl 2 rfl) ?_
        obtain ⟨x19, hc20, hf⟩ := ob1_e hf
        refine w_ci ⟨hx, hb, hml, hown, hts⟩ hP hK hS (by have hM := k7_reasonNow l hX (k := 0) (by decide) (pbt w f0 g0 c0 y0 o0) hc20; simp only [pbt_f] at hM; exact hM) hc_126 (st_recv (k := 0) (i0 := 0) (HW_f hP) hK (by decide) (by decide) rfl rfl) rfl hl.1 rfl (Nat.le_of_ble_eq_true rfl) dX8_mixedDoughs_59 ⟨Nat.zero_le _, Nat.zero_le _⟩ (fun H locs hP hS => ?_)
        obtain ⟨x21, hc22, hf⟩ := lt1_e hf
        refine w_csj ⟨hx, hb, hml, hown, hts⟩ hP hK hS (k8_mixed l hX (pbt w f0 g0 c0 y0 o0) hc22) hc_180 rfl hl.1 rfl (Nat.le_of_ble_eq_true rfl) dX8_mixedDoughs_62 ⟨Nat.zero_le _, Nat.zero_le _⟩ (fun H locs hP hS => ?_)
        refine lv_lstore_n (lv' := [(3, .long x21), (0, .ref (xa X 306)), (5, .int x3)]) hx hb dX8_mixedDoughs_65 rfl hl (by decide) rfl (fun ls hl => ?_)
        obtain ⟨x23, ex23⟩ : ∃ y : Int32, y = x3 + 1 := ⟨_, rfl⟩
        replace hf := ltn_s ex23 hf
        refine lv_iinc (v := x23) (lv' := [(5, .int x23), (3, .long x21), (0, .ref (xa X 306))]) hx hb dX8_mixedDoughs_66 hl (k := 2) rfl (by rw [ex23]; rfl) (by decide) rfl (fun ls hl => ?_)
        refine lv_goto (tgt := 5) hx hb dX8_mixedDoughs_69 (by decide) ?_
        exact ih x21 x23 o4 _ _ _ hf hP hS (lv_sub hl [2, 1, 0] rfl) K
  obtain ⟨x24, hc25, hf⟩ := ob1_e hf
  refine L5 N a1 0  x24 _ _ _ hc25 hP hS (lv_sub hl [2, 1, 0] rfl) (fun H locs ls hP hS hl => ?_)
  refine lv_lload_n hx hb dX8_mixedDoughs_72 rfl (lv_at hl 0 rfl) ?_
  have hf := Option.some.inj hf
  obtain rfl := hf
  rw [hQ]
  exact w_lret hx hb hr hlocks hP hK hS dX8_mixedDoughs_73 rfl rfl
abbrev rmX8_mixedPlaces : Room := { frames := 3, cells := 0, slots := 0, locals := 64 }
theorem iX8_mixedPlaces_X7 : ∀ w ∈ wsX70, w ∈ wsX8_mixedPlaces := by decide +kernel
theorem iX8_mixedPlaces_X8 : ∀ w ∈ wsX80, w ∈ wsX8_mixedPlaces := by decide +kernel
set_option maxHeartbeats 4000000 in
set_option maxRecDepth 100000 in
theorem k8_mixedPlaces (l : Launch) {X : bkX} {b0 : Nat} (hX : XO X b0) (w : bkW) {N : Nat} {f0 : bkA} {g0 : bkA} {c0 : bkA} {y0 : Nat → bkA} {o0 : Nat → Int32} {a1 : Int64} {res9 : Int64} (hf : m8_mixedPlaces N f0 a1 = some res9) : cJ l yX8_mixedPlaces wsX8_mixedPlaces rmX8_mixedPlaces X b0 [.ref (xa X 306), .long a1] (pbt w f0 g0 c0 y0 o0) res9 (pbt w f0 g0 c0 y0 o0) := by
  refine Met.ofW (cc := cX8_mixedPlaces) (maxL := 7) (ret := (some .long)) (by decide) rfl ?_
  intro p e s m args below meth c s₁ B hml hv
  obtain ⟨ha, hP, hK⟩ := hv
  have hx := B.exec
  have hb := B.bytes
  have hr := B.returns
  have hts := atoms_spec (ws := wsX8_mixedPlaces) B.pre
  have hown : s.vm.findClass RX8 = some m.cls := findClass_of_methodNamed B.named
  have hlocks := B.notSynchronized
  obtain ⟨R, hR⟩ : ∃ R, R = (headSpec wsX8_mixedPlaces rmX8_mixedPlaces).room := ⟨_, rfl⟩
  rw [← hR]
  have hR1 : R.frames = 3 := by rw [hR]; rfl
  have hR2 : R.locals = 64 := by rw [hR]; rfl
  obtain ⟨Q, hQ⟩ : ∃ Q : State → Prop, Q = MQ below (va_Ql (fun r' (_ : Unit) => r' = res9) (fun _ t => WU X (pbt w f0 g0 c0 y0 o0) t) (xF b0)) args s 0 0 (xF b0) := ⟨_, rfl⟩
  rw [← hQ]
  have hS : va_S (xF b0) s.heap s.heap [] := va_S.rf
  have hl := lv_entry ([.ref (xa X 306), .long a1]) (n := 7) (Nat.le_of_ble_eq_true rfl)
  refine W.eq ((congrArg (fun z => entryFrame m z 7) ha).trans (lg_entry_eq m _ 7)) ?_
  generalize (lg_sl ([.ref (xa X 306), .long a1]) ++ List.replicate (7 - (lg_sl ([.ref (xa X 306), .long a1])).length) Slot.unset).toArray = ls at hl ⊢
  have hl : lv_has ls 7 [(0, .ref (xa X 306)), (1, .long a1)] := hl
  have hk_f10 := hts (.fieldLink RX8 10 "BakeTurns" "now" "LBakeTurns$State;") (by decide +kernel)
  have hc_117 := (cwV 2 hts gX8_mixedPlaces_X7_valueOfPlace rfl rfl rfl (by decide +kernel) ⟨by rw [hR1]; exact Nat.le_of_ble_eq_true rfl, by rw [hR2]; exact Nat.le_of_ble_eq_true rfl⟩ : CallW R s args RX8 RX7 117 yX7_valueOfPlace cX7_valueOfPlace 3 (some .int) wsX7_valueOfPlace rmX7_valueOfPlace 0 0 2)
  have hc_180 := (cwS 2 hts gX8_mixedPlaces_X8_mixed rfl rfl rfl (by decide +kernel) ⟨by rw [hR1]; exact Nat.le_of_ble_eq_true rfl, by rw [hR2]; exact Nat.le_of_ble_eq_true rfl⟩ : CallB R s args RX8 180 yX8_mixed cX8_mixed 3 (some .long) wsX8_mixed rmX8_mixed 0 0 2 ∧ (Cond.static yX8_mixed).before args s = true)
  have hk_f249 := hts (.fieldLink RX8 249 "BakeTurns$State" "waiting" "I") (by decide +kernel)
  have hc_123 := (cwV 1 hts gX8_mixedPlaces_X7_doughInLine rfl rfl rfl (by decide +kernel) ⟨by rw [hR1]; exact Nat.le_of_ble_eq_true rfl, by rw [hR2]; exact Nat.le_of_ble_eq_true rfl⟩ : CallW R s args RX8 RX7 123 yX7_doughInLine cX7_doughInLine 2 (some .int) wsX7_doughInLine rmX7_doughInLine 0 0 1)
  unfold m8_mixedPlaces at hf
  refine lv_lload_n hx hb dX8_mixedPlaces_0 rfl (lv_at hl 1 rfl) ?_
  refine lv_lstore_n (lv' := [(3, .long a1), (0, .ref (xa X 306)), (1, .long a1)]) hx hb dX8_mixedPlaces_1 rfl hl (by decide) rfl (fun ls hl => ?_)
  refine lv_iconst (v := 0) hx hb dX8_mixedPlaces_2 (by decide) ?_
  refine lv_istore (lv' := [(5, .int 0), (3, .long a1), (0, .ref (xa X 306)), (1, .long a1)]) hx hb dX8_mixedPlaces_3 hl (by decide) rfl (fun ls hl => ?_)
  have L5 : ∀ (n : Nat) (x2 : Int64) (x3 : Int32)  (o4 : Int64) (H : Heap) (locs : List Loc) (ls : Array Slot), m8_mixedPlaces_L5 N n x2 x3 f0 = some o4 → HW X (pbt w f0 g0 c0 y0 o0) H → va_S (xF b0) s.heap H locs → lv_has ls 7 [(0, .ref (xa X 306)), (3, .long x2), (5, .int x3)] → (∀ (H1 : Heap) (locs1 : List Loc) (ls1 : Array Slot), HW X (pbt w f0 g0 c0 y0 o0) H1 → va_S (xF b0) s.heap H1 locs1 → lv_has ls1 7 [(0, .ref (xa X 306)), (3, .long o4)] → W p l e R s m args below meth c H1 locs1 0 0 Q (F0 m 49 ls1 [])) → W p l e R s m args below meth c H locs 0 0 Q (F0 m 5 ls []) := by
    intro n; induction n with
    | zero => intro x2 x3 o4 H locs ls hf; rw [m8_mixedPlaces_L5] at hf; cases hf
    | succ n ih =>
      intro x2 x3 o4 H locs ls hf hP hS hl K
      rw [m8_mixedPlaces_L5] at hf
      refine lv_iload hx hb dX8_mixedPlaces_5 (lv_at hl 2 rfl) ?_
      refine lv_bipush (v := 12) hx hb dX8_mixedPlaces_7 (by decide) ?_
      refine lv_icmp_ge (tgt := 49) hx hb dX8_mixedPlaces_9 (by decide) (fun h5 => ?_) (fun h5 => ?_)
      · rw [if_pos h5] at hf
        have hf := Option.some.inj hf
        obtain rfl := hf
        exact K _ _ _ hP hS (lv_sub hl [0, 1] rfl)
      · rw [if_neg h5] at hf
        refine lv_iconst (v := 0) hx hb dX8_mixedPlaces_12 (by decide) ?_
        refine lv_istore (lv' := [(6, .int 0), (0, .ref (xa X 306)), (3, .long x2), (5, .int x3)]) hx hb dX8_mixedPlaces_13 hl (by decide) rfl (fun ls hl => ?_)
        have L15 : ∀ (n : Nat) (x7 : Int64) (x8 : Int32) (x9 : Int32)  (o10 : Int64) (H : Heap) (locs : List Loc) (ls : Array Slot), m8_mixedPlaces_L15 N n x7 x8 x9 f0 = some o10 → HW X (pbt w f0 g0 c0 y0 o0) H → va_S (xF b0) s.heap H locs → lv_has ls 7 [(0, .ref (xa X 306)), (3, .long x7), (5, .int x8), (6, .int x9)] → (∀ (H1 : Heap) (locs1 : List Loc) (ls1 : Array Slot), HW X (pbt w f0 g0 c0 y0 o0) H1 → va_S (xF b0) s.heap H1 locs1 → lv_has ls1 7 [(0, .ref (xa X 306)), (3, .long o10), (5, .int x8)] → W p l e R s m args below meth c H1 locs1 0 0 Q (F0 m 43 ls1 [])) → W p l e R s m args below meth c H locs 0 0 Q (F0 m 15 ls []) := by
          intro n; induction n with
          | zero => intro x7 x8 x9 o10 H locs ls hf; rw [m8_mixedPlaces_L15] at hf; cases hf
          | succ n ih =>
            intro x7 x8 x9 o10 H locs ls hf hP hS hl K
            rw [m8_mixedPlaces_L15] at hf
            refine lv_iload hx hb dX8_mixedPlaces_15 (lv_at hl 3 rfl) ?_
            refine lv_iconst (v := 4) hx hb dX8_mixedPlaces_17 (by decide) ?_
            refine lv_icmp_ge (tgt := 43) hx hb dX8_mixedPlaces_18 (by decide) (fun h11 => ?_) (fun h11 => ?_)
            · rw [if_pos h11] at hf
              have hf := Option.some.inj hf
              obtain rfl := hf
              exact K _ _ _ hP hS (lv_sub hl [0, 1, 2] rfl)
            · rw [if_neg h11] at hf
              refine lv_lload_n hx hb dX8_mixedPlaces_21 rfl (lv_at hl 1 rfl) ?_
              refine lv_aload_n hx hb dX8_mixedPlaces_22 rfl (lv_at hl 0 rfl) ?_
              refine w_get hx hb hts iX8_mixedPlaces_X8 hown hP hK (by decide) emb_bt rfl 0 (by decide) hk_f10 rfl dX8_mixedPlaces_23 ?_
              refine lv_iload hx hb dX8_mixedPlaces_26 (lv_at hl 2 rfl) ?_
              refine lv_iload hx hb dX8_mixedPlaces_28 (lv_at hl 3 rfl) ?_
              obtain ⟨x12, hc13, hf⟩ := lt1_e hf
              refine w_ci ⟨hx, hb, hml, hown, hts⟩ hP hK hS (by have hM := k7_valueOfPlace l hX (k := 0) (by decide) (pbt w f0 g0 c0 y0 o0) hc13; simp only [pbt_f] at hM; exact hM) hc_117 (st_recv (k := 0) (i0 := 0) (HW_f hP) hK (by decide) (by decide) rfl rfl) rfl hl.1 rfl (Nat.le_of_ble_eq_true rfl) dX8_mixedPlaces_30 ⟨Nat.zero_le _, Nat.zero_le _⟩ (fun H locs hP hS => ?_)
              obtain ⟨x14, hc15, hf⟩ := lt1_e hf
              refine w_csj ⟨hx, hb, hml, hown, hts⟩ hP hK hS (k8_mixed l hX (pbt w f0 g0 c0 y0 o0) hc15) hc_180 rfl hl.1 rfl (Nat.le_of_ble_eq_true rfl) dX8_mixedPlaces_33 ⟨Nat.zero_le _, Nat.zero_le _⟩ (fun H locs hP hS => ?_)
              refine lv_lstore_n (lv' := [(3, .long x14), (0, .ref (xa X 306)), (5, .int x8), (6, .int x9)]) hx hb dX8_mixedPlaces_36 rfl hl (by decide) rfl (fun ls hl => ?_)
              obtain ⟨x16, ex16⟩ : ∃ y : Int32, y = x9 + 1 := ⟨_, rfl⟩
              replace hf := ltn_s ex16 hf
              refine lv_iinc (v := x16) (lv' := [(6, .int x16), (3, .long x14), (0, .ref (xa X 306)), (5, .int x8)]) hx hb dX8_mixedPlaces_37 hl (k := 3) rfl (by rw [ex16]; rfl) (by decide) rfl (fun ls hl => ?_)
              refine lv_goto (tgt := 15) hx hb dX8_mixedPlaces_40 (by decide) ?_
              exact ih x14 x8 x16 o10 _ _ _ hf hP hS (lv_sub hl [2, 1, 3, 0] rfl) K
        obtain ⟨x17, hc18, hf⟩ := ob1_e hf
        refine L15 N x2 x3 0  x17 _ _ _ hc18 hP hS (lv_sub hl [1, 2, 3, 0] rfl) (fun H locs ls hP hS hl => ?_)
        obtain ⟨x19, ex19⟩ : ∃ y : Int32, y = x3 + 1 := ⟨_, rfl⟩
        replace hf := ltn_s ex19 hf
        refine lv_iinc (v := x19) (lv' := [(5, .int x19), (0, .ref (xa X 306)), (3, .long x17)]) hx hb dX8_mixedPlaces_43 hl (k := 2) rfl (by rw [ex19]; rfl) (by decide) rfl (fun ls hl => ?_)
        refine lv_goto (tgt := 5) hx hb dX8_mixedPlaces_46 (by decide) ?_
        exact ih x17 x19 o4 _ _ _ hf hP hS (lv_sub hl [1, 2, 0] rfl) K
  obtain ⟨x20, hc21, hf⟩ := ob1_e hf
  refine L5 N a1 0  x20 _ _ _ hc21 hP hS (lv_sub hl [2, 1, 0] rfl) (fun H locs ls hP hS hl => ?_)
  refine lv_iconst (v := 0) hx hb dX8_mixedPlaces_49 (by decide) ?_
  refine lv_istore (lv' := [(5, .int 0), (0, .ref (xa X 306)), (3, .long x20)]) hx hb dX8_mixedPlaces_50 hl (by decide) rfl (fun ls hl => ?_)
  have L52 : ∀ (n : Nat) (x23 : Int64) (x24 : Int32)  (o25 : Int64) (H : Heap) (locs : List Loc) (ls : Array Slot), m8_mixedPlaces_L52 N n x23 x24 f0 = some o25 → HW X (pbt w f0 g0 c0 y0 o0) H → va_S (xF b0) s.heap H locs → lv_has ls 7 [(0, .ref (xa X 306)), (3, .long x23), (5, .int x24)] → (∀ (H1 : Heap) (locs1 : List Loc) (ls1 : Array Slot), HW X (pbt w f0 g0 c0 y0 o0) H1 → va_S (xF b0) s.heap H1 locs1 → lv_has ls1 7 [(3, .long o25)] → W p l e R s m args below meth c H1 locs1 0 0 Q (F0 m 84 ls1 [])) → W p l e R s m args below meth c H locs 0 0 Q (F0 m 52 ls []) := by
    intro n; induction n with
    | zero => intro x23 x24 o25 H locs ls hf; rw [m8_mixedPlaces_L52] at hf; cases hf
    | succ n ih =>
      intro x23 x24 o25 H locs ls hf hP hS hl K
      rw [m8_mixedPlaces_L52] at hf
      refine lv_iload hx hb dX8_mixedPlaces_52 (lv_at hl 2 rfl) ?_
      refine lv_aload_n hx hb dX8_mixedPlaces_54 rfl (lv_at hl 0 rfl) ?_
      refine w_get hx hb hts iX8_mixedPlaces_X8 hown hP hK (by decide) emb_bt rfl 0 (by decide) hk_f10 rfl dX8_mixedPlaces_55 ?_
      refine st_get (k := 0) (i0 := 0) hx hb hts iX8_mixedPlaces_X7 hown (HW_f hP) hK (by decide) (by decide) rfl rfl 5 (by decide) hk_f249 rfl dX8_mixedPlaces_58 ?_
      refine lv_icmp_ge (tgt := 84) hx hb dX8_mixedPlaces_61 (by decide) (fun h26 => ?_) (fun h26 => ?_)
      · rw [if_pos h26] at hf
        have hf := Option.some.inj hf
        obtain rfl := hf
        exact K _ _ _ hP hS (lv_sub hl [1] rfl)
      · rw [if_neg h26] at hf
        refine lv_lload_n hx hb dX8_mixedPlaces_64 rfl (lv_at hl 1 rfl) ?_
        refine lv_aload_n hx hb dX8_mixedPlaces_65 rfl (lv_at hl 0 rfl) ?_
        refine w_get hx hb hts iX8_mixedPlaces_X8 hown hP hK (by decide) emb_bt rfl 0 (by decide) hk_f10 rfl dX8_mixedPlaces_66 ?_
        refine lv_iload hx hb dX8_mixedPlaces_69 (lv_at hl 2 rfl) ?_
        obtain ⟨x27, hc28, hf⟩ := lt1_e hf
        refine w_ci ⟨hx, hb, hml, hown, hts⟩ hP hK hS (by have hM := k7_doughInLine l hX (k := 0) (by decide) (pbt w f0 g0 c0 y0 o0) hc28; simp only [pbt_f] at hM; exact hM) hc_123 (st_recv (k := 0) (i0 := 0) (HW_f hP) hK (by decide) (by decide) rfl rfl) rfl hl.1 rfl (Nat.le_of_ble_eq_true rfl) dX8_mixedPlaces_71 ⟨Nat.zero_le _, Nat.zero_le _⟩ (fun H locs hP hS => ?_)
        obtain ⟨x29, hc30, hf⟩ := lt1_e hf
        refine w_csj ⟨hx, hb, hml, hown, hts⟩ hP hK hS (k8_mixed l hX (pbt w f0 g0 c0 y0 o0) hc30) hc_180 rfl hl.1 rfl (Nat.le_of_ble_eq_true rfl) dX8_mixedPlaces_74 ⟨Nat.zero_le _, Nat.zero_le _⟩ (fun H locs hP hS => ?_)
        refine lv_lstore_n (lv' := [(3, .long x29), (0, .ref (xa X 306)), (5, .int x24)]) hx hb dX8_mixedPlaces_77 rfl hl (by decide) rfl (fun ls hl => ?_)
        obtain ⟨x31, ex31⟩ : ∃ y : Int32, y = x24 + 1 := ⟨_, rfl⟩
        replace hf := ltn_s ex31 hf
        refine lv_iinc (v := x31) (lv' := [(5, .int x31), (3, .long x29), (0, .ref (xa X 306))]) hx hb dX8_mixedPlaces_78 hl (k := 2) rfl (by rw [ex31]; rfl) (by decide) rfl (fun ls hl => ?_)
        refine lv_goto (tgt := 52) hx hb dX8_mixedPlaces_81 (by decide) ?_
        exact ih x29 x31 o25 _ _ _ hf hP hS (lv_sub hl [2, 1, 0] rfl) K
  obtain ⟨x32, hc33, hf⟩ := ob1_e hf
  refine L52 N x20 0  x32 _ _ _ hc33 hP hS (lv_sub hl [1, 2, 0] rfl) (fun H locs ls hP hS hl => ?_)
  refine lv_lload_n hx hb dX8_mixedPlaces_84 rfl (lv_at hl 0 rfl) ?_
  have hf := Option.some.inj hf
  obtain rfl := hf
  rw [hQ]
  exact w_lret hx hb hr hlocks hP hK hS dX8_mixedPlaces_85 rfl rfl
abbrev rmX8_digest : Room := { frames := 6, cells := 0, slots := 0, locals := 144 }
theorem iX8_digest_X8 : ∀ w ∈ wsX80, w ∈ wsX8_digest := by decide +kernel
set_option maxHeartbeats 4000000 in
set_option maxRecDepth 100000 in
theorem k8_digest (l : Launch) {X : bkX} {b0 : Nat} (hX : XO X b0) (w : bkW) {N : Nat} {f0 : bkA} {g0 : bkA} {c0 : bkA} {y0 : Nat → bkA} {o0 : Nat → Int32} {res9 : Int64} {g9 : bkA} (hf : m8_digest N f0 g0 c0 o0 = some (res9, g9)) : cJ l yX8_digest wsX8_digest rmX8_digest X b0 [.ref (xa X 306)] (pbt w f0 g0 c0 y0 o0) res9 (pbt w f0 g9 c0 y0 o0) := by
  refine Met.ofW (cc := cX8_digest) (maxL := 4) (ret := (some .long)) (by decide) rfl ?_
  intro p e s m args below meth c s₁ B hml hv
  obtain ⟨ha, hP, hK⟩ := hv
  have hx := B.exec
  have hb := B.bytes
  have hr := B.returns
  have hts := atoms_spec (ws := wsX8_digest) B.pre
  have hown : s.vm.findClass RX8 = some m.cls := findClass_of_methodNamed B.named
  have hlocks := B.notSynchronized
  obtain ⟨R, hR⟩ : ∃ R, R = (headSpec wsX8_digest rmX8_digest).room := ⟨_, rfl⟩
  rw [← hR]
  have hR1 : R.frames = 6 := by rw [hR]; rfl
  have hR2 : R.locals = 144 := by rw [hR]; rfl
  obtain ⟨Q, hQ⟩ : ∃ Q : State → Prop, Q = MQ below (va_Ql (fun r' (_ : Unit) => r' = res9) (fun _ t => WU X (pbt w f0 g9 c0 y0 o0) t) (xF b0)) args s 0 0 (xF b0) := ⟨_, rfl⟩
  rw [← hQ]
  have hS : va_S (xF b0) s.heap s.heap [] := va_S.rf
  have hl := lv_entry ([.ref (xa X 306)]) (n := 4) (Nat.le_of_ble_eq_true rfl)
  refine W.eq ((congrArg (fun z => entryFrame m z 4) ha).trans (lg_entry_eq m _ 4)) ?_
  generalize (lg_sl ([.ref (xa X 306)]) ++ List.replicate (4 - (lg_sl ([.ref (xa X 306)])).length) Slot.unset).toArray = ls at hl ⊢
  have hl : lv_has ls 4 [(0, .ref (xa X 306))] := hl
  have hk_c178 := hts (.constantLong RX8 178 43350) (by decide +kernel)
  have hk_f22 := hts (.fieldLink RX8 22 "BakeTurns" "history" "LBakeTurns$History;") (by decide +kernel)
  have hc_172 := (cwV 0 hts gX8_digest_X2_size rfl rfl rfl (by decide +kernel) ⟨by rw [hR1]; exact Nat.le_of_ble_eq_true rfl, by rw [hR2]; exact Nat.le_of_ble_eq_true rfl⟩ : CallW R s args RX8 RX2 172 yX2_size cX2_size 1 (some .int) wsX2_size rmX2_size 0 0 0)
  have hc_180 := (cwS 2 hts gX8_digest_X8_mixed rfl rfl rfl (by decide +kernel) ⟨by rw [hR1]; exact Nat.le_of_ble_eq_true rfl, by rw [hR2]; exact Nat.le_of_ble_eq_true rfl⟩ : CallB R s args RX8 180 yX8_mixed cX8_mixed 3 (some .long) wsX8_mixed rmX8_mixed 0 0 2 ∧ (Cond.static yX8_mixed).before args s = true)
  have hc_120 := (cwV 1 hts gX8_digest_X8_valueOfWhole rfl rfl rfl (by decide +kernel) ⟨by rw [hR1]; exact Nat.le_of_ble_eq_true rfl, by rw [hR2]; exact Nat.le_of_ble_eq_true rfl⟩ : CallW R s args RX8 RX8 120 yX8_valueOfWhole cX8_valueOfWhole 2 (some .int) wsX8_valueOfWhole rmX8_valueOfWhole 0 0 1)
  have hc_184 := (cwV 1 hts gX8_digest_X8_mixedKinds rfl rfl rfl (by decide +kernel) ⟨by rw [hR1]; exact Nat.le_of_ble_eq_true rfl, by rw [hR2]; exact Nat.le_of_ble_eq_true rfl⟩ : CallW R s args RX8 RX8 184 yX8_mixedKinds cX8_mixedKinds 7 (some .long) wsX8_mixedKinds rmX8_mixedKinds 0 0 1)
  have hc_188 := (cwV 1 hts gX8_digest_X8_mixedHouses rfl rfl rfl (by decide +kernel) ⟨by rw [hR1]; exact Nat.le_of_ble_eq_true rfl, by rw [hR2]; exact Nat.le_of_ble_eq_true rfl⟩ : CallW R s args RX8 RX8 188 yX8_mixedHouses cX8_mixedHouses 7 (some .long) wsX8_mixedHouses rmX8_mixedHouses 0 0 1)
  have hc_191 := (cwV 1 hts gX8_digest_X8_mixedDoughs rfl rfl rfl (by decide +kernel) ⟨by rw [hR1]; exact Nat.le_of_ble_eq_true rfl, by rw [hR2]; exact Nat.le_of_ble_eq_true rfl⟩ : CallW R s args RX8 RX8 191 yX8_mixedDoughs cX8_mixedDoughs 7 (some .long) wsX8_mixedDoughs rmX8_mixedDoughs 0 0 1)
  have hc_194 := (cwV 1 hts gX8_digest_X8_mixedPlaces rfl rfl rfl (by decide +kernel) ⟨by rw [hR1]; exact Nat.le_of_ble_eq_true rfl, by rw [hR2]; exact Nat.le_of_ble_eq_true rfl⟩ : CallW R s args RX8 RX8 194 yX8_mixedPlaces cX8_mixedPlaces 7 (some .long) wsX8_mixedPlaces rmX8_mixedPlaces 0 0 1)
  have hc_141 := (cwV 1 hts gX8_digest_X8_heatAfter rfl rfl rfl (by decide +kernel) ⟨by rw [hR1]; exact Nat.le_of_ble_eq_true rfl, by rw [hR2]; exact Nat.le_of_ble_eq_true rfl⟩ : CallW R s args RX8 RX8 141 yX8_heatAfter cX8_heatAfter 2 (some .int) wsX8_heatAfter rmX8_heatAfter 0 0 1)
  unfold m8_digest at hf
  refine lv_ldc2 (v := 43350) hx hb hown hk_c178 dX8_digest_0 ?_
  refine lv_aload_n hx hb dX8_digest_3 rfl (lv_at hl 0 rfl) ?_
  refine w_get hx hb hts iX8_digest_X8 hown hP hK (by decide) emb_bt rfl 2 (by decide) hk_f22 rfl dX8_digest_4 ?_
  obtain ⟨x1, hc2, hf⟩ := lt1_e hf
  refine w_ci ⟨hx, hb, hml, hown, hts⟩ hP hK hS (k2_size l hX w hc2) hc_172 (w_recv hP hK (by decide) emb_hi rfl) rfl hl.1 rfl (Nat.le_of_ble_eq_true rfl) dX8_digest_7 ⟨Nat.zero_le _, Nat.zero_le _⟩ (fun H locs hP hS => ?_)
  obtain ⟨x3, hc4, hf⟩ := lt1_e hf
  refine w_csj ⟨hx, hb, hml, hown, hts⟩ hP hK hS (k8_mixed l hX (pbt w f0 g0 c0 y0 o0) hc4) hc_180 rfl hl.1 rfl (Nat.le_of_ble_eq_true rfl) dX8_digest_10 ⟨Nat.zero_le _, Nat.zero_le _⟩ (fun H locs hP hS => ?_)
  refine lv_lstore_n (lv' := [(1, .long x3), (0, .ref (xa X 306))]) hx hb dX8_digest_13 rfl hl (by decide) rfl (fun ls hl => ?_)
  refine lv_iconst (v := 0) hx hb dX8_digest_14 (by decide) ?_
  refine lv_istore_n (lv' := [(3, .int 0), (1, .long x3), (0, .ref (xa X 306))]) hx hb dX8_digest_15 rfl hl (by decide) rfl (fun ls hl => ?_)
  have L16 : ∀ (n : Nat) (x6 : Int64) (x7 : Int32)  (o8 : Int64) (H : Heap) (locs : List Loc) (ls : Array Slot), m8_digest_L16 N n x6 x7 f0 c0 = some o8 → HW X (pbt w f0 g0 c0 y0 o0) H → va_S (xF b0) s.heap H locs → lv_has ls 4 [(0, .ref (xa X 306)), (1, .long x6), (3, .int x7)] → (∀ (H1 : Heap) (locs1 : List Loc) (ls1 : Array Slot), HW X (pbt w f0 g0 c0 y0 o0) H1 → va_S (xF b0) s.heap H1 locs1 → lv_has ls1 4 [(0, .ref (xa X 306)), (1, .long o8)] → W p l e R s m args below meth c H1 locs1 0 0 Q (F0 m 38 ls1 [])) → W p l e R s m args below meth c H locs 0 0 Q (F0 m 16 ls []) := by
    intro n; induction n with
    | zero => intro x6 x7 o8 H locs ls hf; rw [m8_digest_L16] at hf; cases hf
    | succ n ih =>
      intro x6 x7 o8 H locs ls hf hP hS hl K
      rw [m8_digest_L16] at hf
      refine lv_iload_n hx hb dX8_digest_16 rfl (lv_at hl 2 rfl) ?_
      refine lv_bipush (v := 15) hx hb dX8_digest_17 (by decide) ?_
      refine lv_icmp_ge (tgt := 38) hx hb dX8_digest_19 (by decide) (fun h9 => ?_) (fun h9 => ?_)
      · rw [if_pos h9] at hf
        have hf := Option.some.inj hf
        obtain rfl := hf
        exact K _ _ _ hP hS (lv_sub hl [0, 1] rfl)
      · rw [if_neg h9] at hf
        refine lv_lload_n hx hb dX8_digest_22 rfl (lv_at hl 1 rfl) ?_
        refine lv_aload_n hx hb dX8_digest_23 rfl (lv_at hl 0 rfl) ?_
        refine lv_iload_n hx hb dX8_digest_24 rfl (lv_at hl 2 rfl) ?_
        obtain ⟨x10, hc11, hf⟩ := ob1_e hf
        refine w_ci ⟨hx, hb, hml, hown, hts⟩ hP hK hS (k8_valueOfWhole l hX w hc11) hc_120 (w_recv hP hK (by decide) emb_bt rfl) rfl hl.1 rfl (Nat.le_of_ble_eq_true rfl) dX8_digest_25 ⟨Nat.zero_le _, Nat.zero_le _⟩ (fun H locs hP hS => ?_)
        obtain ⟨x12, hc13, hf⟩ := lt1_e hf
        refine w_csj ⟨hx, hb, hml, hown, hts⟩ hP hK hS (k8_mixed l hX (pbt w f0 g0 c0 y0 o0) hc13) hc_180 rfl hl.1 rfl (Nat.le_of_ble_eq_true rfl) dX8_digest_28 ⟨Nat.zero_le _, Nat.zero_le _⟩ (fun H locs hP hS => ?_)
        refine lv_lstore_n (lv' := [(1, .long x12), (0, .ref (xa X 306)), (3, .int x7)]) hx hb dX8_digest_31 rfl hl (by decide) rfl (fun ls hl => ?_)
        obtain ⟨x14, ex14⟩ : ∃ y : Int32, y = x7 + 1 := ⟨_, rfl⟩
        replace hf := ltn_s ex14 hf
        refine lv_iinc (v := x14) (lv' := [(3, .int x14), (1, .long x12), (0, .ref (xa X 306))]) hx hb dX8_digest_32 hl (k := 2) rfl (by rw [ex14]; rfl) (by decide) rfl (fun ls hl => ?_)
        refine lv_goto (tgt := 16) hx hb dX8_digest_35 (by decide) ?_
        exact ih x12 x14 o8 _ _ _ hf hP hS (lv_sub hl [2, 1, 0] rfl) K
  obtain ⟨x15, hc16, hf⟩ := ob1_e hf
  refine L16 N x3 0  x15 _ _ _ hc16 hP hS (lv_sub hl [2, 1, 0] rfl) (fun H locs ls hP hS hl => ?_)
  refine lv_aload_n hx hb dX8_digest_38 rfl (lv_at hl 0 rfl) ?_
  refine lv_lload_n hx hb dX8_digest_39 rfl (lv_at hl 1 rfl) ?_
  obtain ⟨x17, hc18, hf⟩ := ob1_e hf
  refine w_cj ⟨hx, hb, hml, hown, hts⟩ hP hK hS (k8_mixedKinds l hX w hc18) hc_184 (w_recv hP hK (by decide) emb_bt rfl) rfl hl.1 rfl (Nat.le_of_ble_eq_true rfl) dX8_digest_40 ⟨Nat.zero_le _, Nat.zero_le _⟩ (fun H locs hP hS => ?_)
  refine lv_lstore_n (lv' := [(1, .long x17), (0, .ref (xa X 306))]) hx hb dX8_digest_43 rfl hl (by decide) rfl (fun ls hl => ?_)
  refine lv_aload_n hx hb dX8_digest_44 rfl (lv_at hl 1 rfl) ?_
  refine lv_lload_n hx hb dX8_digest_45 rfl (lv_at hl 0 rfl) ?_
  obtain ⟨x19, hc20, hf⟩ := ob1_e hf
  refine w_cj ⟨hx, hb, hml, hown, hts⟩ hP hK hS (k8_mixedHouses l hX w hc20) hc_188 (w_recv hP hK (by decide) emb_bt rfl) rfl hl.1 rfl (Nat.le_of_ble_eq_true rfl) dX8_digest_46 ⟨Nat.zero_le _, Nat.zero_le _⟩ (fun H locs hP hS => ?_)
  refine lv_lstore_n (lv' := [(1, .long x19), (0, .ref (xa X 306))]) hx hb dX8_digest_49 rfl hl (by decide) rfl (fun ls hl => ?_)
  refine lv_aload_n hx hb dX8_digest_50 rfl (lv_at hl 1 rfl) ?_
  refine lv_lload_n hx hb dX8_digest_51 rfl (lv_at hl 0 rfl) ?_
  obtain ⟨x21, hc22, hf⟩ := ob1_e hf
  refine w_cj ⟨hx, hb, hml, hown, hts⟩ hP hK hS (k8_mixedDoughs l hX w hc22) hc_191 (w_recv hP hK (by decide) emb_bt rfl) rfl hl.1 rfl (Nat.le_of_ble_eq_true rfl) dX8_digest_52 ⟨Nat.zero_le _, Nat.zero_le _⟩ (fun H locs hP hS => ?_)
  refine lv_lstore_n (lv' := [(1, .long x21), (0, .ref (xa X 306))]) hx hb dX8_digest_55 rfl hl (by decide) rfl (fun ls hl => ?_)
  refine lv_aload_n hx hb dX8_digest_56 rfl (lv_at hl 1 rfl) ?_
  refine lv_lload_n hx hb dX8_digest_57 rfl (lv_at hl 0 rfl) ?_
  obtain ⟨x23, hc24, hf⟩ := ob1_e hf
  refine w_cj ⟨hx, hb, hml, hown, hts⟩ hP hK hS (k8_mixedPlaces l hX w hc24) hc_194 (w_recv hP hK (by decide) emb_bt rfl) rfl hl.1 rfl (Nat.le_of_ble_eq_true rfl) dX8_digest_58 ⟨Nat.zero_le _, Nat.zero_le _⟩ (fun H locs hP hS => ?_)
  refine lv_lstore_n (lv' := [(1, .long x23), (0, .ref (xa X 306))]) hx hb dX8_digest_61 rfl hl (by decide) rfl (fun ls hl => ?_)
  refine lv_lload_n hx hb dX8_digest_62 rfl (lv_at hl 0 rfl) ?_
  refine lv_aload_n hx hb dX8_digest_63 rfl (lv_at hl 1 rfl) ?_
  refine lv_bipush (v := 10) hx hb dX8_digest_64 (by decide) ?_
  obtain ⟨x25, g26, hc27, hf⟩ := ob2_e hf
  refine w_ci ⟨hx, hb, hml, hown, hts⟩ hP hK hS (k8_heatAfter l hX w hc27) hc_141 (w_recv hP hK (by decide) emb_bt rfl) rfl hl.1 rfl (Nat.le_of_ble_eq_true rfl) dX8_digest_66 ⟨Nat.zero_le _, Nat.zero_le _⟩ (fun H locs hP hS => ?_)
  obtain ⟨x28, hc29, hf⟩ := lt1_e hf
  refine w_csj ⟨hx, hb, hml, hown, hts⟩ hP hK hS (k8_mixed l hX (pbt w f0 g26 c0 y0 o0) hc29) hc_180 rfl hl.1 rfl (Nat.le_of_ble_eq_true rfl) dX8_digest_69 ⟨Nat.zero_le _, Nat.zero_le _⟩ (fun H locs hP hS => ?_)
  have hf := Option.some.inj hf
  simp only [Prod.mk.injEq] at hf
  obtain ⟨rfl, rfl⟩ := hf
  rw [hQ]
  exact w_lret hx hb hr hlocks hP hK hS dX8_digest_72 rfl rfl
