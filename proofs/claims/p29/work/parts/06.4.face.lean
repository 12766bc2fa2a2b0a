/-! the face where it does not throw -/
abbrev rmX8_refuse : Room := { frames := 0, cells := 0, slots := 0, locals := 0 }
set_option maxHeartbeats 4000000 in
set_option maxRecDepth 100000 in
theorem k8_refuse (l : Launch) {X : bkX} {b0 : Nat} {x : Int32} (h : ¬ (x = 1 ∨ x = 2 ∨ x = 3)) (w : bkW) : cV l yX8_refuse wsX8_refuse rmX8_refuse X b0 [.int x] w w := by
  refine Met.ofW (cc := cX8_refuse) (maxL := 1) (ret := none) (by decide) rfl ?_
  intro p e s m args below meth c s₁ B hml hv
  obtain ⟨ha, hP, hK⟩ := hv
  have hx := B.exec
  have hb := B.bytes
  have hr := B.returns
  have hts := atoms_spec (ws := wsX8_refuse) B.pre
  have hown : s.vm.findClass RX8 = some m.cls := findClass_of_methodNamed B.named
  have hlocks := B.notSynchronized
  have hS : va_S (xF b0) s.heap s.heap [] := va_S.rf
  have hl := lv_entry ([.int x]) (n := 1) (Nat.le_of_ble_eq_true rfl)
  refine W.eq ((congrArg (fun z => entryFrame m z 1) ha).trans (lg_entry_eq m _ 1)) ?_
  generalize (lg_sl ([.int x]) ++ List.replicate (1 - (lg_sl ([.int x])).length) Slot.unset).toArray = ls at hl ⊢
  have hl : lv_has ls 1 [(0, .int x)] := hl
  refine lv_iload_n hx hb dX8_refuse_0 rfl (lv_at hl 0 rfl) ?_
  have hdf : x.toInt < 1 ∨ 3 < x.toInt := by
    have g1 := ne_i (z := 1) (fun q => h (Or.inl q)) (by decide)
    have g2 := ne_i (z := 2) (fun q => h (Or.inr (Or.inl q))) (by decide)
    have g3 := ne_i (z := 3) (fun q => h (Or.inr (Or.inr q))) (by decide)
    omega
  refine lv_tableOut (tgt := 58) hx hb dX8_refuse_1 hdf (by decide) ?_
  exact w_vret hx hb hr hlocks hP hK hS dX8_refuse_58 rfl
def m8_addKind (f0 : bkA) (y0 : Nat → bkA) (o0 : Nat → Int32) (a1 : Int32) (a2 : Int32) (a3 : Int32) (a4 : Int32) (a5 : Int32) : Option (Int32 × bkA × (Nat → bkA) × (Nat → Int32)) :=
  lt1 (m7_refusalOfKind f0 a1 a2 a3 a4 a5) fun x1 =>
  ckp (¬ (x1 = 1 ∨ x1 = 2 ∨ x1 = 3)) <|
  ob2 (m2_save f0 y0 o0) fun y4 o5 =>
  lt2 (m7_newKind f0 a1 a2 a3 a4 a5) fun x7 f8 =>
  some (x7, f8, y4, o5)
def m8_addHouse (f0 : bkA) (y0 : Nat → bkA) (o0 : Nat → Int32) : Option (Int32 × bkA × (Nat → bkA) × (Nat → Int32)) :=
  lt1 (m7_refusalOfHouse f0) fun x1 =>
  ckp (¬ (x1 = 1 ∨ x1 = 2 ∨ x1 = 3)) <|
  ob2 (m2_save f0 y0 o0) fun y4 o5 =>
  lt2 (m7_newHouse f0) fun x7 f8 =>
  some (x7, f8, y4, o5)
def m8_addDough (f0 : bkA) (y0 : Nat → bkA) (o0 : Nat → Int32) (a1 : Int32) (a2 : Int32) (a3 : Int32) : Option (Int32 × bkA × (Nat → bkA) × (Nat → Int32)) :=
  lt1 (m7_refusalOfDough f0 a1 a2 a3) fun x1 =>
  ckp (¬ (x1 = 1 ∨ x1 = 2 ∨ x1 = 3)) <|
  ob2 (m2_save f0 y0 o0) fun y4 o5 =>
  lt2 (m7_newDough f0 a1 a2 a3) fun x7 f8 =>
  some (x7, f8, y4, o5)
def m8_swap (N : Nat) (f0 : bkA) (y0 : Nat → bkA) (o0 : Nat → Int32) (a1 : Int32) (a2 : Int32) : Option (Int32 × bkA × (Nat → bkA) × (Nat → Int32)) :=
  lt1 (m7_refusalOfSwap f0 a1 a2) fun x1 =>
  ckp (¬ (x1 = 1 ∨ x1 = 2 ∨ x1 = 3)) <|
  ob2 (m2_save f0 y0 o0) fun y4 o5 =>
  ob2 (m7_exchange N f0 a1 a2) fun x7 f8 =>
  some (x7, f8, y4, o5)
def m8_bring (f0 : bkA) (y0 : Nat → bkA) (o0 : Nat → Int32) (a1 : Int32) (a2 : Int32) : Option (Int32 × bkA × (Nat → bkA) × (Nat → Int32)) :=
  lt1 (m7_refusalOfBring f0 a1 a2) fun x1 =>
  ckp (¬ (x1 = 1 ∨ x1 = 2 ∨ x1 = 3)) <|
  ob2 (m2_save f0 y0 o0) fun y4 o5 =>
  lt2 (m7_takeLogs f0 a1 a2) fun x7 f8 =>
  some (x7, f8, y4, o5)
def m8_stoke (f0 : bkA) (y0 : Nat → bkA) (o0 : Nat → Int32) (a1 : Int32) (a2 : Int32) : Option (Int32 × bkA × (Nat → bkA) × (Nat → Int32)) :=
  lt1 (m7_refusalOfStoke f0 a1 a2) fun x1 =>
  ckp (¬ (x1 = 1 ∨ x1 = 2 ∨ x1 = 3)) <|
  ob2 (m2_save f0 y0 o0) fun y4 o5 =>
  lt2 (m7_burnLogs f0 a1 a2) fun x7 f8 =>
  some (x7, f8, y4, o5)
def m8_pass (N : Nat) (f0 : bkA) (y0 : Nat → bkA) (o0 : Nat → Int32) (a1 : Int32) : Option (Int32 × bkA × (Nat → bkA) × (Nat → Int32)) :=
  lt1 (m7_refusalOfPass f0 a1) fun x1 =>
  ckp (¬ (x1 = 1 ∨ x1 = 2 ∨ x1 = 3)) <|
  ob2 (m2_save f0 y0 o0) fun y4 o5 =>
  ob2 (m7_passTicks N f0 a1) fun x7 f8 =>
  some (x7, f8, y4, o5)
def m8_house (N : Nat) (f0 : bkA) (a1 : Int32) (a2 : Int32) : Option (Int32) :=
  lt1 (m7_isHouse f0 a1) fun x1 =>
  lt1 (m8_refusalOfValue x1 a2 7) fun x3 =>
  ckp (¬ (x3 = 1 ∨ x3 = 2 ∨ x3 = 3)) <|
  ob1 (m7_valueOfHouse N f0 a1 a2) fun x6 =>
  some x6
def m8_dough (N : Nat) (f0 : bkA) (a1 : Int32) (a2 : Int32) : Option (Int32) :=
  lt1 (m7_isDough f0 a1) fun x1 =>
  lt1 (m8_refusalOfValue x1 a2 10) fun x3 =>
  ckp (¬ (x3 = 1 ∨ x3 = 2 ∨ x3 = 3)) <|
  ob1 (m7_valueOfDough N f0 a1 a2) fun x6 =>
  some x6
def m8_place (f0 : bkA) (a1 : Int32) (a2 : Int32) : Option (Int32) :=
  lt1 (
      if a1 < 0 then
        (0 : Int32)
      else
        if 12 ≤ a1 then
          (0 : Int32)
        else
          (1 : Int32)) fun x3 =>
  lt1 (m8_refusalOfValue x3 a2 4) fun x6 =>
  ckp (¬ (x6 = 1 ∨ x6 = 2 ∨ x6 = 3)) <|
  lt1 (m7_valueOfPlace f0 a1 a2) fun x9 =>
  some x9
def m8_whole (N : Nat) (f0 : bkA) (c0 : bkA) (a1 : Int32) : Option (Int32) :=
  lt1 (m8_refusalOfValue 1 a1 15) fun x1 =>
  ckp (¬ (x1 = 1 ∨ x1 = 2 ∨ x1 = 3)) <|
  ob1 (m8_valueOfWhole N f0 c0 a1) fun x4 =>
  some x4
def m8_line (f0 : bkA) (a1 : Int32) : Option (Int32) :=
  lt1 (
      if 0 ≤ a1 then
        (0 : Int32)
      else
        (2 : Int32)) fun x2 =>
  ckp (¬ (x2 = 1 ∨ x2 = 2 ∨ x2 = 3)) <|
  lt1 (m7_doughInLine f0 a1) fun x5 =>
  some x5
def m8_reason (N : Nat) (f0 : bkA) (a1 : Int32) : Option (Int32) :=
  lt1 (m7_isDough f0 a1) fun x1 =>
  lt1 (
      if x1 = 0 then
        (1 : Int32)
      else
        (0 : Int32)) fun x4 =>
  ckp (¬ (x4 = 1 ∨ x4 = 2 ∨ x4 = 3)) <|
  ob1 (m7_reasonNow N f0 a1) fun x7 =>
  some x7
def m8_loadedIn_L45 (N : Nat) : Nat → (Int32) → (Int32) → (bkA) → Option (Int32 × bkA)
  | 0, _, _, _ => none
  | n+1, x11, x12, g13 =>
    if 60 < x12 then
      some ((-1), g13)
    else
      ob2 (m7_passTicks N g13 1) fun x15 g16 =>
      lt1 (m7_wasLoaded g16 x11) fun x18 =>
      if x18 = 0 then
        lt_ (x12 + 1) fun x21 =>
        m8_loadedIn_L45 N n x11 x21 g16
      else
        some (x12, g16)
def m8_loadedIn (N : Nat) (f0 : bkA) (g0 : bkA) (a1 : Int32) : Option (Int32 × bkA) :=
  lt1 (m7_isDough f0 a1) fun x1 =>
  lt1 (
      if x1 = 0 then
        (1 : Int32)
      else
        (0 : Int32)) fun x4 =>
  ckp (¬ (x4 = 1 ∨ x4 = 2 ∨ x4 = 3)) <|
  lt1 (m7_isWaiting f0 a1) fun x7 =>
  if x7 = 0 then
    some ((-1), g0)
  else
    m8_loadedIn_L45 N N a1 1 f0
def m8_neededLogs (N : Nat) (f0 : bkA) (a1 : Int32) : Option (Int32) :=
  lt1 (m7_isDough f0 a1) fun x1 =>
  lt1 (
      if x1 = 0 then
        (1 : Int32)
      else
        (0 : Int32)) fun x4 =>
  ckp (¬ (x4 = 1 ∨ x4 = 2 ∨ x4 = 3)) <|
  ob1 (m7_fewestLogsFor N f0 a1) fun x7 =>
  some x7
def m8_heatIn (N : Nat) (f0 : bkA) (g0 : bkA) (a1 : Int32) : Option (Int32 × bkA) :=
  lt1 (
      if a1 < 0 then
        (2 : Int32)
      else
        if a1 ≤ 100 then
          (0 : Int32)
        else
          (2 : Int32)) fun x3 =>
  ckp (¬ (x3 = 1 ∨ x3 = 2 ∨ x3 = 3)) <|
  ob2 (m8_heatAfter N f0 g0 a1) fun x7 g8 =>
  some (x7, g8)
def m8_spoiledIn (N : Nat) (f0 : bkA) (g0 : bkA) (a1 : Int32) : Option (Int32 × bkA) :=
  lt1 (
      if a1 < 0 then
        (2 : Int32)
      else
        if a1 ≤ 100 then
          (0 : Int32)
        else
          (2 : Int32)) fun x3 =>
  ckp (¬ (x3 = 1 ∨ x3 = 2 ∨ x3 = 3)) <|
  ob2 (m7_passTicks N f0 a1) fun x7 g8 =>
  ob1 (m7_setOfSpoiled N g8) fun x10 =>
  ob1 (m7_setOfSpoiled N f0) fun x12 =>
  some (x10 &&& (x12 ^^^ (-1)), g8)
def m8_owes (N : Nat) (f0 : bkA) (a1 : Int32) : Option (Int32) :=
  lt1 (m7_isHouse f0 a1) fun x1 =>
  lt1 (
      if x1 = 0 then
        (1 : Int32)
      else
        (0 : Int32)) fun x4 =>
  ckp (¬ (x4 = 1 ∨ x4 = 2 ∨ x4 = 3)) <|
  ob1 (m7_owedBy N f0 a1) fun x7 =>
  some x7
def m8_undo (f0 : bkA) (y0 : Nat → bkA) (o0 : Nat → Int32) : Option (Int32 × bkA × (Nat → Int32)) :=
  lt1 (m2_size o0) fun x1 =>
  lt1 (
      if x1 = 0 then
        (3 : Int32)
      else
        (0 : Int32)) fun x4 =>
  ckp (¬ (x4 = 1 ∨ x4 = 2 ∨ x4 = 3)) <|
  ob2 (m2_restoreTo f0 y0 o0) fun f7 o8 =>
  lt1 (m2_size o8) fun x10 =>
  some (x10, f7, o8)
abbrev rmX8_addKind : Room := { frames := 5, cells := 0, slots := 0, locals := 145 }
theorem iX8_addKind_X8 : ∀ w ∈ wsX80, w ∈ wsX8_addKind := by decide +kernel
set_option maxHeartbeats 4000000 in
set_option maxRecDepth 100000 in
theorem k8_addKind (l : Launch) {X : bkX} {b0 : Nat} (hX : XO X b0) (w : bkW) {f0 : bkA} {g0 : bkA} {c0 : bkA} {y0 : Nat → bkA} {o0 : Nat → Int32} {a1 : Int32} {a2 : Int32} {a3 : Int32} {a4 : Int32} {a5 : Int32} {res9 : Int32} {f9 : bkA} {y9 : Nat → bkA} {o9 : Nat → Int32} (hf : m8_addKind f0 y0 o0 a1 a2 a3 a4 a5 = some (res9, f9, y9, o9)) : cI l yX8_addKind wsX8_addKind rmX8_addKind X b0 [.ref (xa X 306), .int a1, .int a2, .int a3, .int a4, .int a5] (pbt w f0 g0 c0 y0 o0) res9 (pbt w f9 g0 c0 y9 o9) := by
  refine Met.ofW (cc := cX8_addKind) (maxL := 6) (ret := (some .int)) (by decide) rfl ?_
  intro p e s m args below meth c s₁ B hml hv
  obtain ⟨ha, hP, hK⟩ := hv
  have hx := B.exec
  have hb := B.bytes
  have hr := B.returns
  have hts := atoms_spec (ws := wsX8_addKind) B.pre
  have hown : s.vm.findClass RX8 = some m.cls := findClass_of_methodNamed B.named
  have hlocks := B.notSynchronized
  obtain ⟨R, hR⟩ : ∃ R, R = (headSpec wsX8_addKind rmX8_addKind).room := ⟨_, rfl⟩
  rw [← hR]
  have hR1 : R.frames = 5 := by rw [hR]; rfl
  have hR2 : R.locals = 145 := by rw [hR]; rfl
  obtain ⟨Q, hQ⟩ : ∃ Q : State → Prop, Q = MQ below (va_Qi (fun r' (_ : Unit) => r' = res9) (fun _ t => WU X (pbt w f9 g0 c0 y9 o9) t) (xF b0)) args s 0 0 (xF b0) := ⟨_, rfl⟩
  rw [← hQ]
  have hS : va_S (xF b0) s.heap s.heap [] := va_S.rf
  have hl := lv_entry ([.ref (xa X 306), .int a1, .int a2, .int a3, .int a4, .int a5]) (n := 6) (Nat.le_of_ble_eq_true rfl)
  refine W.eq ((congrArg (fun z => entryFrame m z 6) ha).trans (lg_entry_eq m _ 6)) ?_
  generalize (lg_sl ([.ref (xa X 306), .int a1, .int a2, .int a3, .int a4, .int a5]) ++ List.replicate (6 - (lg_sl ([.ref (xa X 306), .int a1, .int a2, .int a3, .int a4, .int a5])).length) Slot.unset).toArray = ls at hl ⊢
  have hl : lv_has ls 6 [(0, .ref (xa X 306)), (1, .int a1), (2, .int a2), (3, .int a3), (4, .int a4), (5, .int a5)] := hl
  have hk_f10 := hts (.fieldLink RX8 10 "BakeTurns" "now" "LBakeTurns$State;") (by decide +kernel)
  have hc_33 := (cwV 5 hts gX8_addKind_X7_refusalOfKind rfl rfl rfl (by decide +kernel) ⟨by rw [hR1]; exact Nat.le_of_ble_eq_true rfl, by rw [hR2]; exact Nat.le_of_ble_eq_true rfl⟩ : CallW R s args RX8 RX7 33 yX7_refusalOfKind cX7_refusalOfKind 6 (some .int) wsX7_refusalOfKind rmX7_refusalOfKind 0 0 5)
  have hc_37 := (va_cwS 1 hts gX8_addKind_X8_refuse rfl rfl rfl (by decide +kernel) ⟨by rw [hR1]; exact Nat.le_of_ble_eq_true rfl, by rw [hR2]; exact Nat.le_of_ble_eq_true rfl⟩ : CallB R s args RX8 37 yX8_refuse cX8_refuse 1 none wsX8_refuse rmX8_refuse 0 0 1 ∧ (Cond.static yX8_refuse).before args s = true)
  have hk_f22 := hts (.fieldLink RX8 22 "BakeTurns" "history" "LBakeTurns$History;") (by decide +kernel)
  have hc_41 := (cwV 1 hts gX8_addKind_X2_save rfl rfl rfl (by decide +kernel) ⟨by rw [hR1]; exact Nat.le_of_ble_eq_true rfl, by rw [hR2]; exact Nat.le_of_ble_eq_true rfl⟩ : CallW R s args RX8 RX2 41 yX2_save cX2_save 3 none wsX2_save rmX2_save 0 0 1)
  have hc_45 := (cwV 5 hts gX8_addKind_X7_newKind rfl rfl rfl (by decide +kernel) ⟨by rw [hR1]; exact Nat.le_of_ble_eq_true rfl, by rw [hR2]; exact Nat.le_of_ble_eq_true rfl⟩ : CallW R s args RX8 RX7 45 yX7_newKind cX7_newKind 7 (some .int) wsX7_newKind rmX7_newKind 0 0 5)
  unfold m8_addKind at hf
  refine lv_aload_n hx hb dX8_addKind_0 rfl (lv_at hl 0 rfl) ?_
  refine w_get hx hb hts iX8_addKind_X8 hown hP hK (by decide) emb_bt rfl 0 (by decide) hk_f10 rfl dX8_addKind_1 ?_
  refine lv_iload_n hx hb dX8_addKind_4 rfl (lv_at hl 1 rfl) ?_
  refine lv_iload_n hx hb dX8_addKind_5 rfl (lv_at hl 2 rfl) ?_
  refine lv_iload_n hx hb dX8_addKind_6 rfl (lv_at hl 3 rfl) ?_
  refine lv_iload hx hb dX8_addKind_7 (lv_at hl 4 rfl) ?_
  refine lv_iload hx hb dX8_addKind_9 (lv_at hl 5 rfl) ?_
  obtain ⟨x1, hc2, hf⟩ := lt1_e hf
  refine w_ci ⟨hx, hb, hml, hown, hts⟩ hP hK hS (by have hM := k7_refusalOfKind l hX (k := 0) (by decide) (pbt w f0 g0 c0 y0 o0) hc2; simp only [pbt_f] at hM; exact hM) hc_33 (st_recv (k := 0) (i0 := 0) (HW_f hP) hK (by decide) (by decide) rfl rfl) rfl hl.1 rfl (Nat.le_of_ble_eq_true rfl) dX8_addKind_11 ⟨Nat.zero_le _, Nat.zero_le _⟩ (fun H locs hP hS => ?_)
  obtain ⟨hth3, hf⟩ := ckp_e hf
  refine w_csv ⟨hx, hb, hml, hown, hts⟩ hP hK hS (k8_refuse l hth3 _) hc_37 rfl hl.1 rfl (Nat.le_of_ble_eq_true rfl) dX8_addKind_14 ⟨Nat.zero_le _, Nat.zero_le _⟩ (fun H locs hP hS => ?_)
  refine lv_aload_n hx hb dX8_addKind_17 rfl (lv_at hl 0 rfl) ?_
  refine w_get hx hb hts iX8_addKind_X8 hown hP hK (by decide) emb_bt rfl 2 (by decide) hk_f22 rfl dX8_addKind_18 ?_
  refine lv_aload_n hx hb dX8_addKind_21 rfl (lv_at hl 0 rfl) ?_
  refine w_get hx hb hts iX8_addKind_X8 hown hP hK (by decide) emb_bt rfl 0 (by decide) hk_f10 rfl dX8_addKind_22 ?_
  obtain ⟨y4, o5, hc6, hf⟩ := ob2_e hf
  refine w_cv ⟨hx, hb, hml, hown, hts⟩ hP hK hS (k2_save l hX w hc6) hc_41 (w_recv hP hK (by decide) emb_hi rfl) rfl hl.1 rfl (Nat.le_of_ble_eq_true rfl) dX8_addKind_25 ⟨Nat.zero_le _, Nat.zero_le _⟩ (fun H locs hP hS => ?_)
  refine lv_aload_n hx hb dX8_addKind_28 rfl (lv_at hl 0 rfl) ?_
  refine w_get hx hb hts iX8_addKind_X8 hown hP hK (by decide) emb_bt rfl 0 (by decide) hk_f10 rfl dX8_addKind_29 ?_
  refine lv_iload_n hx hb dX8_addKind_32 rfl (lv_at hl 1 rfl) ?_
  refine lv_iload_n hx hb dX8_addKind_33 rfl (lv_at hl 2 rfl) ?_
  refine lv_iload_n hx hb dX8_addKind_34 rfl (lv_at hl 3 rfl) ?_
  refine lv_iload hx hb dX8_addKind_35 (lv_at hl 4 rfl) ?_
  refine lv_iload hx hb dX8_addKind_37 (lv_at hl 5 rfl) ?_
  obtain ⟨x7, f8, hc9, hf⟩ := lt2_e hf
  refine w_ci ⟨hx, hb, hml, hown, hts⟩ hP hK hS (by have hM := k7_newKind l hX (k := 0) (by decide) (pbt w f0 g0 c0 y4 o5) hc9; simp only [pbt_f] at hM; exact hM) hc_45 (st_recv (k := 0) (i0 := 0) (HW_f hP) hK (by decide) (by decide) rfl rfl) rfl hl.1 rfl (Nat.le_of_ble_eq_true rfl) dX8_addKind_39 ⟨Nat.zero_le _, Nat.zero_le _⟩ (fun H locs hP hS => ?_)
  have hf := Option.some.inj hf
  simp only [Prod.mk.injEq] at hf
  obtain ⟨rfl, rfl, rfl, rfl⟩ := hf
  rw [hQ]
  exact w_iret hx hb hr hlocks hP hK hS dX8_addKind_42 rfl rfl
abbrev rmX8_addHouse : Room := { frames := 5, cells := 0, slots := 0, locals := 145 }
theorem iX8_addHouse_X8 : ∀ w ∈ wsX80, w ∈ wsX8_addHouse := by decide +kernel
set_option maxHeartbeats 4000000 in
set_option maxRecDepth 100000 in
theorem k8_addHouse (l : Launch) {X : bkX} {b0 : Nat} (hX : XO X b0) (w : bkW) {f0 : bkA} {g0 : bkA} {c0 : bkA} {y0 : Nat → bkA} {o0 : Nat → Int32} {res9 : Int32} {f9 : bkA} {y9 : Nat → bkA} {o9 : Nat → Int32} (hf : m8_addHouse f0 y0 o0 = some (res9, f9, y9, o9)) : cI l yX8_addHouse wsX8_addHouse rmX8_addHouse X b0 [.ref (xa X 306)] (pbt w f0 g0 c0 y0 o0) res9 (pbt w f9 g0 c0 y9 o9) := by
  refine Met.ofW (cc := cX8_addHouse) (maxL := 1) (ret := (some .int)) (by decide) rfl ?_
  intro p e s m args below meth c s₁ B hml hv
  obtain ⟨ha, hP, hK⟩ := hv
  have hx := B.exec
  have hb := B.bytes
  have hr := B.returns
  have hts := atoms_spec (ws := wsX8_addHouse) B.pre
  have hown : s.vm.findClass RX8 = some m.cls := findClass_of_methodNamed B.named
  have hlocks := B.notSynchronized
  obtain ⟨R, hR⟩ : ∃ R, R = (headSpec wsX8_addHouse rmX8_addHouse).room := ⟨_, rfl⟩
  rw [← hR]
  have hR1 : R.frames = 5 := by rw [hR]; rfl
  have hR2 : R.locals = 145 := by rw [hR]; rfl
  obtain ⟨Q, hQ⟩ : ∃ Q : State → Prop, Q = MQ below (va_Qi (fun r' (_ : Unit) => r' = res9) (fun _ t => WU X (pbt w f9 g0 c0 y9 o9) t) (xF b0)) args s 0 0 (xF b0) := ⟨_, rfl⟩
  rw [← hQ]
  have hS : va_S (xF b0) s.heap s.heap [] := va_S.rf
  have hl := lv_entry ([.ref (xa X 306)]) (n := 1) (Nat.le_of_ble_eq_true rfl)
  refine W.eq ((congrArg (fun z => entryFrame m z 1) ha).trans (lg_entry_eq m _ 1)) ?_
  generalize (lg_sl ([.ref (xa X 306)]) ++ List.replicate (1 - (lg_sl ([.ref (xa X 306)])).length) Slot.unset).toArray = ls at hl ⊢
  have hl : lv_has ls 1 [(0, .ref (xa X 306))] := hl
  have hk_f10 := hts (.fieldLink RX8 10 "BakeTurns" "now" "LBakeTurns$State;") (by decide +kernel)
  have hc_48 := (cwV 0 hts gX8_addHouse_X7_refusalOfHouse rfl rfl rfl (by decide +kernel) ⟨by rw [hR1]; exact Nat.le_of_ble_eq_true rfl, by rw [hR2]; exact Nat.le_of_ble_eq_true rfl⟩ : CallW R s args RX8 RX7 48 yX7_refusalOfHouse cX7_refusalOfHouse 1 (some .int) wsX7_refusalOfHouse rmX7_refusalOfHouse 0 0 0)
  have hc_37 := (va_cwS 1 hts gX8_addHouse_X8_refuse rfl rfl rfl (by decide +kernel) ⟨by rw [hR1]; exact Nat.le_of_ble_eq_true rfl, by rw [hR2]; exact Nat.le_of_ble_eq_true rfl⟩ : CallB R s args RX8 37 yX8_refuse cX8_refuse 1 none wsX8_refuse rmX8_refuse 0 0 1 ∧ (Cond.static yX8_refuse).before args s = true)
  have hk_f22 := hts (.fieldLink RX8 22 "BakeTurns" "history" "LBakeTurns$History;") (by decide +kernel)
  have hc_41 := (cwV 1 hts gX8_addHouse_X2_save rfl rfl rfl (by decide +kernel) ⟨by rw [hR1]; exact Nat.le_of_ble_eq_true rfl, by rw [hR2]; exact Nat.le_of_ble_eq_true rfl⟩ : CallW R s args RX8 RX2 41 yX2_save cX2_save 3 none wsX2_save rmX2_save 0 0 1)
  have hc_52 := (cwV 0 hts gX8_addHouse_X7_newHouse rfl rfl rfl (by decide +kernel) ⟨by rw [hR1]; exact Nat.le_of_ble_eq_true rfl, by rw [hR2]; exact Nat.le_of_ble_eq_true rfl⟩ : CallW R s args RX8 RX7 52 yX7_newHouse cX7_newHouse 2 (some .int) wsX7_newHouse rmX7_newHouse 0 0 0)
  unfold m8_addHouse at hf
  refine lv_aload_n hx hb dX8_addHouse_0 rfl (lv_at hl 0 rfl) ?_
  refine w_get hx hb hts iX8_addHouse_X8 hown hP hK (by decide) emb_bt rfl 0 (by decide) hk_f10 rfl dX8_addHouse_1 ?_
  obtain ⟨x1, hc2, hf⟩ := lt1_e hf
  refine w_ci ⟨hx, hb, hml, hown, hts⟩ hP hK hS (by have hM := k7_refusalOfHouse l hX (k := 0) (by decide) (pbt w f0 g0 c0 y0 o0) hc2; simp only [pbt_f] at hM; exact hM) hc_48 (st_recv (k := 0) (i0 := 0) (HW_f hP) hK (by decide) (by decide) rfl rfl) rfl hl.1 rfl (Nat.le_of_ble_eq_true rfl) dX8_addHouse_4 ⟨Nat.zero_le _, Nat.zero_le _⟩ (fun H locs hP hS => ?_)
  obtain ⟨hth3, hf⟩ := ckp_e hf
  refine w_csv ⟨hx, hb, hml, hown, hts⟩ hP hK hS (k8_refuse l hth3 _) hc_37 rfl hl.1 rfl (Nat.le_of_ble_eq_true rfl) dX8_addHouse_7 ⟨Nat.zero_le _, Nat.zero_le _⟩ (fun H locs hP hS => ?_)
  refine lv_aload_n hx hb dX8_addHouse_10 rfl (lv_at hl 0 rfl) ?_
  refine w_get hx hb hts iX8_addHouse_X8 hown hP hK (by decide) emb_bt rfl 2 (by decide) hk_f22 rfl dX8_addHouse_11 ?_
  refine lv_aload_n hx hb dX8_addHouse_14 rfl (lv_at hl 0 rfl) ?_
  refine w_get hx hb hts iX8_addHouse_X8 hown hP hK (by decide) emb_bt rfl 0 (by decide) hk_f10 rfl dX8_addHouse_15 ?_
  obtain ⟨y4, o5, hc6, hf⟩ := ob2_e hf
  refine w_cv ⟨hx, hb, hml, hown, hts⟩ hP hK hS (k2_save l hX w hc6) hc_41 (w_recv hP hK (by decide) emb_hi rfl) rfl hl.1 rfl (Nat.le_of_ble_eq_true rfl) dX8_addHouse_18 ⟨Nat.zero_le _, Nat.zero_le _⟩ (fun H locs hP hS => ?_)
  refine lv_aload_n hx hb dX8_addHouse_21 rfl (lv_at hl 0 rfl) ?_
  refine w_get hx hb hts iX8_addHouse_X8 hown hP hK (by decide) emb_bt rfl 0 (by decide) hk_f10 rfl dX8_addHouse_22 ?_
  obtain ⟨x7, f8, hc9, hf⟩ := lt2_e hf
  refine w_ci ⟨hx, hb, hml, hown, hts⟩ hP hK hS (by have hM := k7_newHouse l hX (k := 0) (by decide) (pbt w f0 g0 c0 y4 o5) hc9; simp only [pbt_f] at hM; exact hM) hc_52 (st_recv (k := 0) (i0 := 0) (HW_f hP) hK (by decide) (by decide) rfl rfl) rfl hl.1 rfl (Nat.le_of_ble_eq_true rfl) dX8_addHouse_25 ⟨Nat.zero_le _, Nat.zero_le _⟩ (fun H locs hP hS => ?_)
  have hf := Option.some.inj hf
  simp only [Prod.mk.injEq] at hf
  obtain ⟨rfl, rfl, rfl, rfl⟩ := hf
  rw [hQ]
  exact w_iret hx hb hr hlocks hP hK hS dX8_addHouse_28 rfl rfl
abbrev rmX8_addDough : Room := { frames := 5, cells := 0, slots := 0, locals := 145 }
theorem iX8_addDough_X8 : ∀ w ∈ wsX80, w ∈ wsX8_addDough := by decide +kernel
set_option maxHeartbeats 4000000 in
set_option maxRecDepth 100000 in
theorem k8_addDough (l : Launch) {X : bkX} {b0 : Nat} (hX : XO X b0) (w : bkW) {f0 : bkA} {g0 : bkA} {c0 : bkA} {y0 : Nat → bkA} {o0 : Nat → Int32} {a1 : Int32} {a2 : Int32} {a3 : Int32} {res9 : Int32} {f9 : bkA} {y9 : Nat → bkA} {o9 : Nat → Int32} (hf : m8_addDough f0 y0 o0 a1 a2 a3 = some (res9, f9, y9, o9)) : cI l yX8_addDough wsX8_addDough rmX8_addDough X b0 [.ref (xa X 306), .int a1, .int a2, .int a3] (pbt w f0 g0 c0 y0 o0) res9 (pbt w f9 g0 c0 y9 o9) := by
  refine Met.ofW (cc := cX8_addDough) (maxL := 4) (ret := (some .int)) (by decide) rfl ?_
  intro p e s m args below meth c s₁ B hml hv
  obtain ⟨ha, hP, hK⟩ := hv
  have hx := B.exec
  have hb := B.bytes
  have hr := B.returns
  have hts := atoms_spec (ws := wsX8_addDough) B.pre
  have hown : s.vm.findClass RX8 = some m.cls := findClass_of_methodNamed B.named
  have hlocks := B.notSynchronized
  obtain ⟨R, hR⟩ : ∃ R, R = (headSpec wsX8_addDough rmX8_addDough).room := ⟨_, rfl⟩
  rw [← hR]
  have hR1 : R.frames = 5 := by rw [hR]; rfl
  have hR2 : R.locals = 145 := by rw [hR]; rfl
  obtain ⟨Q, hQ⟩ : ∃ Q : State → Prop, Q = MQ below (va_Qi (fun r' (_ : Unit) => r' = res9) (fun _ t => WU X (pbt w f9 g0 c0 y9 o9) t) (xF b0)) args s 0 0 (xF b0) := ⟨_, rfl⟩
  rw [← hQ]
  have hS : va_S (xF b0) s.heap s.heap [] := va_S.rf
  have hl := lv_entry ([.ref (xa X 306), .int a1, .int a2, .int a3]) (n := 4) (Nat.le_of_ble_eq_true rfl)
  refine W.eq ((congrArg (fun z => entryFrame m z 4) ha).trans (lg_entry_eq m _ 4)) ?_
  generalize (lg_sl ([.ref (xa X 306), .int a1, .int a2, .int a3]) ++ List.replicate (4 - (lg_sl ([.ref (xa X 306), .int a1, .int a2, .int a3])).length) Slot.unset).toArray = ls at hl ⊢
  have hl : lv_has ls 4 [(0, .ref (xa X 306)), (1, .int a1), (2, .int a2), (3, .int a3)] := hl
  have hk_f10 := hts (.fieldLink RX8 10 "BakeTurns" "now" "LBakeTurns$State;") (by decide +kernel)
  have hc_55 := (cwV 3 hts gX8_addDough_X7_refusalOfDough rfl rfl rfl (by decide +kernel) ⟨by rw [hR1]; exact Nat.le_of_ble_eq_true rfl, by rw [hR2]; exact Nat.le_of_ble_eq_true rfl⟩ : CallW R s args RX8 RX7 55 yX7_refusalOfDough cX7_refusalOfDough 4 (some .int) wsX7_refusalOfDough rmX7_refusalOfDough 0 0 3)
  have hc_37 := (va_cwS 1 hts gX8_addDough_X8_refuse rfl rfl rfl (by decide +kernel) ⟨by rw [hR1]; exact Nat.le_of_ble_eq_true rfl, by rw [hR2]; exact Nat.le_of_ble_eq_true rfl⟩ : CallB R s args RX8 37 yX8_refuse cX8_refuse 1 none wsX8_refuse rmX8_refuse 0 0 1 ∧ (Cond.static yX8_refuse).before args s = true)
  have hk_f22 := hts (.fieldLink RX8 22 "BakeTurns" "history" "LBakeTurns$History;") (by decide +kernel)
  have hc_41 := (cwV 1 hts gX8_addDough_X2_save rfl rfl rfl (by decide +kernel) ⟨by rw [hR1]; exact Nat.le_of_ble_eq_true rfl, by rw [hR2]; exact Nat.le_of_ble_eq_true rfl⟩ : CallW R s args RX8 RX2 41 yX2_save cX2_save 3 none wsX2_save rmX2_save 0 0 1)
  have hc_59 := (cwV 3 hts gX8_addDough_X7_newDough rfl rfl rfl (by decide +kernel) ⟨by rw [hR1]; exact Nat.le_of_ble_eq_true rfl, by rw [hR2]; exact Nat.le_of_ble_eq_true rfl⟩ : CallW R s args RX8 RX7 59 yX7_newDough cX7_newDough 5 (some .int) wsX7_newDough rmX7_newDough 0 0 3)
  unfold m8_addDough at hf
  refine lv_aload_n hx hb dX8_addDough_0 rfl (lv_at hl 0 rfl) ?_
  refine w_get hx hb hts iX8_addDough_X8 hown hP hK (by decide) emb_bt rfl 0 (by decide) hk_f10 rfl dX8_addDough_1 ?_
  refine lv_iload_n hx hb dX8_addDough_4 rfl (lv_at hl 1 rfl) ?_
  refine lv_iload_n hx hb dX8_addDough_5 rfl (lv_at hl 2 rfl) ?_
  refine lv_iload_n hx hb dX8_addDough_6 rfl (lv_at hl 3 rfl) ?_
  obtain ⟨x1, hc2, hf⟩ := lt1_e hf
  refine w_ci ⟨hx, hb, hml, hown, hts⟩ hP hK hS (by have hM := k7_refusalOfDough l hX (k := 0) (by decide) (pbt w f0 g0 c0 y0 o0) hc2; simp only [pbt_f] at hM; exact hM) hc_55 (st_recv (k := 0) (i0 := 0) (HW_f hP) hK (by decide) (by decide) rfl rfl) rfl hl.1 rfl (Nat.le_of_ble_eq_true rfl) dX8_addDough_7 ⟨Nat.zero_le _, Nat.zero_le _⟩ (fun H locs hP hS => ?_)
  obtain ⟨hth3, hf⟩ := ckp_e hf
  refine w_csv ⟨hx, hb, hml, hown, hts⟩ hP hK hS (k8_refuse l hth3 _) hc_37 rfl hl.1 rfl (Nat.le_of_ble_eq_true rfl) dX8_addDough_10 ⟨Nat.zero_le _, Nat.zero_le _⟩ (fun H locs hP hS => ?_)
  refine lv_aload_n hx hb dX8_addDough_13 rfl (lv_at hl 0 rfl) ?_
  refine w_get hx hb hts iX8_addDough_X8 hown hP hK (by decide) emb_bt rfl 2 (by decide) hk_f22 rfl dX8_addDough_14 ?_
  refine lv_aload_n hx hb dX8_addDough_17 rfl (lv_at hl 0 rfl) ?_
  refine w_get hx hb hts iX8_addDough_X8 hown hP hK (by decide) emb_bt rfl 0 (by decide) hk_f10 rfl dX8_addDough_18 ?_
  obtain ⟨y4, o5, hc6, hf⟩ := ob2_e hf
  refine w_cv ⟨hx, hb, hml, hown, hts⟩ hP hK hS (k2_save l hX w hc6) hc_41 (w_recv hP hK (by decide) emb_hi rfl) rfl hl.1 rfl (Nat.le_of_ble_eq_true rfl) dX8_addDough_21 ⟨Nat.zero_le _, Nat.zero_le _⟩ (fun H locs hP hS => ?_)
  refine lv_aload_n hx hb dX8_addDough_24 rfl (lv_at hl 0 rfl) ?_
  refine w_get hx hb hts iX8_addDough_X8 hown hP hK (by decide) emb_bt rfl 0 (by decide) hk_f10 rfl dX8_addDough_25 ?_
  refine lv_iload_n hx hb dX8_addDough_28 rfl (lv_at hl 1 rfl) ?_
  refine lv_iload_n hx hb dX8_addDough_29 rfl (lv_at hl 2 rfl) ?_
  refine lv_iload_n hx hb dX8_addDough_30 rfl (lv_at hl 3 rfl) ?_
  obtain ⟨x7, f8, hc9, hf⟩ := lt2_e hf
  refine w_ci ⟨hx, hb, hml, hown, hts⟩ hP hK hS (by have hM := k7_newDough l hX (k := 0) (by decide) (pbt w f0 g0 c0 y4 o5) hc9; simp only [pbt_f] at hM; exact hM) hc_59 (st_recv (k := 0) (i0 := 0) (HW_f hP) hK (by decide) (by decide) rfl rfl) rfl hl.1 rfl (Nat.le_of_ble_eq_true rfl) dX8_addDough_31 ⟨Nat.zero_le _, Nat.zero_le _⟩ (fun H locs hP hS => ?_)
  have hf := Option.some.inj hf
  simp only [Prod.mk.injEq] at hf
  obtain ⟨rfl, rfl, rfl, rfl⟩ := hf
  rw [hQ]
  exact w_iret hx hb hr hlocks hP hK hS dX8_addDough_34 rfl rfl
abbrev rmX8_swap : Room := { frames := 5, cells := 0, slots := 0, locals := 145 }
theorem iX8_swap_X8 : ∀ w ∈ wsX80, w ∈ wsX8_swap := by decide +kernel
set_option maxHeartbeats 4000000 in
set_option maxRecDepth 100000 in
theorem k8_swap (l : Launch) {X : bkX} {b0 : Nat} (hX : XO X b0) (w : bkW) {N : Nat} {f0 : bkA} {g0 : bkA} {c0 : bkA} {y0 : Nat → bkA} {o0 : Nat → Int32} {a1 : Int32} {a2 : Int32} {res9 : Int32} {f9 : bkA} {y9 : Nat → bkA} {o9 : Nat → Int32} (hf : m8_swap N f0 y0 o0 a1 a2 = some (res9, f9, y9, o9)) : cI l yX8_swap wsX8_swap rmX8_swap X b0 [.ref (xa X 306), .int a1, .int a2] (pbt w f0 g0 c0 y0 o0) res9 (pbt w f9 g0 c0 y9 o9) := by
  refine Met.ofW (cc := cX8_swap) (maxL := 3) (ret := (some .int)) (by decide) rfl ?_
  intro p e s m args below meth c s₁ B hml hv
  obtain ⟨ha, hP, hK⟩ := hv
  have hx := B.exec
  have hb := B.bytes
  have hr := B.returns
  have hts := atoms_spec (ws := wsX8_swap) B.pre
  have hown : s.vm.findClass RX8 = some m.cls := findClass_of_methodNamed B.named
  have hlocks := B.notSynchronized
  obtain ⟨R, hR⟩ : ∃ R, R = (headSpec wsX8_swap rmX8_swap).room := ⟨_, rfl⟩
  rw [← hR]
  have hR1 : R.frames = 5 := by rw [hR]; rfl
  have hR2 : R.locals = 145 := by rw [hR]; rfl
  obtain ⟨Q, hQ⟩ : ∃ Q : State → Prop, Q = MQ below (va_Qi (fun r' (_ : Unit) => r' = res9) (fun _ t => WU X (pbt w f9 g0 c0 y9 o9) t) (xF b0)) args s 0 0 (xF b0) := ⟨_, rfl⟩
  rw [← hQ]
  have hS : va_S (xF b0) s.heap s.heap [] := va_S.rf
  have hl := lv_entry ([.ref (xa X 306), .int a1, .int a2]) (n := 3) (Nat.le_of_ble_eq_true rfl)
  refine W.eq ((congrArg (fun z => entryFrame m z 3) ha).trans (lg_entry_eq m _ 3)) ?_
  generalize (lg_sl ([.ref (xa X 306), .int a1, .int a2]) ++ List.replicate (3 - (lg_sl ([.ref (xa X 306), .int a1, .int a2])).length) Slot.unset).toArray = ls at hl ⊢
  have hl : lv_has ls 3 [(0, .ref (xa X 306)), (1, .int a1), (2, .int a2)] := hl
  have hk_f10 := hts (.fieldLink RX8 10 "BakeTurns" "now" "LBakeTurns$State;") (by decide +kernel)
  have hc_65 := (cwV 2 hts gX8_swap_X7_refusalOfSwap rfl rfl rfl (by decide +kernel) ⟨by rw [hR1]; exact Nat.le_of_ble_eq_true rfl, by rw [hR2]; exact Nat.le_of_ble_eq_true rfl⟩ : CallW R s args RX8 RX7 65 yX7_refusalOfSwap cX7_refusalOfSwap 3 (some .int) wsX7_refusalOfSwap rmX7_refusalOfSwap 0 0 2)
  have hc_37 := (va_cwS 1 hts gX8_swap_X8_refuse rfl rfl rfl (by decide +kernel) ⟨by rw [hR1]; exact Nat.le_of_ble_eq_true rfl, by rw [hR2]; exact Nat.le_of_ble_eq_true rfl⟩ : CallB R s args RX8 37 yX8_refuse cX8_refuse 1 none wsX8_refuse rmX8_refuse 0 0 1 ∧ (Cond.static yX8_refuse).before args s = true)
  have hk_f22 := hts (.fieldLink RX8 22 "BakeTurns" "history" "LBakeTurns$History;") (by decide +kernel)
  have hc_41 := (cwV 1 hts gX8_swap_X2_save rfl rfl rfl (by decide +kernel) ⟨by rw [hR1]; exact Nat.le_of_ble_eq_true rfl, by rw [hR2]; exact Nat.le_of_ble_eq_true rfl⟩ : CallW R s args RX8 RX2 41 yX2_save cX2_save 3 none wsX2_save rmX2_save 0 0 1)
  have hc_69 := (cwV 2 hts gX8_swap_X7_exchange rfl rfl rfl (by decide +kernel) ⟨by rw [hR1]; exact Nat.le_of_ble_eq_true rfl, by rw [hR2]; exact Nat.le_of_ble_eq_true rfl⟩ : CallW R s args RX8 RX7 69 yX7_exchange cX7_exchange 5 (some .int) wsX7_exchange rmX7_exchange 0 0 2)
  unfold m8_swap at hf
  refine lv_aload_n hx hb dX8_swap_0 rfl (lv_at hl 0 rfl) ?_
  refine w_get hx hb hts iX8_swap_X8 hown hP hK (by decide) emb_bt rfl 0 (by decide) hk_f10 rfl dX8_swap_1 ?_
  refine lv_iload_n hx hb dX8_swap_4 rfl (lv_at hl 1 rfl) ?_
  refine lv_iload_n hx hb dX8_swap_5 rfl (lv_at hl 2 rfl) ?_
  obtain ⟨x1, hc2, hf⟩ := lt1_e hf
  refine w_ci ⟨hx, hb, hml, hown, hts⟩ hP hK hS (by have hM := k7_refusalOfSwap l hX (k := 0) (by decide) (pbt w f0 g0 c0 y0 o0) hc2; simp only [pbt_f] at hM; exact hM) hc_65 (st_recv (k := 0) (i0 := 0) (HW_f hP) hK (by decide) (by decide) rfl rfl) rfl hl.1 rfl (Nat.le_of_ble_eq_true rfl) dX8_swap_6 ⟨Nat.zero_le _, Nat.zero_le _⟩ (fun H locs hP hS => ?_)
  obtain ⟨hth3, hf⟩ := ckp_e hf
  refine w_csv ⟨hx, hb, hml, hown, hts⟩ hP hK hS (k8_refuse l hth3 _) hc_37 rfl hl.1 rfl (Nat.le_of_ble_eq_true rfl) dX8_swap_9 ⟨Nat.zero_le _, Nat.zero_le _⟩ (fun H locs hP hS => ?_)
  refine lv_aload_n hx hb dX8_swap_12 rfl (lv_at hl 0 rfl) ?_
  refine w_get hx hb hts iX8_swap_X8 hown hP hK (by decide) emb_bt rfl 2 (by decide) hk_f22 rfl dX8_swap_13 ?_
  refine lv_aload_n hx hb dX8_swap_16 rfl (lv_at hl 0 rfl) ?_
  refine w_get hx hb hts iX8_swap_X8 hown hP hK (by decide) emb_bt rfl 0 (by decide) hk_f10 rfl dX8_swap_17 ?_
  obtain ⟨y4, o5, hc6, hf⟩ := ob2_e hf
  refine w_cv ⟨hx, hb, hml, hown, hts⟩ hP hK hS (k2_save l hX w hc6) hc_41 (w_recv hP hK (by decide) emb_hi rfl) rfl hl.1 rfl (Nat.le_of_ble_eq_true rfl) dX8_swap_20 ⟨Nat.zero_le _, Nat.zero_le _⟩ (fun H locs hP hS => ?_)
  refine lv_aload_n hx hb dX8_swap_23 rfl (lv_at hl 0 rfl) ?_
  refine w_get hx hb hts iX8_swap_X8 hown hP hK (by decide) emb_bt rfl 0 (by decide) hk_f10 rfl dX8_swap_24 ?_
  refine lv_iload_n hx hb dX8_swap_27 rfl (lv_at hl 1 rfl) ?_
  refine lv_iload_n hx hb dX8_swap_28 rfl (lv_at hl 2 rfl) ?_
  obtain ⟨x7, f8, hc9, hf⟩ := ob2_e hf
  refine w_ci ⟨hx, hb, hml, hown, hts⟩ hP hK hS (by have hM := k7_exchange l hX (k := 0) (by decide) (pbt w f0 g0 c0 y4 o5) hc9; simp only [pbt_f] at hM; exact hM) hc_69 (st_recv (k := 0) (i0 := 0) (HW_f hP) hK (by decide) (by decide) rfl rfl) rfl hl.1 rfl (Nat.le_of_ble_eq_true rfl) dX8_swap_29 ⟨Nat.zero_le _, Nat.zero_le _⟩ (fun H locs hP hS => ?_)
  have hf := Option.some.inj hf
  simp only [Prod.mk.injEq] at hf
  obtain ⟨rfl, rfl, rfl, rfl⟩ := hf
  rw [hQ]
  exact w_iret hx hb hr hlocks hP hK hS dX8_swap_32 rfl rfl
abbrev rmX8_bring : Room := { frames := 5, cells := 0, slots := 0, locals := 145 }
theorem iX8_bring_X8 : ∀ w ∈ wsX80, w ∈ wsX8_bring := by decide +kernel
set_option maxHeartbeats 4000000 in
set_option maxRecDepth 100000 in
theorem k8_bring (l : Launch) {X : bkX} {b0 : Nat} (hX : XO X b0) (w : bkW) {f0 : bkA} {g0 : bkA} {c0 : bkA} {y0 : Nat → bkA} {o0 : Nat → Int32} {a1 : Int32} {a2 : Int32} {res9 : Int32} {f9 : bkA} {y9 : Nat → bkA} {o9 : Nat → Int32} (hf : m8_bring f0 y0 o0 a1 a2 = some (res9, f9, y9, o9)) : cI l yX8_bring wsX8_bring rmX8_bring X b0 [.ref (xa X 306), .int a1, .int a2] (pbt w f0 g0 c0 y0 o0) res9 (pbt w f9 g0 c0 y9 o9) := by
  refine Met.ofW (cc := cX8_bring) (maxL := 3) (ret := (some .int)) (by decide) rfl ?_
  intro p e s m args below meth c s₁ B hml hv
  obtain ⟨ha, hP, hK⟩ := hv
  have hx := B.exec
  have hb := B.bytes
  have hr := B.returns
  have hts := atoms_spec (ws := wsX8_bring) B.pre
  have hown : s.vm.findClass RX8 = some m.cls := findClass_of_methodNamed B.named
  have hlocks := B.notSynchronized
  obtain ⟨R, hR⟩ : ∃ R, R = (headSpec wsX8_bring rmX8_bring).room := ⟨_, rfl⟩
  rw [← hR]
  have hR1 : R.frames = 5 := by rw [hR]; rfl
  have hR2 : R.locals = 145 := by rw [hR]; rfl
  obtain ⟨Q, hQ⟩ : ∃ Q : State → Prop, Q = MQ below (va_Qi (fun r' (_ : Unit) => r' = res9) (fun _ t => WU X (pbt w f9 g0 c0 y9 o9) t) (xF b0)) args s 0 0 (xF b0) := ⟨_, rfl⟩
  rw [← hQ]
  have hS : va_S (xF b0) s.heap s.heap [] := va_S.rf
  have hl := lv_entry ([.ref (xa X 306), .int a1, .int a2]) (n := 3) (Nat.le_of_ble_eq_true rfl)
  refine W.eq ((congrArg (fun z => entryFrame m z 3) ha).trans (lg_entry_eq m _ 3)) ?_
  generalize (lg_sl ([.ref (xa X 306), .int a1, .int a2]) ++ List.replicate (3 - (lg_sl ([.ref (xa X 306), .int a1, .int a2])).length) Slot.unset).toArray = ls at hl ⊢
  have hl : lv_has ls 3 [(0, .ref (xa X 306)), (1, .int a1), (2, .int a2)] := hl
  have hk_f10 := hts (.fieldLink RX8 10 "BakeTurns" "now" "LBakeTurns$State;") (by decide +kernel)
  have hc_72 := (cwV 2 hts gX8_bring_X7_refusalOfBring rfl rfl rfl (by decide +kernel) ⟨by rw [hR1]; exact Nat.le_of_ble_eq_true rfl, by rw [hR2]; exact Nat.le_of_ble_eq_true rfl⟩ : CallW R s args RX8 RX7 72 yX7_refusalOfBring cX7_refusalOfBring 3 (some .int) wsX7_refusalOfBring rmX7_refusalOfBring 0 0 2)
  have hc_37 := (va_cwS 1 hts gX8_bring_X8_refuse rfl rfl rfl (by decide +kernel) ⟨by rw [hR1]; exact Nat.le_of_ble_eq_true rfl, by rw [hR2]; exact Nat.le_of_ble_eq_true rfl⟩ : CallB R s args RX8 37 yX8_refuse cX8_refuse 1 none wsX8_refuse rmX8_refuse 0 0 1 ∧ (Cond.static yX8_refuse).before args s = true)
  have hk_f22 := hts (.fieldLink RX8 22 "BakeTurns" "history" "LBakeTurns$History;") (by decide +kernel)
  have hc_41 := (cwV 1 hts gX8_bring_X2_save rfl rfl rfl (by decide +kernel) ⟨by rw [hR1]; exact Nat.le_of_ble_eq_true rfl, by rw [hR2]; exact Nat.le_of_ble_eq_true rfl⟩ : CallW R s args RX8 RX2 41 yX2_save cX2_save 3 none wsX2_save rmX2_save 0 0 1)
  have hc_75 := (cwV 2 hts gX8_bring_X7_takeLogs rfl rfl rfl (by decide +kernel) ⟨by rw [hR1]; exact Nat.le_of_ble_eq_true rfl, by rw [hR2]; exact Nat.le_of_ble_eq_true rfl⟩ : CallW R s args RX8 RX7 75 yX7_takeLogs cX7_takeLogs 3 (some .int) wsX7_takeLogs rmX7_takeLogs 0 0 2)
  unfold m8_bring at hf
  refine lv_aload_n hx hb dX8_bring_0 rfl (lv_at hl 0 rfl) ?_
  refine w_get hx hb hts iX8_bring_X8 hown hP hK (by decide) emb_bt rfl 0 (by decide) hk_f10 rfl dX8_bring_1 ?_
  refine lv_iload_n hx hb dX8_bring_4 rfl (lv_at hl 1 rfl) ?_
  refine lv_iload_n hx hb dX8_bring_5 rfl (lv_at hl 2 rfl) ?_
  obtain ⟨x1, hc2, hf⟩ := lt1_e hf
  refine w_ci ⟨hx, hb, hml, hown, hts⟩ hP hK hS (by have hM := k7_refusalOfBring l hX (k := 0) (by decide) (pbt w f0 g0 c0 y0 o0) hc2; simp only [pbt_f] at hM; exact hM) hc_72 (st_recv (k := 0) (i0 := 0) (HW_f hP) hK (by decide) (by decide) rfl rfl) rfl hl.1 rfl (Nat.le_of_ble_eq_true rfl) dX8_bring_6 ⟨Nat.zero_le _, Nat.zero_le _⟩ (fun H locs hP hS => ?_)
  obtain ⟨hth3, hf⟩ := ckp_e hf
  refine w_csv ⟨hx, hb, hml, hown, hts⟩ hP hK hS (k8_refuse l hth3 _) hc_37 rfl hl.1 rfl (Nat.le_of_ble_eq_true rfl) dX8_bring_9 ⟨Nat.zero_le _, Nat.zero_le _⟩ (fun H locs hP hS => ?_)
  refine lv_aload_n hx hb dX8_bring_12 rfl (lv_at hl 0 rfl) ?_
  refine w_get hx hb hts iX8_bring_X8 hown hP hK (by decide) emb_bt rfl 2 (by decide) hk_f22 rfl dX8_bring_13 ?_
  refine lv_aload_n hx hb dX8_bring_16 rfl (lv_at hl 0 rfl) ?_
  refine w_get hx hb hts iX8_bring_X8 hown hP hK (by decide) emb_bt rfl 0 (by decide) hk_f10 rfl dX8_bring_17 ?_
  obtain ⟨y4, o5, hc6, hf⟩ := ob2_e hf
  refine w_cv ⟨hx, hb, hml, hown, hts⟩ hP hK hS (k2_save l hX w hc6) hc_41 (w_recv hP hK (by decide) emb_hi rfl) rfl hl.1 rfl (Nat.le_of_ble_eq_true rfl) dX8_bring_20 ⟨Nat.zero_le _, Nat.zero_le _⟩ (fun H locs hP hS => ?_)
  refine lv_aload_n hx hb dX8_bring_23 rfl (lv_at hl 0 rfl) ?_
  refine w_get hx hb hts iX8_bring_X8 hown hP hK (by decide) emb_bt rfl 0 (by decide) hk_f10 rfl dX8_bring_24 ?_
  refine lv_iload_n hx hb dX8_bring_27 rfl (lv_at hl 1 rfl) ?_
  refine lv_iload_n hx hb dX8_bring_28 rfl (lv_at hl 2 rfl) ?_
  obtain ⟨x7, f8, hc9, hf⟩ := lt2_e hf
  refine w_ci ⟨hx, hb, hml, hown, hts⟩ hP hK hS (by have hM := k7_takeLogs l hX (k := 0) (by decide) (pbt w f0 g0 c0 y4 o5) hc9; simp only [pbt_f] at hM; exact hM) hc_75 (st_recv (k := 0) (i0 := 0) (HW_f hP) hK (by decide) (by decide) rfl rfl) rfl hl.1 rfl (Nat.le_of_ble_eq_true rfl) dX8_bring_29 ⟨Nat.zero_le _, Nat.zero_le _⟩ (fun H locs hP hS => ?_)
  have hf := Option.some.inj hf
  simp only [Prod.mk.injEq] at hf
  obtain ⟨rfl, rfl, rfl, rfl⟩ := hf
  rw [hQ]
  exact w_iret hx hb hr hlocks hP hK hS dX8_bring_32 rfl rfl
abbrev rmX8_stoke : Room := { frames := 5, cells := 0, slots := 0, locals := 145 }
theorem iX8_stoke_X8 : ∀ w ∈ wsX80, w ∈ wsX8_stoke := by decide +kernel
set_option maxHeartbeats 4000000 in
set_option maxRecDepth 100000 in
theorem k8_stoke (l : Launch) {X : bkX} {b0 : Nat} (hX : XO X b0) (w : bkW) {f0 : bkA} {g0 : bkA} {c0 : bkA} {y0 : Nat → bkA} {o0 : Nat → Int32} {a1 : Int32} {a2 : Int32} {res9 : Int32} {f9 : bkA} {y9 : Nat → bkA} {o9 : Nat → Int32} (hf : m8_stoke f0 y0 o0 a1 a2 = some (res9, f9, y9, o9)) : cI l yX8_stoke wsX8_stoke rmX8_stoke X b0 [.ref (xa X 306), .int a1, .int a2] (pbt w f0 g0 c0 y0 o0) res9 (pbt w f9 g0 c0 y9 o9) := by
  refine Met.ofW (cc := cX8_stoke) (maxL := 3) (ret := (some .int)) (by decide) rfl ?_
  intro p e s m args below meth c s₁ B hml hv
  obtain ⟨ha, hP, hK⟩ := hv
  have hx := B.exec
  have hb := B.bytes
  have hr := B.returns
  have hts := atoms_spec (ws := wsX8_stoke) B.pre
  have hown : s.vm.findClass RX8 = some m.cls := findClass_of_methodNamed B.named
  have hlocks := B.notSynchronized
  obtain ⟨R, hR⟩ : ∃ R, R = (headSpec wsX8_stoke rmX8_stoke).room := ⟨_, rfl⟩
  rw [← hR]
  have hR1 : R.frames = 5 := by rw [hR]; rfl
  have hR2 : R.locals = 145 := by rw [hR]; rfl
  obtain ⟨Q, hQ⟩ : ∃ Q : State → Prop, Q = MQ below (va_Qi (fun r' (_ : Unit) => r' = res9) (fun _ t => WU X (pbt w f9 g0 c0 y9 o9) t) (xF b0)) args s 0 0 (xF b0) := ⟨_, rfl⟩
  rw [← hQ]
  have hS : va_S (xF b0) s.heap s.heap [] := va_S.rf
  have hl := lv_entry ([.ref (xa X 306), .int a1, .int a2]) (n := 3) (Nat.le_of_ble_eq_true rfl)
  refine W.eq ((congrArg (fun z => entryFrame m z 3) ha).trans (lg_entry_eq m _ 3)) ?_
  generalize (lg_sl ([.ref (xa X 306), .int a1, .int a2]) ++ List.replicate (3 - (lg_sl ([.ref (xa X 306), .int a1, .int a2])).length) Slot.unset).toArray = ls at hl ⊢
  have hl : lv_has ls 3 [(0, .ref (xa X 306)), (1, .int a1), (2, .int a2)] := hl
  have hk_f10 := hts (.fieldLink RX8 10 "BakeTurns" "now" "LBakeTurns$State;") (by decide +kernel)
  have hc_78 := (cwV 2 hts gX8_stoke_X7_refusalOfStoke rfl rfl rfl (by decide +kernel) ⟨by rw [hR1]; exact Nat.le_of_ble_eq_true rfl, by rw [hR2]; exact Nat.le_of_ble_eq_true rfl⟩ : CallW R s args RX8 RX7 78 yX7_refusalOfStoke cX7_refusalOfStoke 4 (some .int) wsX7_refusalOfStoke rmX7_refusalOfStoke 0 0 2)
  have hc_37 := (va_cwS 1 hts gX8_stoke_X8_refuse rfl rfl rfl (by decide +kernel) ⟨by rw [hR1]; exact Nat.le_of_ble_eq_true rfl, by rw [hR2]; exact Nat.le_of_ble_eq_true rfl⟩ : CallB R s args RX8 37 yX8_refuse cX8_refuse 1 none wsX8_refuse rmX8_refuse 0 0 1 ∧ (Cond.static yX8_refuse).before args s = true)
  have hk_f22 := hts (.fieldLink RX8 22 "BakeTurns" "history" "LBakeTurns$History;") (by decide +kernel)
  have hc_41 := (cwV 1 hts gX8_stoke_X2_save rfl rfl rfl (by decide +kernel) ⟨by rw [hR1]; exact Nat.le_of_ble_eq_true rfl, by rw [hR2]; exact Nat.le_of_ble_eq_true rfl⟩ : CallW R s args RX8 RX2 41 yX2_save cX2_save 3 none wsX2_save rmX2_save 0 0 1)
  have hc_81 := (cwV 2 hts gX8_stoke_X7_burnLogs rfl rfl rfl (by decide +kernel) ⟨by rw [hR1]; exact Nat.le_of_ble_eq_true rfl, by rw [hR2]; exact Nat.le_of_ble_eq_true rfl⟩ : CallW R s args RX8 RX7 81 yX7_burnLogs cX7_burnLogs 3 (some .int) wsX7_burnLogs rmX7_burnLogs 0 0 2)
  unfold m8_stoke at hf
  refine lv_aload_n hx hb dX8_stoke_0 rfl (lv_at hl 0 rfl) ?_
  refine w_get hx hb hts iX8_stoke_X8 hown hP hK (by decide) emb_bt rfl 0 (by decide) hk_f10 rfl dX8_stoke_1 ?_
  refine lv_iload_n hx hb dX8_stoke_4 rfl (lv_at hl 1 rfl) ?_
  refine lv_iload_n hx hb dX8_stoke_5 rfl (lv_at hl 2 rfl) ?_
  obtain ⟨x1, hc2, hf⟩ := lt1_e hf
  refine w_ci ⟨hx, hb, hml, hown, hts⟩ hP hK hS (by have hM := k7_refusalOfStoke l hX (k := 0) (by decide) (pbt w f0 g0 c0 y0 o0) hc2; simp only [pbt_f] at hM; exact hM) hc_78 (st_recv (k := 0) (i0 := 0) (HW_f hP) hK (by decide) (by decide) rfl rfl) rfl hl.1 rfl (Nat.le_of_ble_eq_true rfl) dX8_stoke_6 ⟨Nat.zero_le _, Nat.zero_le _⟩ (fun H locs hP hS => ?_)
  obtain ⟨hth3, hf⟩ := ckp_e hf
  refine w_csv ⟨hx, hb, hml, hown, hts⟩ hP hK hS (k8_refuse l hth3 _) hc_37 rfl hl.1 rfl (Nat.le_of_ble_eq_true rfl) dX8_stoke_9 ⟨Nat.zero_le _, Nat.zero_le _⟩ (fun H locs hP hS => ?_)
  refine lv_aload_n hx hb dX8_stoke_12 rfl (lv_at hl 0 rfl) ?_
  refine w_get hx hb hts iX8_stoke_X8 hown hP hK (by decide) emb_bt rfl 2 (by decide) hk_f22 rfl dX8_stoke_13 ?_
  refine lv_aload_n hx hb dX8_stoke_16 rfl (lv_at hl 0 rfl) ?_
  refine w_get hx hb hts iX8_stoke_X8 hown hP hK (by decide) emb_bt rfl 0 (by decide) hk_f10 rfl dX8_stoke_17 ?_
  obtain ⟨y4, o5, hc6, hf⟩ := ob2_e hf
  refine w_cv ⟨hx, hb, hml, hown, hts⟩ hP hK hS (k2_save l hX w hc6) hc_41 (w_recv hP hK (by decide) emb_hi rfl) rfl hl.1 rfl (Nat.le_of_ble_eq_true rfl) dX8_stoke_20 ⟨Nat.zero_le _, Nat.zero_le _⟩ (fun H locs hP hS => ?_)
  refine lv_aload_n hx hb dX8_stoke_23 rfl (lv_at hl 0 rfl) ?_
  refine w_get hx hb hts iX8_stoke_X8 hown hP hK (by decide) emb_bt rfl 0 (by decide) hk_f10 rfl dX8_stoke_24 ?_
  refine lv_iload_n hx hb dX8_stoke_27 rfl (lv_at hl 1 rfl) ?_
  refine lv_iload_n hx hb dX8_stoke_28 rfl (lv_at hl 2 rfl) ?_
  obtain ⟨x7, f8, hc9, hf⟩ := lt2_e hf
  refine w_ci ⟨hx, hb, hml, hown, hts⟩ hP hK hS (by have hM := k7_burnLogs l hX (k := 0) (by decide) (pbt w f0 g0 c0 y4 o5) hc9; simp only [pbt_f] at hM; exact hM) hc_81 (st_recv (k := 0) (i0 := 0) (HW_f hP) hK (by decide) (by decide) rfl rfl) rfl hl.1 rfl (Nat.le_of_ble_eq_true rfl) dX8_stoke_29 ⟨Nat.zero_le _, Nat.zero_le _⟩ (fun H locs hP hS => ?_)
  have hf := Option.some.inj hf
  simp only [Prod.mk.injEq] at hf
  obtain ⟨rfl, rfl, rfl, rfl⟩ := hf
  rw [hQ]
  exact w_iret hx hb hr hlocks hP hK hS dX8_stoke_32 rfl rfl
abbrev rmX8_pass : Room := { frames := 5, cells := 0, slots := 0, locals := 145 }
theorem iX8_pass_X8 : ∀ w ∈ wsX80, w ∈ wsX8_pass := by decide +kernel
set_option maxHeartbeats 4000000 in
set_option maxRecDepth 100000 in
theorem k8_pass (l : Launch) {X : bkX} {b0 : Nat} (hX : XO X b0) (w : bkW) {N : Nat} {f0 : bkA} {g0 : bkA} {c0 : bkA} {y0 : Nat → bkA} {o0 : Nat → Int32} {a1 : Int32} {res9 : Int32} {f9 : bkA} {y9 : Nat → bkA} {o9 : Nat → Int32} (hf : m8_pass N f0 y0 o0 a1 = some (res9, f9, y9, o9)) : cI l yX8_pass wsX8_pass rmX8_pass X b0 [.ref (xa X 306), .int a1] (pbt w f0 g0 c0 y0 o0) res9 (pbt w f9 g0 c0 y9 o9) := by
  refine Met.ofW (cc := cX8_pass) (maxL := 2) (ret := (some .int)) (by decide) rfl ?_
  intro p e s m args below meth c s₁ B hml hv
  obtain ⟨ha, hP, hK⟩ := hv
  have hx := B.exec
  have hb := B.bytes
  have hr := B.returns
  have hts := atoms_spec (ws := wsX8_pass) B.pre
  have hown : s.vm.findClass RX8 = some m.cls := findClass_of_methodNamed B.named
  have hlocks := B.notSynchronized
  obtain ⟨R, hR⟩ : ∃ R, R = (headSpec wsX8_pass rmX8_pass).room := ⟨_, rfl⟩
  rw [← hR]
  have hR1 : R.frames = 5 := by rw [hR]; rfl
  have hR2 : R.locals = 145 := by rw [hR]; rfl
  obtain ⟨Q, hQ⟩ : ∃ Q : State → Prop, Q = MQ below (va_Qi (fun r' (_ : Unit) => r' = res9) (fun _ t => WU X (pbt w f9 g0 c0 y9 o9) t) (xF b0)) args s 0 0 (xF b0) := ⟨_, rfl⟩
  rw [← hQ]
  have hS : va_S (xF b0) s.heap s.heap [] := va_S.rf
  have hl := lv_entry ([.ref (xa X 306), .int a1]) (n := 2) (Nat.le_of_ble_eq_true rfl)
  refine W.eq ((congrArg (fun z => entryFrame m z 2) ha).trans (lg_entry_eq m _ 2)) ?_
  generalize (lg_sl ([.ref (xa X 306), .int a1]) ++ List.replicate (2 - (lg_sl ([.ref (xa X 306), .int a1])).length) Slot.unset).toArray = ls at hl ⊢
  have hl : lv_has ls 2 [(0, .ref (xa X 306)), (1, .int a1)] := hl
  have hk_f10 := hts (.fieldLink RX8 10 "BakeTurns" "now" "LBakeTurns$State;") (by decide +kernel)
  have hc_87 := (cwV 1 hts gX8_pass_X7_refusalOfPass rfl rfl rfl (by decide +kernel) ⟨by rw [hR1]; exact Nat.le_of_ble_eq_true rfl, by rw [hR2]; exact Nat.le_of_ble_eq_true rfl⟩ : CallW R s args RX8 RX7 87 yX7_refusalOfPass cX7_refusalOfPass 2 (some .int) wsX7_refusalOfPass rmX7_refusalOfPass 0 0 1)
  have hc_37 := (va_cwS 1 hts gX8_pass_X8_refuse rfl rfl rfl (by decide +kernel) ⟨by rw [hR1]; exact Nat.le_of_ble_eq_true rfl, by rw [hR2]; exact Nat.le_of_ble_eq_true rfl⟩ : CallB R s args RX8 37 yX8_refuse cX8_refuse 1 none wsX8_refuse rmX8_refuse 0 0 1 ∧ (Cond.static yX8_refuse).before args s = true)
  have hk_f22 := hts (.fieldLink RX8 22 "BakeTurns" "history" "LBakeTurns$History;") (by decide +kernel)
  have hc_41 := (cwV 1 hts gX8_pass_X2_save rfl rfl rfl (by decide +kernel) ⟨by rw [hR1]; exact Nat.le_of_ble_eq_true rfl, by rw [hR2]; exact Nat.le_of_ble_eq_true rfl⟩ : CallW R s args RX8 RX2 41 yX2_save cX2_save 3 none wsX2_save rmX2_save 0 0 1)
  have hc_91 := (cwV 1 hts gX8_pass_X7_passTicks rfl rfl rfl (by decide +kernel) ⟨by rw [hR1]; exact Nat.le_of_ble_eq_true rfl, by rw [hR2]; exact Nat.le_of_ble_eq_true rfl⟩ : CallW R s args RX8 RX7 91 yX7_passTicks cX7_passTicks 6 (some .int) wsX7_passTicks rmX7_passTicks 0 0 1)
  unfold m8_pass at hf
  refine lv_aload_n hx hb dX8_pass_0 rfl (lv_at hl 0 rfl) ?_
  refine w_get hx hb hts iX8_pass_X8 hown hP hK (by decide) emb_bt rfl 0 (by decide) hk_f10 rfl dX8_pass_1 ?_
  refine lv_iload_n hx hb dX8_pass_4 rfl (lv_at hl 1 rfl) ?_
  obtain ⟨x1, hc2, hf⟩ := lt1_e hf
  refine w_ci ⟨hx, hb, hml, hown, hts⟩ hP hK hS (by have hM := k7_refusalOfPass l hX (k := 0) (by decide) (pbt w f0 g0 c0 y0 o0) hc2; simp only [pbt_f] at hM; exact hM) hc_87 (st_recv (k := 0) (i0 := 0) (HW_f hP) hK (by decide) (by decide) rfl rfl) rfl hl.1 rfl (Nat.le_of_ble_eq_true rfl) dX8_pass_5 ⟨Nat.zero_le _, Nat.zero_le _⟩ (fun H locs hP hS => ?_)
  obtain ⟨hth3, hf⟩ := ckp_e hf
  refine w_csv ⟨hx, hb, hml, hown, hts⟩ hP hK hS (k8_refuse l hth3 _) hc_37 rfl hl.1 rfl (Nat.le_of_ble_eq_true rfl) dX8_pass_8 ⟨Nat.zero_le _, Nat.zero_le _⟩ (fun H locs hP hS => ?_)
  refine lv_aload_n hx hb dX8_pass_11 rfl (lv_at hl 0 rfl) ?_
  refine w_get hx hb hts iX8_pass_X8 hown hP hK (by decide) emb_bt rfl 2 (by decide) hk_f22 rfl dX8_pass_12 ?_
  refine lv_aload_n hx hb dX8_pass_15 rfl (lv_at hl 0 rfl) ?_
  refine w_get hx hb hts iX8_pass_X8 hown hP hK (by decide) emb_bt rfl 0 (by decide) hk_f10 rfl dX8_pass_16 ?_
  obtain ⟨y4, o5, hc6, hf⟩ := ob2_e hf
  refine w_cv ⟨hx, hb, hml, hown, hts⟩ hP hK hS (k2_save l hX w hc6) hc_41 (w_recv hP hK (by decide) emb_hi rfl) rfl hl.1 rfl (Nat.le_of_ble_eq_true rfl) dX8_pass_19 ⟨Nat.zero_le _, Nat.zero_le _⟩ (fun H locs hP hS => ?_)
  refine lv_aload_n hx hb dX8_pass_22 rfl (lv_at hl 0 rfl) ?_
  refine w_get hx hb hts iX8_pass_X8 hown hP hK (by decide) emb_bt rfl 0 (by decide) hk_f10 rfl dX8_pass_23 ?_
  refine lv_iload_n hx hb dX8_pass_26 rfl (lv_at hl 1 rfl) ?_
  obtain ⟨x7, f8, hc9, hf⟩ := ob2_e hf
  refine w_ci ⟨hx, hb, hml, hown, hts⟩ hP hK hS (by have hM := k7_passTicks l hX (k := 0) (by decide) (pbt w f0 g0 c0 y4 o5) hc9; simp only [pbt_f] at hM; exact hM) hc_91 (st_recv (k := 0) (i0 := 0) (HW_f hP) hK (by decide) (by decide) rfl rfl) rfl hl.1 rfl (Nat.le_of_ble_eq_true rfl) dX8_pass_27 ⟨Nat.zero_le _, Nat.zero_le _⟩ (fun H locs hP hS => ?_)
  have hf := Option.some.inj hf
  simp only [Prod.mk.injEq] at hf
  obtain ⟨rfl, rfl, rfl, rfl⟩ := hf
  rw [hQ]
  exact w_iret hx hb hr hlocks hP hK hS dX8_pass_30 rfl rfl
abbrev rmX8_house : Room := { frames := 3, cells := 0, slots := 0, locals := 66 }
theorem iX8_house_X8 : ∀ w ∈ wsX80, w ∈ wsX8_house := by decide +kernel
set_option maxHeartbeats 4000000 in
set_option maxRecDepth 100000 in
theorem k8_house (l : Launch) {X : bkX} {b0 : Nat} (hX : XO X b0) (w : bkW) {N : Nat} {f0 : bkA} {g0 : bkA} {c0 : bkA} {y0 : Nat → bkA} {o0 : Nat → Int32} {a1 : Int32} {a2 : Int32} {res9 : Int32} (hf : m8_house N f0 a1 a2 = some res9) : cI l yX8_house wsX8_house rmX8_house X b0 [.ref (xa X 306), .int a1, .int a2] (pbt w f0 g0 c0 y0 o0) res9 (pbt w f0 g0 c0 y0 o0) := by
  refine Met.ofW (cc := cX8_house) (maxL := 3) (ret := (some .int)) (by decide) rfl ?_
  intro p e s m args below meth c s₁ B hml hv
  obtain ⟨ha, hP, hK⟩ := hv
  have hx := B.exec
  have hb := B.bytes
  have hr := B.returns
  have hts := atoms_spec (ws := wsX8_house) B.pre
  have hown : s.vm.findClass RX8 = some m.cls := findClass_of_methodNamed B.named
  have hlocks := B.notSynchronized
  obtain ⟨R, hR⟩ : ∃ R, R = (headSpec wsX8_house rmX8_house).room := ⟨_, rfl⟩
  rw [← hR]
  have hR1 : R.frames = 3 := by rw [hR]; rfl
  have hR2 : R.locals = 66 := by rw [hR]; rfl
  obtain ⟨Q, hQ⟩ : ∃ Q : State → Prop, Q = MQ below (va_Qi (fun r' (_ : Unit) => r' = res9) (fun _ t => WU X (pbt w f0 g0 c0 y0 o0) t) (xF b0)) args s 0 0 (xF b0) := ⟨_, rfl⟩
  rw [← hQ]
  have hS : va_S (xF b0) s.heap s.heap [] := va_S.rf
  have hl := lv_entry ([.ref (xa X 306), .int a1, .int a2]) (n := 3) (Nat.le_of_ble_eq_true rfl)
  refine W.eq ((congrArg (fun z => entryFrame m z 3) ha).trans (lg_entry_eq m _ 3)) ?_
  generalize (lg_sl ([.ref (xa X 306), .int a1, .int a2]) ++ List.replicate (3 - (lg_sl ([.ref (xa X 306), .int a1, .int a2])).length) Slot.unset).toArray = ls at hl ⊢
  have hl : lv_has ls 3 [(0, .ref (xa X 306)), (1, .int a1), (2, .int a2)] := hl
  have hk_f10 := hts (.fieldLink RX8 10 "BakeTurns" "now" "LBakeTurns$State;") (by decide +kernel)
  have hc_105 := (cwV 1 hts gX8_house_X7_isHouse rfl rfl rfl (by decide +kernel) ⟨by rw [hR1]; exact Nat.le_of_ble_eq_true rfl, by rw [hR2]; exact Nat.le_of_ble_eq_true rfl⟩ : CallW R s args RX8 RX7 105 yX7_isHouse cX7_isHouse 2 (some .boolean) wsX7_isHouse rmX7_isHouse 0 0 1)
  have hc_98 := (cwS 3 hts gX8_house_X8_refusalOfValue rfl rfl rfl (by decide +kernel) ⟨by rw [hR1]; exact Nat.le_of_ble_eq_true rfl, by rw [hR2]; exact Nat.le_of_ble_eq_true rfl⟩ : CallB R s args RX8 98 yX8_refusalOfValue cX8_refusalOfValue 3 (some .int) wsX8_refusalOfValue rmX8_refusalOfValue 0 0 3 ∧ (Cond.static yX8_refusalOfValue).before args s = true)
  have hc_37 := (va_cwS 1 hts gX8_house_X8_refuse rfl rfl rfl (by decide +kernel) ⟨by rw [hR1]; exact Nat.le_of_ble_eq_true rfl, by rw [hR2]; exact Nat.le_of_ble_eq_true rfl⟩ : CallB R s args RX8 37 yX8_refuse cX8_refuse 1 none wsX8_refuse rmX8_refuse 0 0 1 ∧ (Cond.static yX8_refuse).before args s = true)
  have hc_108 := (cwV 2 hts gX8_house_X7_valueOfHouse rfl rfl rfl (by decide +kernel) ⟨by rw [hR1]; exact Nat.le_of_ble_eq_true rfl, by rw [hR2]; exact Nat.le_of_ble_eq_true rfl⟩ : CallW R s args RX8 RX7 108 yX7_valueOfHouse cX7_valueOfHouse 3 (some .int) wsX7_valueOfHouse rmX7_valueOfHouse 0 0 2)
  unfold m8_house at hf
  refine lv_aload_n hx hb dX8_house_0 rfl (lv_at hl 0 rfl) ?_
  refine w_get hx hb hts iX8_house_X8 hown hP hK (by decide) emb_bt rfl 0 (by decide) hk_f10 rfl dX8_house_1 ?_
  refine lv_iload_n hx hb dX8_house_4 rfl (lv_at hl 1 rfl) ?_
  obtain ⟨x1, hc2, hf⟩ := lt1_e hf
  refine w_ci ⟨hx, hb, hml, hown, hts⟩ hP hK hS (by have hM := k7_isHouse l hX (k := 0) (by decide) (pbt w f0 g0 c0 y0 o0) hc2; simp only [pbt_f] at hM; exact hM) hc_105 (st_recv (k := 0) (i0 := 0) (HW_f hP) hK (by decide) (by decide) rfl rfl) rfl hl.1 rfl (Nat.le_of_ble_eq_true rfl) dX8_house_5 ⟨Nat.zero_le _, Nat.zero_le _⟩ (fun H locs hP hS => ?_)
  refine lv_iload_n hx hb dX8_house_8 rfl (lv_at hl 2 rfl) ?_
  refine lv_bipush (v := 7) hx hb dX8_house_9 (by decide) ?_
  obtain ⟨x3, hc4, hf⟩ := lt1_e hf
  refine w_csi ⟨hx, hb, hml, hown, hts⟩ hP hK hS (k8_refusalOfValue l hX (pbt w f0 g0 c0 y0 o0) hc4) hc_98 rfl hl.1 rfl (Nat.le_of_ble_eq_true rfl) dX8_house_11 ⟨Nat.zero_le _, Nat.zero_le _⟩ (fun H locs hP hS => ?_)
  obtain ⟨hth5, hf⟩ := ckp_e hf
  refine w_csv ⟨hx, hb, hml, hown, hts⟩ hP hK hS (k8_refuse l hth5 _) hc_37 rfl hl.1 rfl (Nat.le_of_ble_eq_true rfl) dX8_house_14 ⟨Nat.zero_le _, Nat.zero_le _⟩ (fun H locs hP hS => ?_)
  refine lv_aload_n hx hb dX8_house_17 rfl (lv_at hl 0 rfl) ?_
  refine w_get hx hb hts iX8_house_X8 hown hP hK (by decide) emb_bt rfl 0 (by decide) hk_f10 rfl dX8_house_18 ?_
  refine lv_iload_n hx hb dX8_house_21 rfl (lv_at hl 1 rfl) ?_
  refine lv_iload_n hx hb dX8_house_22 rfl (lv_at hl 2 rfl) ?_
  obtain ⟨x6, hc7, hf⟩ := ob1_e hf
  refine w_ci ⟨hx, hb, hml, hown, hts⟩ hP hK hS (by have hM := k7_valueOfHouse l hX (k := 0) (by decide) (pbt w f0 g0 c0 y0 o0) hc7; simp only [pbt_f] at hM; exact hM) hc_108 (st_recv (k := 0) (i0 := 0) (HW_f hP) hK (by decide) (by decide) rfl rfl) rfl hl.1 rfl (Nat.le_of_ble_eq_true rfl) dX8_house_23 ⟨Nat.zero_le _, Nat.zero_le _⟩ (fun H locs hP hS => ?_)
  have hf := Option.some.inj hf
  obtain rfl := hf
  rw [hQ]
  exact w_iret hx hb hr hlocks hP hK hS dX8_house_26 rfl rfl
abbrev rmX8_dough : Room := { frames := 3, cells := 0, slots := 0, locals := 66 }
theorem iX8_dough_X8 : ∀ w ∈ wsX80, w ∈ wsX8_dough := by decide +kernel
set_option maxHeartbeats 4000000 in
set_option maxRecDepth 100000 in
theorem k8_dough (l : Launch) {X : bkX} {b0 : Nat} (hX : XO X b0) (w : bkW) {N : Nat} {f0 : bkA} {g0 : bkA} {c0 : bkA} {y0 : Nat → bkA} {o0 : Nat → Int32} {a1 : Int32} {a2 : Int32} {res9 : Int32} (hf : m8_dough N f0 a1 a2 = some res9) : cI l yX8_dough wsX8_dough rmX8_dough X b0 [.ref (xa X 306), .int a1, .int a2] (pbt w f0 g0 c0 y0 o0) res9 (pbt w f0 g0 c0 y0 o0) := by
  refine Met.ofW (cc := cX8_dough) (maxL := 3) (ret := (some .int)) (by decide) rfl ?_
  intro p e s m args below meth c s₁ B hml hv
  obtain ⟨ha, hP, hK⟩ := hv
  have hx := B.exec
  have hb := B.bytes
  have hr := B.returns
  have hts := atoms_spec (ws := wsX8_dough) B.pre
  have hown : s.vm.findClass RX8 = some m.cls := findClass_of_methodNamed B.named
  have hlocks := B.notSynchronized
  obtain ⟨R, hR⟩ : ∃ R, R = (headSpec wsX8_dough rmX8_dough).room := ⟨_, rfl⟩
  rw [← hR]
  have hR1 : R.frames = 3 := by rw [hR]; rfl
  have hR2 : R.locals = 66 := by rw [hR]; rfl
  obtain ⟨Q, hQ⟩ : ∃ Q : State → Prop, Q = MQ below (va_Qi (fun r' (_ : Unit) => r' = res9) (fun _ t => WU X (pbt w f0 g0 c0 y0 o0) t) (xF b0)) args s 0 0 (xF b0) := ⟨_, rfl⟩
  rw [← hQ]
  have hS : va_S (xF b0) s.heap s.heap [] := va_S.rf
  have hl := lv_entry ([.ref (xa X 306), .int a1, .int a2]) (n := 3) (Nat.le_of_ble_eq_true rfl)
  refine W.eq ((congrArg (fun z => entryFrame m z 3) ha).trans (lg_entry_eq m _ 3)) ?_
  generalize (lg_sl ([.ref (xa X 306), .int a1, .int a2]) ++ List.replicate (3 - (lg_sl ([.ref (xa X 306), .int a1, .int a2])).length) Slot.unset).toArray = ls at hl ⊢
  have hl : lv_has ls 3 [(0, .ref (xa X 306)), (1, .int a1), (2, .int a2)] := hl
  have hk_f10 := hts (.fieldLink RX8 10 "BakeTurns" "now" "LBakeTurns$State;") (by decide +kernel)
  have hc_111 := (cwV 1 hts gX8_dough_X7_isDough rfl rfl rfl (by decide +kernel) ⟨by rw [hR1]; exact Nat.le_of_ble_eq_true rfl, by rw [hR2]; exact Nat.le_of_ble_eq_true rfl⟩ : CallW R s args RX8 RX7 111 yX7_isDough cX7_isDough 2 (some .boolean) wsX7_isDough rmX7_isDough 0 0 1)
  have hc_98 := (cwS 3 hts gX8_dough_X8_refusalOfValue rfl rfl rfl (by decide +kernel) ⟨by rw [hR1]; exact Nat.le_of_ble_eq_true rfl, by rw [hR2]; exact Nat.le_of_ble_eq_true rfl⟩ : CallB R s args RX8 98 yX8_refusalOfValue cX8_refusalOfValue 3 (some .int) wsX8_refusalOfValue rmX8_refusalOfValue 0 0 3 ∧ (Cond.static yX8_refusalOfValue).before args s = true)
  have hc_37 := (va_cwS 1 hts gX8_dough_X8_refuse rfl rfl rfl (by decide +kernel) ⟨by rw [hR1]; exact Nat.le_of_ble_eq_true rfl, by rw [hR2]; exact Nat.le_of_ble_eq_true rfl⟩ : CallB R s args RX8 37 yX8_refuse cX8_refuse 1 none wsX8_refuse rmX8_refuse 0 0 1 ∧ (Cond.static yX8_refuse).before args s = true)
  have hc_114 := (cwV 2 hts gX8_dough_X7_valueOfDough rfl rfl rfl (by decide +kernel) ⟨by rw [hR1]; exact Nat.le_of_ble_eq_true rfl, by rw [hR2]; exact Nat.le_of_ble_eq_true rfl⟩ : CallW R s args RX8 RX7 114 yX7_valueOfDough cX7_valueOfDough 3 (some .int) wsX7_valueOfDough rmX7_valueOfDough 0 0 2)
  unfold m8_dough at hf
  refine lv_aload_n hx hb dX8_dough_0 rfl (lv_at hl 0 rfl) ?_
  refine w_get hx hb hts iX8_dough_X8 hown hP hK (by decide) emb_bt rfl 0 (by decide) hk_f10 rfl dX8_dough_1 ?_
  refine lv_iload_n hx hb dX8_dough_4 rfl (lv_at hl 1 rfl) ?_
  obtain ⟨x1, hc2, hf⟩ := lt1_e hf
  refine w_ci ⟨hx, hb, hml, hown, hts⟩ hP hK hS (by have hM := k7_isDough l hX (k := 0) (by decide) (pbt w f0 g0 c0 y0 o0) hc2; simp only [pbt_f] at hM; exact hM) hc_111 (st_recv (k := 0) (i0 := 0) (HW_f hP) hK (by decide) (by decide) rfl rfl) rfl hl.1 rfl (Nat.le_of_ble_eq_true rfl) dX8_dough_5 ⟨Nat.zero_le _, Nat.zero_le _⟩ (fun H locs hP hS => ?_)
  refine lv_iload_n hx hb dX8_dough_8 rfl (lv_at hl 2 rfl) ?_
  refine lv_bipush (v := 10) hx hb dX8_dough_9 (by decide) ?_
  obtain ⟨x3, hc4, hf⟩ := lt1_e hf
  refine w_csi ⟨hx, hb, hml, hown, hts⟩ hP hK hS (k8_refusalOfValue l hX (pbt w f0 g0 c0 y0 o0) hc4) hc_98 rfl hl.1 rfl (Nat.le_of_ble_eq_true rfl) dX8_dough_11 ⟨Nat.zero_le _, Nat.zero_le _⟩ (fun H locs hP hS => ?_)
  obtain ⟨hth5, hf⟩ := ckp_e hf
  refine w_csv ⟨hx, hb, hml, hown, hts⟩ hP hK hS (k8_refuse l hth5 _) hc_37 rfl hl.1 rfl (Nat.le_of_ble_eq_true rfl) dX8_dough_14 ⟨Nat.zero_le _, Nat.zero_le _⟩ (fun H locs hP hS => ?_)
  refine lv_aload_n hx hb dX8_dough_17 rfl (lv_at hl 0 rfl) ?_
  refine w_get hx hb hts iX8_dough_X8 hown hP hK (by decide) emb_bt rfl 0 (by decide) hk_f10 rfl dX8_dough_18 ?_
  refine lv_iload_n hx hb dX8_dough_21 rfl (lv_at hl 1 rfl) ?_
  refine lv_iload_n hx hb dX8_dough_22 rfl (lv_at hl 2 rfl) ?_
  obtain ⟨x6, hc7, hf⟩ := ob1_e hf
  refine w_ci ⟨hx, hb, hml, hown, hts⟩ hP hK hS (by have hM := k7_valueOfDough l hX (k := 0) (by decide) (pbt w f0 g0 c0 y0 o0) hc7; simp only [pbt_f] at hM; exact hM) hc_114 (st_recv (k := 0) (i0 := 0) (HW_f hP) hK (by decide) (by decide) rfl rfl) rfl hl.1 rfl (Nat.le_of_ble_eq_true rfl) dX8_dough_23 ⟨Nat.zero_le _, Nat.zero_le _⟩ (fun H locs hP hS => ?_)
  have hf := Option.some.inj hf
  obtain rfl := hf
  rw [hQ]
  exact w_iret hx hb hr hlocks hP hK hS dX8_dough_26 rfl rfl
abbrev rmX8_place : Room := { frames := 3, cells := 0, slots := 0, locals := 64 }
theorem iX8_place_X8 : ∀ w ∈ wsX80, w ∈ wsX8_place := by decide +kernel
set_option maxHeartbeats 4000000 in
set_option maxRecDepth 100000 in
theorem k8_place (l : Launch) {X : bkX} {b0 : Nat} (hX : XO X b0) (w : bkW) {f0 : bkA} {g0 : bkA} {c0 : bkA} {y0 : Nat → bkA} {o0 : Nat → Int32} {a1 : Int32} {a2 : Int32} {res9 : Int32} (hf : m8_place f0 a1 a2 = some res9) : cI l yX8_place wsX8_place rmX8_place X b0 [.ref (xa X 306), .int a1, .int a2] (pbt w f0 g0 c0 y0 o0) res9 (pbt w f0 g0 c0 y0 o0) := by
  refine Met.ofW (cc := cX8_place) (maxL := 3) (ret := (some .int)) (by decide) rfl ?_
  intro p e s m args below meth c s₁ B hml hv
  obtain ⟨ha, hP, hK⟩ := hv
  have hx := B.exec
  have hb := B.bytes
  have hr := B.returns
  have hts := atoms_spec (ws := wsX8_place) B.pre
  have hown : s.vm.findClass RX8 = some m.cls := findClass_of_methodNamed B.named
  have hlocks := B.notSynchronized
  obtain ⟨R, hR⟩ : ∃ R, R = (headSpec wsX8_place rmX8_place).room := ⟨_, rfl⟩
  rw [← hR]
  have hR1 : R.frames = 3 := by rw [hR]; rfl
  have hR2 : R.locals = 64 := by rw [hR]; rfl
  obtain ⟨Q, hQ⟩ : ∃ Q : State → Prop, Q = MQ below (va_Qi (fun r' (_ : Unit) => r' = res9) (fun _ t => WU X (pbt w f0 g0 c0 y0 o0) t) (xF b0)) args s 0 0 (xF b0) := ⟨_, rfl⟩
  rw [← hQ]
  have hS : va_S (xF b0) s.heap s.heap [] := va_S.rf
  have hl := lv_entry ([.ref (xa X 306), .int a1, .int a2]) (n := 3) (Nat.le_of_ble_eq_true rfl)
  refine W.eq ((congrArg (fun z => entryFrame m z 3) ha).trans (lg_entry_eq m _ 3)) ?_
  generalize (lg_sl ([.ref (xa X 306), .int a1, .int a2]) ++ List.replicate (3 - (lg_sl ([.ref (xa X 306), .int a1, .int a2])).length) Slot.unset).toArray = ls at hl ⊢
  have hl : lv_has ls 3 [(0, .ref (xa X 306)), (1, .int a1), (2, .int a2)] := hl
  have hc_98 := (cwS 3 hts gX8_place_X8_refusalOfValue rfl rfl rfl (by decide +kernel) ⟨by rw [hR1]; exact Nat.le_of_ble_eq_true rfl, by rw [hR2]; exact Nat.le_of_ble_eq_true rfl⟩ : CallB R s args RX8 98 yX8_refusalOfValue cX8_refusalOfValue 3 (some .int) wsX8_refusalOfValue rmX8_refusalOfValue 0 0 3 ∧ (Cond.static yX8_refusalOfValue).before args s = true)
  have hc_37 := (va_cwS 1 hts gX8_place_X8_refuse rfl rfl rfl (by decide +kernel) ⟨by rw [hR1]; exact Nat.le_of_ble_eq_true rfl, by rw [hR2]; exact Nat.le_of_ble_eq_true rfl⟩ : CallB R s args RX8 37 yX8_refuse cX8_refuse 1 none wsX8_refuse rmX8_refuse 0 0 1 ∧ (Cond.static yX8_refuse).before args s = true)
  have hk_f10 := hts (.fieldLink RX8 10 "BakeTurns" "now" "LBakeTurns$State;") (by decide +kernel)
  have hc_117 := (cwV 2 hts gX8_place_X7_valueOfPlace rfl rfl rfl (by decide +kernel) ⟨by rw [hR1]; exact Nat.le_of_ble_eq_true rfl, by rw [hR2]; exact Nat.le_of_ble_eq_true rfl⟩ : CallW R s args RX8 RX7 117 yX7_valueOfPlace cX7_valueOfPlace 3 (some .int) wsX7_valueOfPlace rmX7_valueOfPlace 0 0 2)
  unfold m8_place at hf
  refine lv_iload_n hx hb dX8_place_0 rfl (lv_at hl 1 rfl) ?_
  obtain ⟨x3, ejK4, hf⟩ := lt1_e hf
  have K4 : ∀ (H : Heap) (locs : List Loc) (ls : Array Slot), HW X (pbt w f0 g0 c0 y0 o0) H → va_S (xF b0) s.heap H locs → lv_has ls 3 [(0, .ref (xa X 306)), (1, .int a1), (2, .int a2)] → W p l e R s m args below meth c H locs 0 0 Q (F0 m 15 ls [.int x3]) := by
    intro H locs ls hP hS hl
    refine lv_iload_n hx hb dX8_place_15 rfl (lv_at hl 2 rfl) ?_
    refine lv_iconst (v := 4) hx hb dX8_place_16 (by decide) ?_
    obtain ⟨x6, hc7, hf⟩ := lt1_e hf
    refine w_csi ⟨hx, hb, hml, hown, hts⟩ hP hK hS (k8_refusalOfValue l hX (pbt w f0 g0 c0 y0 o0) hc7) hc_98 rfl hl.1 rfl (Nat.le_of_ble_eq_true rfl) dX8_place_17 ⟨Nat.zero_le _, Nat.zero_le _⟩ (fun H locs hP hS => ?_)
    obtain ⟨hth8, hf⟩ := ckp_e hf
    refine w_csv ⟨hx, hb, hml, hown, hts⟩ hP hK hS (k8_refuse l hth8 _) hc_37 rfl hl.1 rfl (Nat.le_of_ble_eq_true rfl) dX8_place_20 ⟨Nat.zero_le _, Nat.zero_le _⟩ (fun H locs hP hS => ?_)
    refine lv_aload_n hx hb dX8_place_23 rfl (lv_at hl 0 rfl) ?_
    refine w_get hx hb hts iX8_place_X8 hown hP hK (by decide) emb_bt rfl 0 (by decide) hk_f10 rfl dX8_place_24 ?_
    refine lv_iload_n hx hb dX8_place_27 rfl (lv_at hl 1 rfl) ?_
    refine lv_iload_n hx hb dX8_place_28 rfl (lv_at hl 2 rfl) ?_
    obtain ⟨x9, hc10, hf⟩ := lt1_e hf
    refine w_ci ⟨hx, hb, hml, hown, hts⟩ hP hK hS (by have hM := k7_valueOfPlace l hX (k := 0) (by decide) (pbt w f0 g0 c0 y0 o0) hc10; simp only [pbt_f] at hM; exact hM) hc_117 (st_recv (k := 0) (i0 := 0) (HW_f hP) hK (by decide) (by decide) rfl rfl) rfl hl.1 rfl (Nat.le_of_ble_eq_true rfl) dX8_place_29 ⟨Nat.zero_le _, Nat.zero_le _⟩ (fun H locs hP hS => ?_)
    have hf := Option.some.inj hf
    obtain rfl := hf
    rw [hQ]
    exact w_iret hx hb hr hlocks hP hK hS dX8_place_32 rfl rfl
  clear hf
  refine lv_if_lt (tgt := 14) hx hb dX8_place_1 (by decide) (fun h1 => ?_) (fun h1 => ?_)
  · rw [if_pos h1] at ejK4
    refine lv_iconst (v := 0) hx hb dX8_place_14 (by decide) ?_
    obtain rfl := ejK4
    exact K4 _ _ _ hP hS (lv_sub hl [0, 1, 2] rfl)
  · rw [if_neg h1] at ejK4
    refine lv_iload_n hx hb dX8_place_4 rfl (lv_at hl 1 rfl) ?_
    refine lv_bipush (v := 12) hx hb dX8_place_5 (by decide) ?_
    refine lv_icmp_ge (tgt := 14) hx hb dX8_place_7 (by decide) (fun h5 => ?_) (fun h5 => ?_)
    · rw [if_pos h5] at ejK4
      refine lv_iconst (v := 0) hx hb dX8_place_14 (by decide) ?_
      obtain rfl := ejK4
      exact K4 _ _ _ hP hS (lv_sub hl [0, 1, 2] rfl)
    · rw [if_neg h5] at ejK4
      refine lv_iconst (v := 1) hx hb dX8_place_10 (by decide) ?_
      refine lv_goto (tgt := 15) hx hb dX8_place_11 (by decide) ?_
      obtain rfl := ejK4
      exact K4 _ _ _ hP hS (lv_sub hl [0, 1, 2] rfl)
abbrev rmX8_whole : Room := { frames := 5, cells := 0, slots := 0, locals := 106 }
set_option maxHeartbeats 4000000 in
set_option maxRecDepth 100000 in
theorem k8_whole (l : Launch) {X : bkX} {b0 : Nat} (hX : XO X b0) (w : bkW) {N : Nat} {f0 : bkA} {g0 : bkA} {c0 : bkA} {y0 : Nat → bkA} {o0 : Nat → Int32} {a1 : Int32} {res9 : Int32} (hf : m8_whole N f0 c0 a1 = some res9) : cI l yX8_whole wsX8_whole rmX8_whole X b0 [.ref (xa X 306), .int a1] (pbt w f0 g0 c0 y0 o0) res9 (pbt w f0 g0 c0 y0 o0) := by
  refine Met.ofW (cc := cX8_whole) (maxL := 2) (ret := (some .int)) (by decide) rfl ?_
  intro p e s m args below meth c s₁ B hml hv
  obtain ⟨ha, hP, hK⟩ := hv
  have hx := B.exec
  have hb := B.bytes
  have hr := B.returns
  have hts := atoms_spec (ws := wsX8_whole) B.pre
  have hown : s.vm.findClass RX8 = some m.cls := findClass_of_methodNamed B.named
  have hlocks := B.notSynchronized
  obtain ⟨R, hR⟩ : ∃ R, R = (headSpec wsX8_whole rmX8_whole).room := ⟨_, rfl⟩
  rw [← hR]
  have hR1 : R.frames = 5 := by rw [hR]; rfl
  have hR2 : R.locals = 106 := by rw [hR]; rfl
  obtain ⟨Q, hQ⟩ : ∃ Q : State → Prop, Q = MQ below (va_Qi (fun r' (_ : Unit) => r' = res9) (fun _ t => WU X (pbt w f0 g0 c0 y0 o0) t) (xF b0)) args s 0 0 (xF b0) := ⟨_, rfl⟩
  rw [← hQ]
  have hS : va_S (xF b0) s.heap s.heap [] := va_S.rf
  have hl := lv_entry ([.ref (xa X 306), .int a1]) (n := 2) (Nat.le_of_ble_eq_true rfl)
  refine W.eq ((congrArg (fun z => entryFrame m z 2) ha).trans (lg_entry_eq m _ 2)) ?_
  generalize (lg_sl ([.ref (xa X 306), .int a1]) ++ List.replicate (2 - (lg_sl ([.ref (xa X 306), .int a1])).length) Slot.unset).toArray = ls at hl ⊢
  have hl : lv_has ls 2 [(0, .ref (xa X 306)), (1, .int a1)] := hl
  have hc_98 := (cwS 3 hts gX8_whole_X8_refusalOfValue rfl rfl rfl (by decide +kernel) ⟨by rw [hR1]; exact Nat.le_of_ble_eq_true rfl, by rw [hR2]; exact Nat.le_of_ble_eq_true rfl⟩ : CallB R s args RX8 98 yX8_refusalOfValue cX8_refusalOfValue 3 (some .int) wsX8_refusalOfValue rmX8_refusalOfValue 0 0 3 ∧ (Cond.static yX8_refusalOfValue).before args s = true)
  have hc_37 := (va_cwS 1 hts gX8_whole_X8_refuse rfl rfl rfl (by decide +kernel) ⟨by rw [hR1]; exact Nat.le_of_ble_eq_true rfl, by rw [hR2]; exact Nat.le_of_ble_eq_true rfl⟩ : CallB R s args RX8 37 yX8_refuse cX8_refuse 1 none wsX8_refuse rmX8_refuse 0 0 1 ∧ (Cond.static yX8_refuse).before args s = true)
  have hc_120 := (cwV 1 hts gX8_whole_X8_valueOfWhole rfl rfl rfl (by decide +kernel) ⟨by rw [hR1]; exact Nat.le_of_ble_eq_true rfl, by rw [hR2]; exact Nat.le_of_ble_eq_true rfl⟩ : CallW R s args RX8 RX8 120 yX8_valueOfWhole cX8_valueOfWhole 2 (some .int) wsX8_valueOfWhole rmX8_valueOfWhole 0 0 1)
  unfold m8_whole at hf
  refine lv_iconst (v := 1) hx hb dX8_whole_0 (by decide) ?_
  refine lv_iload_n hx hb dX8_whole_1 rfl (lv_at hl 1 rfl) ?_
  refine lv_bipush (v := 15) hx hb dX8_whole_2 (by decide) ?_
  obtain ⟨x1, hc2, hf⟩ := lt1_e hf
  refine w_csi ⟨hx, hb, hml, hown, hts⟩ hP hK hS (k8_refusalOfValue l hX (pbt w f0 g0 c0 y0 o0) hc2) hc_98 rfl hl.1 rfl (Nat.le_of_ble_eq_true rfl) dX8_whole_4 ⟨Nat.zero_le _, Nat.zero_le _⟩ (fun H locs hP hS => ?_)
  obtain ⟨hth3, hf⟩ := ckp_e hf
  refine w_csv ⟨hx, hb, hml, hown, hts⟩ hP hK hS (k8_refuse l hth3 _) hc_37 rfl hl.1 rfl (Nat.le_of_ble_eq_true rfl) dX8_whole_7 ⟨Nat.zero_le _, Nat.zero_le _⟩ (fun H locs hP hS => ?_)
  refine lv_aload_n hx hb dX8_whole_10 rfl (lv_at hl 0 rfl) ?_
  refine lv_iload_n hx hb dX8_whole_11 rfl (lv_at hl 1 rfl) ?_
  obtain ⟨x4, hc5, hf⟩ := ob1_e hf
  refine w_ci ⟨hx, hb, hml, hown, hts⟩ hP hK hS (k8_valueOfWhole l hX w hc5) hc_120 (w_recv hP hK (by decide) emb_bt rfl) rfl hl.1 rfl (Nat.le_of_ble_eq_true rfl) dX8_whole_12 ⟨Nat.zero_le _, Nat.zero_le _⟩ (fun H locs hP hS => ?_)
  have hf := Option.some.inj hf
  obtain rfl := hf
  rw [hQ]
  exact w_iret hx hb hr hlocks hP hK hS dX8_whole_15 rfl rfl
abbrev rmX8_line : Room := { frames := 2, cells := 0, slots := 0, locals := 42 }
theorem iX8_line_X8 : ∀ w ∈ wsX80, w ∈ wsX8_line := by decide +kernel
set_option maxHeartbeats 4000000 in
set_option maxRecDepth 100000 in
theorem k8_line (l : Launch) {X : bkX} {b0 : Nat} (hX : XO X b0) (w : bkW) {f0 : bkA} {g0 : bkA} {c0 : bkA} {y0 : Nat → bkA} {o0 : Nat → Int32} {a1 : Int32} {res9 : Int32} (hf : m8_line f0 a1 = some res9) : cI l yX8_line wsX8_line rmX8_line X b0 [.ref (xa X 306), .int a1] (pbt w f0 g0 c0 y0 o0) res9 (pbt w f0 g0 c0 y0 o0) := by
  refine Met.ofW (cc := cX8_line) (maxL := 2) (ret := (some .int)) (by decide) rfl ?_
  intro p e s m args below meth c s₁ B hml hv
  obtain ⟨ha, hP, hK⟩ := hv
  have hx := B.exec
  have hb := B.bytes
  have hr := B.returns
  have hts := atoms_spec (ws := wsX8_line) B.pre
  have hown : s.vm.findClass RX8 = some m.cls := findClass_of_methodNamed B.named
  have hlocks := B.notSynchronized
  obtain ⟨R, hR⟩ : ∃ R, R = (headSpec wsX8_line rmX8_line).room := ⟨_, rfl⟩
  rw [← hR]
  have hR1 : R.frames = 2 := by rw [hR]; rfl
  have hR2 : R.locals = 42 := by rw [hR]; rfl
  obtain ⟨Q, hQ⟩ : ∃ Q : State → Prop, Q = MQ below (va_Qi (fun r' (_ : Unit) => r' = res9) (fun _ t => WU X (pbt w f0 g0 c0 y0 o0) t) (xF b0)) args s 0 0 (xF b0) := ⟨_, rfl⟩
  rw [← hQ]
  have hS : va_S (xF b0) s.heap s.heap [] := va_S.rf
  have hl := lv_entry ([.ref (xa X 306), .int a1]) (n := 2) (Nat.le_of_ble_eq_true rfl)
  refine W.eq ((congrArg (fun z => entryFrame m z 2) ha).trans (lg_entry_eq m _ 2)) ?_
  generalize (lg_sl ([.ref (xa X 306), .int a1]) ++ List.replicate (2 - (lg_sl ([.ref (xa X 306), .int a1])).length) Slot.unset).toArray = ls at hl ⊢
  have hl : lv_has ls 2 [(0, .ref (xa X 306)), (1, .int a1)] := hl
  have hc_37 := (va_cwS 1 hts gX8_line_X8_refuse rfl rfl rfl (by decide +kernel) ⟨by rw [hR1]; exact Nat.le_of_ble_eq_true rfl, by rw [hR2]; exact Nat.le_of_ble_eq_true rfl⟩ : CallB R s args RX8 37 yX8_refuse cX8_refuse 1 none wsX8_refuse rmX8_refuse 0 0 1 ∧ (Cond.static yX8_refuse).before args s = true)
  have hk_f10 := hts (.fieldLink RX8 10 "BakeTurns" "now" "LBakeTurns$State;") (by decide +kernel)
  have hc_123 := (cwV 1 hts gX8_line_X7_doughInLine rfl rfl rfl (by decide +kernel) ⟨by rw [hR1]; exact Nat.le_of_ble_eq_true rfl, by rw [hR2]; exact Nat.le_of_ble_eq_true rfl⟩ : CallW R s args RX8 RX7 123 yX7_doughInLine cX7_doughInLine 2 (some .int) wsX7_doughInLine rmX7_doughInLine 0 0 1)
  unfold m8_line at hf
  refine lv_iload_n hx hb dX8_line_0 rfl (lv_at hl 1 rfl) ?_
  obtain ⟨x2, ejK3, hf⟩ := lt1_e hf
  have K3 : ∀ (H : Heap) (locs : List Loc) (ls : Array Slot), HW X (pbt w f0 g0 c0 y0 o0) H → va_S (xF b0) s.heap H locs → lv_has ls 2 [(0, .ref (xa X 306)), (1, .int a1)] → W p l e R s m args below meth c H locs 0 0 Q (F0 m 9 ls [.int x2]) := by
    intro H locs ls hP hS hl
    obtain ⟨hth4, hf⟩ := ckp_e hf
    refine w_csv ⟨hx, hb, hml, hown, hts⟩ hP hK hS (k8_refuse l hth4 _) hc_37 rfl hl.1 rfl (Nat.le_of_ble_eq_true rfl) dX8_line_9 ⟨Nat.zero_le _, Nat.zero_le _⟩ (fun H locs hP hS => ?_)
    refine lv_aload_n hx hb dX8_line_12 rfl (lv_at hl 0 rfl) ?_
    refine w_get hx hb hts iX8_line_X8 hown hP hK (by decide) emb_bt rfl 0 (by decide) hk_f10 rfl dX8_line_13 ?_
    refine lv_iload_n hx hb dX8_line_16 rfl (lv_at hl 1 rfl) ?_
    obtain ⟨x5, hc6, hf⟩ := lt1_e hf
    refine w_ci ⟨hx, hb, hml, hown, hts⟩ hP hK hS (by have hM := k7_doughInLine l hX (k := 0) (by decide) (pbt w f0 g0 c0 y0 o0) hc6; simp only [pbt_f] at hM; exact hM) hc_123 (st_recv (k := 0) (i0 := 0) (HW_f hP) hK (by decide) (by decide) rfl rfl) rfl hl.1 rfl (Nat.le_of_ble_eq_true rfl) dX8_line_17 ⟨Nat.zero_le _, Nat.zero_le _⟩ (fun H locs hP hS => ?_)
    have hf := Option.some.inj hf
    obtain rfl := hf
    rw [hQ]
    exact w_iret hx hb hr hlocks hP hK hS dX8_line_20 rfl rfl
  clear hf
  refine lv_if_ge (tgt := 8) hx hb dX8_line_1 (by decide) (fun h1 => ?_) (fun h1 => ?_)
  · rw [if_pos h1] at ejK3
    refine lv_iconst (v := 0) hx hb dX8_line_8 (by decide) ?_
    obtain rfl := ejK3
    exact K3 _ _ _ hP hS (lv_sub hl [0, 1] rfl)
  · rw [if_neg h1] at ejK3
    refine lv_iconst (v := 2) hx hb dX8_line_4 (by decide) ?_
    refine lv_goto (tgt := 9) hx hb dX8_line_5 (by decide) ?_
    obtain rfl := ejK3
    exact K3 _ _ _ hP hS (lv_sub hl [0, 1] rfl)
abbrev rmX8_reason : Room := { frames := 4, cells := 0, slots := 0, locals := 92 }
theorem iX8_reason_X8 : ∀ w ∈ wsX80, w ∈ wsX8_reason := by decide +kernel
set_option maxHeartbeats 4000000 in
set_option maxRecDepth 100000 in
theorem k8_reason (l : Launch) {X : bkX} {b0 : Nat} (hX : XO X b0) (w : bkW) {N : Nat} {f0 : bkA} {g0 : bkA} {c0 : bkA} {y0 : Nat → bkA} {o0 : Nat → Int32} {a1 : Int32} {res9 : Int32} (hf : m8_reason N f0 a1 = some res9) : cI l yX8_reason wsX8_reason rmX8_reason X b0 [.ref (xa X 306), .int a1] (pbt w f0 g0 c0 y0 o0) res9 (pbt w f0 g0 c0 y0 o0) := by
  refine Met.ofW (cc := cX8_reason) (maxL := 2) (ret := (some .int)) (by decide) rfl ?_
  intro p e s m args below meth c s₁ B hml hv
  obtain ⟨ha, hP, hK⟩ := hv
  have hx := B.exec
  have hb := B.bytes
  have hr := B.returns
  have hts := atoms_spec (ws := wsX8_reason) B.pre
  have hown : s.vm.findClass RX8 = some m.cls := findClass_of_methodNamed B.named
  have hlocks := B.notSynchronized
  obtain ⟨R, hR⟩ : ∃ R, R = (headSpec wsX8_reason rmX8_reason).room := ⟨_, rfl⟩
  rw [← hR]
  have hR1 : R.frames = 4 := by rw [hR]; rfl
  have hR2 : R.locals = 92 := by rw [hR]; rfl
  obtain ⟨Q, hQ⟩ : ∃ Q : State → Prop, Q = MQ below (va_Qi (fun r' (_ : Unit) => r' = res9) (fun _ t => WU X (pbt w f0 g0 c0 y0 o0) t) (xF b0)) args s 0 0 (xF b0) := ⟨_, rfl⟩
  rw [← hQ]
  have hS : va_S (xF b0) s.heap s.heap [] := va_S.rf
  have hl := lv_entry ([.ref (xa X 306), .int a1]) (n := 2) (Nat.le_of_ble_eq_true rfl)
  refine W.eq ((congrArg (fun z => entryFrame m z 2) ha).trans (lg_entry_eq m _ 2)) ?_
  generalize (lg_sl ([.ref (xa X 306), .int a1]) ++ List.replicate (2 - (lg_sl ([.ref (xa X 306), .int a1])).length) Slot.unset).toArray = ls at hl ⊢
  have hl : lv_has ls 2 [(0, .ref (xa X 306)), (1, .int a1)] := hl
  have hk_f10 := hts (.fieldLink RX8 10 "BakeTurns" "now" "LBakeTurns$State;") (by decide +kernel)
  have hc_111 := (cwV 1 hts gX8_reason_X7_isDough rfl rfl rfl (by decide +kernel) ⟨by rw [hR1]; exact Nat.le_of_ble_eq_true rfl, by rw [hR2]; exact Nat.le_of_ble_eq_true rfl⟩ : CallW R s args RX8 RX7 111 yX7_isDough cX7_isDough 2 (some .boolean) wsX7_isDough rmX7_isDough 0 0 1)
  have hc_37 := (va_cwS 1 hts gX8_reason_X8_refuse rfl rfl rfl (by decide +kernel) ⟨by rw [hR1]; exact Nat.le_of_ble_eq_true rfl, by rw [hR2]; exact Nat.le_of_ble_eq_true rfl⟩ : CallB R s args RX8 37 yX8_refuse cX8_refuse 1 none wsX8_refuse rmX8_refuse 0 0 1 ∧ (Cond.static yX8_refuse).before args s = true)
  have hc_126 := (cwV 1 hts gX8_reason_X7_reasonNow rfl rfl rfl (by decide +kernel) ⟨by rw [hR1]; exact Nat.le_of_ble_eq_true rfl, by rw [hR2]; exact Nat.le_of_ble_eq_true rfl⟩ : CallW R s args RX8 RX7 126 yX7_reasonNow cX7_reasonNow 2 (some .int) wsX7_reasonNow rmX7_reasonNow 0 0 1)
  unfold m8_reason at hf
  refine lv_aload_n hx hb dX8_reason_0 rfl (lv_at hl 0 rfl) ?_
  refine w_get hx hb hts iX8_reason_X8 hown hP hK (by decide) emb_bt rfl 0 (by decide) hk_f10 rfl dX8_reason_1 ?_
  refine lv_iload_n hx hb dX8_reason_4 rfl (lv_at hl 1 rfl) ?_
  obtain ⟨x1, hc2, hf⟩ := lt1_e hf
  refine w_ci ⟨hx, hb, hml, hown, hts⟩ hP hK hS (by have hM := k7_isDough l hX (k := 0) (by decide) (pbt w f0 g0 c0 y0 o0) hc2; simp only [pbt_f] at hM; exact hM) hc_111 (st_recv (k := 0) (i0 := 0) (HW_f hP) hK (by decide) (by decide) rfl rfl) rfl hl.1 rfl (Nat.le_of_ble_eq_true rfl) dX8_reason_5 ⟨Nat.zero_le _, Nat.zero_le _⟩ (fun H locs hP hS => ?_)
  obtain ⟨x4, ejK5, hf⟩ := lt1_e hf
  have K5 : ∀ (H : Heap) (locs : List Loc) (ls : Array Slot), HW X (pbt w f0 g0 c0 y0 o0) H → va_S (xF b0) s.heap H locs → lv_has ls 2 [(0, .ref (xa X 306)), (1, .int a1)] → W p l e R s m args below meth c H locs 0 0 Q (F0 m 16 ls [.int x4]) := by
    intro H locs ls hP hS hl
    obtain ⟨hth6, hf⟩ := ckp_e hf
    refine w_csv ⟨hx, hb, hml, hown, hts⟩ hP hK hS (k8_refuse l hth6 _) hc_37 rfl hl.1 rfl (Nat.le_of_ble_eq_true rfl) dX8_reason_16 ⟨Nat.zero_le _, Nat.zero_le _⟩ (fun H locs hP hS => ?_)
    refine lv_aload_n hx hb dX8_reason_19 rfl (lv_at hl 0 rfl) ?_
    refine w_get hx hb hts iX8_reason_X8 hown hP hK (by decide) emb_bt rfl 0 (by decide) hk_f10 rfl dX8_reason_20 ?_
    refine lv_iload_n hx hb dX8_reason_23 rfl (lv_at hl 1 rfl) ?_
    obtain ⟨x7, hc8, hf⟩ := ob1_e hf
    refine w_ci ⟨hx, hb, hml, hown, hts⟩ hP hK hS (by have hM := k7_reasonNow l hX (k := 0) (by decide) (pbt w f0 g0 c0 y0 o0) hc8; simp only [pbt_f] at hM; exact hM) hc_126 (st_recv (k := 0) (i0 := 0) (HW_f hP) hK (by decide) (by decide) rfl rfl) rfl hl.1 rfl (Nat.le_of_ble_eq_true rfl) dX8_reason_24 ⟨Nat.zero_le _, Nat.zero_le _⟩ (fun H locs hP hS => ?_)
    have hf := Option.some.inj hf
    obtain rfl := hf
    rw [hQ]
    exact w_iret hx hb hr hlocks hP hK hS dX8_reason_27 rfl rfl
  clear hf
  refine lv_if_eq (tgt := 15) hx hb dX8_reason_8 (by decide) (fun h3 => ?_) (fun h3 => ?_)
  · rw [if_pos h3] at ejK5
    refine lv_iconst (v := 1) hx hb dX8_reason_15 (by decide) ?_
    obtain rfl := ejK5
    exact K5 _ _ _ hP hS (lv_sub hl [0, 1] rfl)
  · rw [if_neg h3] at ejK5
    refine lv_iconst (v := 0) hx hb dX8_reason_11 (by decide) ?_
    refine lv_goto (tgt := 16) hx hb dX8_reason_12 (by decide) ?_
    obtain rfl := ejK5
    exact K5 _ _ _ hP hS (lv_sub hl [0, 1] rfl)
abbrev rmX8_loadedIn : Room := { frames := 5, cells := 0, slots := 0, locals := 123 }
theorem iX8_loadedIn_X8 : ∀ w ∈ wsX80, w ∈ wsX8_loadedIn := by decide +kernel
set_option maxHeartbeats 4000000 in
set_option maxRecDepth 100000 in
theorem k8_loadedIn (l : Launch) {X : bkX} {b0 : Nat} (hX : XO X b0) (w : bkW) {N : Nat} {f0 : bkA} {g0 : bkA} {c0 : bkA} {y0 : Nat → bkA} {o0 : Nat → Int32} {a1 : Int32} {res9 : Int32} {g9 : bkA} (hf : m8_loadedIn N f0 g0 a1 = some (res9, g9)) : cI l yX8_loadedIn wsX8_loadedIn rmX8_loadedIn X b0 [.ref (xa X 306), .int a1] (pbt w f0 g0 c0 y0 o0) res9 (pbt w f0 g9 c0 y0 o0) := by
  refine Met.ofW (cc := cX8_loadedIn) (maxL := 3) (ret := (some .int)) (by decide) rfl ?_
  intro p e s m args below meth c s₁ B hml hv
  obtain ⟨ha, hP, hK⟩ := hv
  have hx := B.exec
  have hb := B.bytes
  have hr := B.returns
  have hts := atoms_spec (ws := wsX8_loadedIn) B.pre
  have hown : s.vm.findClass RX8 = some m.cls := findClass_of_methodNamed B.named
  have hlocks := B.notSynchronized
  obtain ⟨R, hR⟩ : ∃ R, R = (headSpec wsX8_loadedIn rmX8_loadedIn).room := ⟨_, rfl⟩
  rw [← hR]
  have hR1 : R.frames = 5 := by rw [hR]; rfl
  have hR2 : R.locals = 123 := by rw [hR]; rfl
  obtain ⟨Q, hQ⟩ : ∃ Q : State → Prop, Q = MQ below (va_Qi (fun r' (_ : Unit) => r' = res9) (fun _ t => WU X (pbt w f0 g9 c0 y0 o0) t) (xF b0)) args s 0 0 (xF b0) := ⟨_, rfl⟩
  rw [← hQ]
  have hS : va_S (xF b0) s.heap s.heap [] := va_S.rf
  have hl := lv_entry ([.ref (xa X 306), .int a1]) (n := 3) (Nat.le_of_ble_eq_true rfl)
  refine W.eq ((congrArg (fun z => entryFrame m z 3) ha).trans (lg_entry_eq m _ 3)) ?_
  generalize (lg_sl ([.ref (xa X 306), .int a1]) ++ List.replicate (3 - (lg_sl ([.ref (xa X 306), .int a1])).length) Slot.unset).toArray = ls at hl ⊢
  have hl : lv_has ls 3 [(0, .ref (xa X 306)), (1, .int a1)] := hl
  have hk_f10 := hts (.fieldLink RX8 10 "BakeTurns" "now" "LBakeTurns$State;") (by decide +kernel)
  have hc_111 := (cwV 1 hts gX8_loadedIn_X7_isDough rfl rfl rfl (by decide +kernel) ⟨by rw [hR1]; exact Nat.le_of_ble_eq_true rfl, by rw [hR2]; exact Nat.le_of_ble_eq_true rfl⟩ : CallW R s args RX8 RX7 111 yX7_isDough cX7_isDough 2 (some .boolean) wsX7_isDough rmX7_isDough 0 0 1)
  have hc_37 := (va_cwS 1 hts gX8_loadedIn_X8_refuse rfl rfl rfl (by decide +kernel) ⟨by rw [hR1]; exact Nat.le_of_ble_eq_true rfl, by rw [hR2]; exact Nat.le_of_ble_eq_true rfl⟩ : CallB R s args RX8 37 yX8_refuse cX8_refuse 1 none wsX8_refuse rmX8_refuse 0 0 1 ∧ (Cond.static yX8_refuse).before args s = true)
  have hc_129 := (cwV 1 hts gX8_loadedIn_X7_isWaiting rfl rfl rfl (by decide +kernel) ⟨by rw [hR1]; exact Nat.le_of_ble_eq_true rfl, by rw [hR2]; exact Nat.le_of_ble_eq_true rfl⟩ : CallW R s args RX8 RX7 129 yX7_isWaiting cX7_isWaiting 2 (some .boolean) wsX7_isWaiting rmX7_isWaiting 0 0 1)
  have hk_f16 := hts (.fieldLink RX8 16 "BakeTurns" "whatIf" "LBakeTurns$State;") (by decide +kernel)
  have hc_132 := (cwV 1 hts gX8_loadedIn_X7_copyFrom rfl rfl rfl (by decide +kernel) ⟨by rw [hR1]; exact Nat.le_of_ble_eq_true rfl, by rw [hR2]; exact Nat.le_of_ble_eq_true rfl⟩ : CallW R s args RX8 RX7 132 yX7_copyFrom cX7_copyFrom 2 none wsX7_copyFrom rmX7_copyFrom 0 0 1)
  have hc_91 := (cwV 1 hts gX8_loadedIn_X7_passTicks rfl rfl rfl (by decide +kernel) ⟨by rw [hR1]; exact Nat.le_of_ble_eq_true rfl, by rw [hR2]; exact Nat.le_of_ble_eq_true rfl⟩ : CallW R s args RX8 RX7 91 yX7_passTicks cX7_passTicks 6 (some .int) wsX7_passTicks rmX7_passTicks 0 0 1)
  have hc_135 := (cwV 1 hts gX8_loadedIn_X7_wasLoaded rfl rfl rfl (by decide +kernel) ⟨by rw [hR1]; exact Nat.le_of_ble_eq_true rfl, by rw [hR2]; exact Nat.le_of_ble_eq_true rfl⟩ : CallW R s args RX8 RX7 135 yX7_wasLoaded cX7_wasLoaded 2 (some .boolean) wsX7_wasLoaded rmX7_wasLoaded 0 0 1)
  unfold m8_loadedIn at hf
  refine lv_aload_n hx hb dX8_loadedIn_0 rfl (lv_at hl 0 rfl) ?_
  refine w_get hx hb hts iX8_loadedIn_X8 hown hP hK (by decide) emb_bt rfl 0 (by decide) hk_f10 rfl dX8_loadedIn_1 ?_
  refine lv_iload_n hx hb dX8_loadedIn_4 rfl (lv_at hl 1 rfl) ?_
  obtain ⟨x1, hc2, hf⟩ := lt1_e hf
  refine w_ci ⟨hx, hb, hml, hown, hts⟩ hP hK hS (by have hM := k7_isDough l hX (k := 0) (by decide) (pbt w f0 g0 c0 y0 o0) hc2; simp only [pbt_f] at hM; exact hM) hc_111 (st_recv (k := 0) (i0 := 0) (HW_f hP) hK (by decide) (by decide) rfl rfl) rfl hl.1 rfl (Nat.le_of_ble_eq_true rfl) dX8_loadedIn_5 ⟨Nat.zero_le _, Nat.zero_le _⟩ (fun H locs hP hS => ?_)
  obtain ⟨x4, ejK5, hf⟩ := lt1_e hf
  have K5 : ∀ (H : Heap) (locs : List Loc) (ls : Array Slot), HW X (pbt w f0 g0 c0 y0 o0) H → va_S (xF b0) s.heap H locs → lv_has ls 3 [(0, .ref (xa X 306)), (1, .int a1)] → W p l e R s m args below meth c H locs 0 0 Q (F0 m 16 ls [.int x4]) := by
    intro H locs ls hP hS hl
    obtain ⟨hth6, hf⟩ := ckp_e hf
    refine w_csv ⟨hx, hb, hml, hown, hts⟩ hP hK hS (k8_refuse l hth6 _) hc_37 rfl hl.1 rfl (Nat.le_of_ble_eq_true rfl) dX8_loadedIn_16 ⟨Nat.zero_le _, Nat.zero_le _⟩ (fun H locs hP hS => ?_)
    refine lv_aload_n hx hb dX8_loadedIn_19 rfl (lv_at hl 0 rfl) ?_
    refine w_get hx hb hts iX8_loadedIn_X8 hown hP hK (by decide) emb_bt rfl 0 (by decide) hk_f10 rfl dX8_loadedIn_20 ?_
    refine lv_iload_n hx hb dX8_loadedIn_23 rfl (lv_at hl 1 rfl) ?_
    obtain ⟨x7, hc8, hf⟩ := lt1_e hf
    refine w_ci ⟨hx, hb, hml, hown, hts⟩ hP hK hS (by have hM := k7_isWaiting l hX (k := 0) (by decide) (pbt w f0 g0 c0 y0 o0) hc8; simp only [pbt_f] at hM; exact hM) hc_129 (st_recv (k := 0) (i0 := 0) (HW_f hP) hK (by decide) (by decide) rfl rfl) rfl hl.1 rfl (Nat.le_of_ble_eq_true rfl) dX8_loadedIn_24 ⟨Nat.zero_le _, Nat.zero_le _⟩ (fun H locs hP hS => ?_)
    refine lv_if_ne (tgt := 32) hx hb dX8_loadedIn_27 (by decide) (fun h9 => ?_) (fun h9 => ?_)
    · rw [if_neg h9] at hf
      refine lv_aload_n hx hb dX8_loadedIn_32 rfl (lv_at hl 0 rfl) ?_
      refine w_get hx hb hts iX8_loadedIn_X8 hown hP hK (by decide) emb_bt rfl 1 (by decide) hk_f16 rfl dX8_loadedIn_33 ?_
      refine lv_aload_n hx hb dX8_loadedIn_36 rfl (lv_at hl 0 rfl) ?_
      refine w_get hx hb hts iX8_loadedIn_X8 hown hP hK (by decide) emb_bt rfl 0 (by decide) hk_f10 rfl dX8_loadedIn_37 ?_
      refine w_cv ⟨hx, hb, hml, hown, hts⟩ hP hK hS (bt_cpWhatIf l hX) hc_132 (st_recv (k := 1) (i0 := 0) (HW_g hP) hK (by decide) (by decide) rfl rfl) rfl hl.1 rfl (Nat.le_of_ble_eq_true rfl) dX8_loadedIn_40 ⟨Nat.zero_le _, Nat.zero_le _⟩ (fun H locs hP hS => ?_)
      refine lv_iconst (v := 1) hx hb dX8_loadedIn_43 (by decide) ?_
      refine lv_istore_n (lv' := [(2, .int 1), (0, .ref (xa X 306)), (1, .int a1)]) hx hb dX8_loadedIn_44 rfl hl (by decide) rfl (fun ls hl => ?_)
      have L45 : ∀ (n : Nat) (x11 : Int32) (x12 : Int32) (g13 : bkA) (H : Heap) (locs : List Loc) (ls : Array Slot), m8_loadedIn_L45 N n x11 x12 g13 = some (res9, g9) → HW X (pbt w f0 g13 c0 y0 o0) H → va_S (xF b0) s.heap H locs → lv_has ls 3 [(0, .ref (xa X 306)), (1, .int x11), (2, .int x12)] → W p l e R s m args below meth c H locs 0 0 Q (F0 m 45 ls []) := by
        intro n; induction n with
        | zero => intro x11 x12 g13 H locs ls hf; rw [m8_loadedIn_L45] at hf; cases hf
        | succ n ih =>
          intro x11 x12 g13 H locs ls hf hP hS hl
          rw [m8_loadedIn_L45] at hf
          refine lv_iload_n hx hb dX8_loadedIn_45 rfl (lv_at hl 2 rfl) ?_
          refine lv_bipush (v := 60) hx hb dX8_loadedIn_46 (by decide) ?_
          refine lv_icmp_gt (tgt := 79) hx hb dX8_loadedIn_48 (by decide) (fun h14 => ?_) (fun h14 => ?_)
          · rw [if_pos h14] at hf
            refine lv_iconst (v := (-1)) hx hb dX8_loadedIn_79 (by decide) ?_
            have hf := Option.some.inj hf
            simp only [Prod.mk.injEq] at hf
            obtain ⟨rfl, rfl⟩ := hf
            rw [hQ]
            exact w_iret hx hb hr hlocks hP hK hS dX8_loadedIn_80 rfl rfl
          · rw [if_neg h14] at hf
            refine lv_aload_n hx hb dX8_loadedIn_51 rfl (lv_at hl 0 rfl) ?_
            refine w_get hx hb hts iX8_loadedIn_X8 hown hP hK (by decide) emb_bt rfl 1 (by decide) hk_f16 rfl dX8_loadedIn_52 ?_
            refine lv_iconst (v := 1) hx hb dX8_loadedIn_55 (by decide) ?_
            obtain ⟨x15, g16, hc17, hf⟩ := ob2_e hf
            refine w_ci ⟨hx, hb, hml, hown, hts⟩ hP hK hS (by have hM := k7_passTicks l hX (k := 1) (by decide) (pbt w f0 g13 c0 y0 o0) hc17; simp only [pbt_g] at hM; exact hM) hc_91 (st_recv (k := 1) (i0 := 0) (HW_g hP) hK (by decide) (by decide) rfl rfl) rfl hl.1 rfl (Nat.le_of_ble_eq_true rfl) dX8_loadedIn_56 ⟨Nat.zero_le _, Nat.zero_le _⟩ (fun H locs hP hS => ?_)
            refine lv_pop hx hb dX8_loadedIn_59 rfl ?_
            refine lv_aload_n hx hb dX8_loadedIn_60 rfl (lv_at hl 0 rfl) ?_
            refine w_get hx hb hts iX8_loadedIn_X8 hown hP hK (by decide) emb_bt rfl 1 (by decide) hk_f16 rfl dX8_loadedIn_61 ?_
            refine lv_iload_n hx hb dX8_loadedIn_64 rfl (lv_at hl 1 rfl) ?_
            obtain ⟨x18, hc19, hf⟩ := lt1_e hf
            refine w_ci ⟨hx, hb, hml, hown, hts⟩ hP hK hS (by have hM := k7_wasLoaded l hX (k := 1) (by decide) (pbt w f0 g16 c0 y0 o0) hc19; simp only [pbt_g] at hM; exact hM) hc_135 (st_recv (k := 1) (i0 := 0) (HW_g hP) hK (by decide) (by decide) rfl rfl) rfl hl.1 rfl (Nat.le_of_ble_eq_true rfl) dX8_loadedIn_65 ⟨Nat.zero_le _, Nat.zero_le _⟩ (fun H locs hP hS => ?_)
            refine lv_if_eq (tgt := 73) hx hb dX8_loadedIn_68 (by decide) (fun h20 => ?_) (fun h20 => ?_)
            · rw [if_pos h20] at hf
              obtain ⟨x21, ex21⟩ : ∃ y : Int32, y = x12 + 1 := ⟨_, rfl⟩
              replace hf := ltn_s ex21 hf
              refine lv_iinc (v := x21) (lv' := [(2, .int x21), (0, .ref (xa X 306)), (1, .int x11)]) hx hb dX8_loadedIn_73 hl (k := 2) rfl (by rw [ex21]; rfl) (by decide) rfl (fun ls hl => ?_)
              refine lv_goto (tgt := 45) hx hb dX8_loadedIn_76 (by decide) ?_
              exact ih x11 x21 g16  _ _ _ hf hP hS (lv_sub hl [1, 2, 0] rfl)
            · rw [if_neg h20] at hf
              refine lv_iload_n hx hb dX8_loadedIn_71 rfl (lv_at hl 2 rfl) ?_
              have hf := Option.some.inj hf
              simp only [Prod.mk.injEq] at hf
              obtain ⟨rfl, rfl⟩ := hf
              rw [hQ]
              exact w_iret hx hb hr hlocks hP hK hS dX8_loadedIn_72 rfl rfl
      exact L45 N a1 1 f0 _ _ _ hf hP hS (lv_sub hl [1, 2, 0] rfl)
    · rw [if_pos h9] at hf
      refine lv_iconst (v := (-1)) hx hb dX8_loadedIn_30 (by decide) ?_
      have hf := Option.some.inj hf
      simp only [Prod.mk.injEq] at hf
      obtain ⟨rfl, rfl⟩ := hf
      rw [hQ]
      exact w_iret hx hb hr hlocks hP hK hS dX8_loadedIn_31 rfl rfl
  clear hf
  refine lv_if_eq (tgt := 15) hx hb dX8_loadedIn_8 (by decide) (fun h3 => ?_) (fun h3 => ?_)
  · rw [if_pos h3] at ejK5
    refine lv_iconst (v := 1) hx hb dX8_loadedIn_15 (by decide) ?_
    obtain rfl := ejK5
    exact K5 _ _ _ hP hS (lv_sub hl [0, 1] rfl)
  · rw [if_neg h3] at ejK5
    refine lv_iconst (v := 0) hx hb dX8_loadedIn_11 (by decide) ?_
    refine lv_goto (tgt := 16) hx hb dX8_loadedIn_12 (by decide) ?_
    obtain rfl := ejK5
    exact K5 _ _ _ hP hS (lv_sub hl [0, 1] rfl)
abbrev rmX8_neededLogs : Room := { frames := 4, cells := 0, slots := 0, locals := 93 }
theorem iX8_neededLogs_X8 : ∀ w ∈ wsX80, w ∈ wsX8_neededLogs := by decide +kernel
set_option maxHeartbeats 4000000 in
set_option maxRecDepth 100000 in
theorem k8_neededLogs (l : Launch) {X : bkX} {b0 : Nat} (hX : XO X b0) (w : bkW) {N : Nat} {f0 : bkA} {g0 : bkA} {c0 : bkA} {y0 : Nat → bkA} {o0 : Nat → Int32} {a1 : Int32} {res9 : Int32} (hf : m8_neededLogs N f0 a1 = some res9) : cI l yX8_neededLogs wsX8_neededLogs rmX8_neededLogs X b0 [.ref (xa X 306), .int a1] (pbt w f0 g0 c0 y0 o0) res9 (pbt w f0 g0 c0 y0 o0) := by
  refine Met.ofW (cc := cX8_neededLogs) (maxL := 2) (ret := (some .int)) (by decide) rfl ?_
  intro p e s m args below meth c s₁ B hml hv
  obtain ⟨ha, hP, hK⟩ := hv
  have hx := B.exec
  have hb := B.bytes
  have hr := B.returns
  have hts := atoms_spec (ws := wsX8_neededLogs) B.pre
  have hown : s.vm.findClass RX8 = some m.cls := findClass_of_methodNamed B.named
  have hlocks := B.notSynchronized
  obtain ⟨R, hR⟩ : ∃ R, R = (headSpec wsX8_neededLogs rmX8_neededLogs).room := ⟨_, rfl⟩
  rw [← hR]
  have hR1 : R.frames = 4 := by rw [hR]; rfl
  have hR2 : R.locals = 93 := by rw [hR]; rfl
  obtain ⟨Q, hQ⟩ : ∃ Q : State → Prop, Q = MQ below (va_Qi (fun r' (_ : Unit) => r' = res9) (fun _ t => WU X (pbt w f0 g0 c0 y0 o0) t) (xF b0)) args s 0 0 (xF b0) := ⟨_, rfl⟩
  rw [← hQ]
  have hS : va_S (xF b0) s.heap s.heap [] := va_S.rf
  have hl := lv_entry ([.ref (xa X 306), .int a1]) (n := 2) (Nat.le_of_ble_eq_true rfl)
  refine W.eq ((congrArg (fun z => entryFrame m z 2) ha).trans (lg_entry_eq m _ 2)) ?_
  generalize (lg_sl ([.ref (xa X 306), .int a1]) ++ List.replicate (2 - (lg_sl ([.ref (xa X 306), .int a1])).length) Slot.unset).toArray = ls at hl ⊢
  have hl : lv_has ls 2 [(0, .ref (xa X 306)), (1, .int a1)] := hl
  have hk_f10 := hts (.fieldLink RX8 10 "BakeTurns" "now" "LBakeTurns$State;") (by decide +kernel)
  have hc_111 := (cwV 1 hts gX8_neededLogs_X7_isDough rfl rfl rfl (by decide +kernel) ⟨by rw [hR1]; exact Nat.le_of_ble_eq_true rfl, by rw [hR2]; exact Nat.le_of_ble_eq_true rfl⟩ : CallW R s args RX8 RX7 111 yX7_isDough cX7_isDough 2 (some .boolean) wsX7_isDough rmX7_isDough 0 0 1)
  have hc_37 := (va_cwS 1 hts gX8_neededLogs_X8_refuse rfl rfl rfl (by decide +kernel) ⟨by rw [hR1]; exact Nat.le_of_ble_eq_true rfl, by rw [hR2]; exact Nat.le_of_ble_eq_true rfl⟩ : CallB R s args RX8 37 yX8_refuse cX8_refuse 1 none wsX8_refuse rmX8_refuse 0 0 1 ∧ (Cond.static yX8_refuse).before args s = true)
  have hc_138 := (cwV 1 hts gX8_neededLogs_X7_fewestLogsFor rfl rfl rfl (by decide +kernel) ⟨by rw [hR1]; exact Nat.le_of_ble_eq_true rfl, by rw [hR2]; exact Nat.le_of_ble_eq_true rfl⟩ : CallW R s args RX8 RX7 138 yX7_fewestLogsFor cX7_fewestLogsFor 3 (some .int) wsX7_fewestLogsFor rmX7_fewestLogsFor 0 0 1)
  unfold m8_neededLogs at hf
  refine lv_aload_n hx hb dX8_neededLogs_0 rfl (lv_at hl 0 rfl) ?_
  refine w_get hx hb hts iX8_neededLogs_X8 hown hP hK (by decide) emb_bt rfl 0 (by decide) hk_f10 rfl dX8_neededLogs_1 ?_
  refine lv_iload_n hx hb dX8_neededLogs_4 rfl (lv_at hl 1 rfl) ?_
  obtain ⟨x1, hc2, hf⟩ := lt1_e hf
  refine w_ci ⟨hx, hb, hml, hown, hts⟩ hP hK hS (by have hM := k7_isDough l hX (k := 0) (by decide) (pbt w f0 g0 c0 y0 o0) hc2; simp only [pbt_f] at hM; exact hM) hc_111 (st_recv (k := 0) (i0 := 0) (HW_f hP) hK (by decide) (by decide) rfl rfl) rfl hl.1 rfl (Nat.le_of_ble_eq_true rfl) dX8_neededLogs_5 ⟨Nat.zero_le _, Nat.zero_le _⟩ (fun H locs hP hS => ?_)
  obtain ⟨x4, ejK5, hf⟩ := lt1_e hf
  have K5 : ∀ (H : Heap) (locs : List Loc) (ls : Array Slot), HW X (pbt w f0 g0 c0 y0 o0) H → va_S (xF b0) s.heap H locs → lv_has ls 2 [(0, .ref (xa X 306)), (1, .int a1)] → W p l e R s m args below meth c H locs 0 0 Q (F0 m 16 ls [.int x4]) := by
    intro H locs ls hP hS hl
    obtain ⟨hth6, hf⟩ := ckp_e hf
    refine w_csv ⟨hx, hb, hml, hown, hts⟩ hP hK hS (k8_refuse l hth6 _) hc_37 rfl hl.1 rfl (Nat.le_of_ble_eq_true rfl) dX8_neededLogs_16 ⟨Nat.zero_le _, Nat.zero_le _⟩ (fun H locs hP hS => ?_)
    refine lv_aload_n hx hb dX8_neededLogs_19 rfl (lv_at hl 0 rfl) ?_
    refine w_get hx hb hts iX8_neededLogs_X8 hown hP hK (by decide) emb_bt rfl 0 (by decide) hk_f10 rfl dX8_neededLogs_20 ?_
    refine lv_iload_n hx hb dX8_neededLogs_23 rfl (lv_at hl 1 rfl) ?_
    obtain ⟨x7, hc8, hf⟩ := ob1_e hf
    refine w_ci ⟨hx, hb, hml, hown, hts⟩ hP hK hS (by have hM := k7_fewestLogsFor l hX (k := 0) (by decide) (pbt w f0 g0 c0 y0 o0) hc8; simp only [pbt_f] at hM; exact hM) hc_138 (st_recv (k := 0) (i0 := 0) (HW_f hP) hK (by decide) (by decide) rfl rfl) rfl hl.1 rfl (Nat.le_of_ble_eq_true rfl) dX8_neededLogs_24 ⟨Nat.zero_le _, Nat.zero_le _⟩ (fun H locs hP hS => ?_)
    have hf := Option.some.inj hf
    obtain rfl := hf
    rw [hQ]
    exact w_iret hx hb hr hlocks hP hK hS dX8_neededLogs_27 rfl rfl
  clear hf
  refine lv_if_eq (tgt := 15) hx hb dX8_neededLogs_8 (by decide) (fun h3 => ?_) (fun h3 => ?_)
  · rw [if_pos h3] at ejK5
    refine lv_iconst (v := 1) hx hb dX8_neededLogs_15 (by decide) ?_
    obtain rfl := ejK5
    exact K5 _ _ _ hP hS (lv_sub hl [0, 1] rfl)
  · rw [if_neg h3] at ejK5
    refine lv_iconst (v := 0) hx hb dX8_neededLogs_11 (by decide) ?_
    refine lv_goto (tgt := 16) hx hb dX8_neededLogs_12 (by decide) ?_
    obtain rfl := ejK5
    exact K5 _ _ _ hP hS (lv_sub hl [0, 1] rfl)
abbrev rmX8_heatIn : Room := { frames := 6, cells := 0, slots := 0, locals := 144 }
set_option maxHeartbeats 4000000 in
set_option maxRecDepth 100000 in
theorem k8_heatIn (l : Launch) {X : bkX} {b0 : Nat} (hX : XO X b0) (w : bkW) {N : Nat} {f0 : bkA} {g0 : bkA} {c0 : bkA} {y0 : Nat → bkA} {o0 : Nat → Int32} {a1 : Int32} {res9 : Int32} {g9 : bkA} (hf : m8_heatIn N f0 g0 a1 = some (res9, g9)) : cI l yX8_heatIn wsX8_heatIn rmX8_heatIn X b0 [.ref (xa X 306), .int a1] (pbt w f0 g0 c0 y0 o0) res9 (pbt w f0 g9 c0 y0 o0) := by
  refine Met.ofW (cc := cX8_heatIn) (maxL := 2) (ret := (some .int)) (by decide) rfl ?_
  intro p e s m args below meth c s₁ B hml hv
  obtain ⟨ha, hP, hK⟩ := hv
  have hx := B.exec
  have hb := B.bytes
  have hr := B.returns
  have hts := atoms_spec (ws := wsX8_heatIn) B.pre
  have hown : s.vm.findClass RX8 = some m.cls := findClass_of_methodNamed B.named
  have hlocks := B.notSynchronized
  obtain ⟨R, hR⟩ : ∃ R, R = (headSpec wsX8_heatIn rmX8_heatIn).room := ⟨_, rfl⟩
  rw [← hR]
  have hR1 : R.frames = 6 := by rw [hR]; rfl
  have hR2 : R.locals = 144 := by rw [hR]; rfl
  obtain ⟨Q, hQ⟩ : ∃ Q : State → Prop, Q = MQ below (va_Qi (fun r' (_ : Unit) => r' = res9) (fun _ t => WU X (pbt w f0 g9 c0 y0 o0) t) (xF b0)) args s 0 0 (xF b0) := ⟨_, rfl⟩
  rw [← hQ]
  have hS : va_S (xF b0) s.heap s.heap [] := va_S.rf
  have hl := lv_entry ([.ref (xa X 306), .int a1]) (n := 2) (Nat.le_of_ble_eq_true rfl)
  refine W.eq ((congrArg (fun z => entryFrame m z 2) ha).trans (lg_entry_eq m _ 2)) ?_
  generalize (lg_sl ([.ref (xa X 306), .int a1]) ++ List.replicate (2 - (lg_sl ([.ref (xa X 306), .int a1])).length) Slot.unset).toArray = ls at hl ⊢
  have hl : lv_has ls 2 [(0, .ref (xa X 306)), (1, .int a1)] := hl
  have hc_37 := (va_cwS 1 hts gX8_heatIn_X8_refuse rfl rfl rfl (by decide +kernel) ⟨by rw [hR1]; exact Nat.le_of_ble_eq_true rfl, by rw [hR2]; exact Nat.le_of_ble_eq_true rfl⟩ : CallB R s args RX8 37 yX8_refuse cX8_refuse 1 none wsX8_refuse rmX8_refuse 0 0 1 ∧ (Cond.static yX8_refuse).before args s = true)
  have hc_141 := (cwV 1 hts gX8_heatIn_X8_heatAfter rfl rfl rfl (by decide +kernel) ⟨by rw [hR1]; exact Nat.le_of_ble_eq_true rfl, by rw [hR2]; exact Nat.le_of_ble_eq_true rfl⟩ : CallW R s args RX8 RX8 141 yX8_heatAfter cX8_heatAfter 2 (some .int) wsX8_heatAfter rmX8_heatAfter 0 0 1)
  unfold m8_heatIn at hf
  refine lv_iload_n hx hb dX8_heatIn_0 rfl (lv_at hl 1 rfl) ?_
  obtain ⟨x3, ejK4, hf⟩ := lt1_e hf
  have K4 : ∀ (H : Heap) (locs : List Loc) (ls : Array Slot), HW X (pbt w f0 g0 c0 y0 o0) H → va_S (xF b0) s.heap H locs → lv_has ls 2 [(0, .ref (xa X 306)), (1, .int a1)] → W p l e R s m args below meth c H locs 0 0 Q (F0 m 15 ls [.int x3]) := by
    intro H locs ls hP hS hl
    obtain ⟨hth6, hf⟩ := ckp_e hf
    refine w_csv ⟨hx, hb, hml, hown, hts⟩ hP hK hS (k8_refuse l hth6 _) hc_37 rfl hl.1 rfl (Nat.le_of_ble_eq_true rfl) dX8_heatIn_15 ⟨Nat.zero_le _, Nat.zero_le _⟩ (fun H locs hP hS => ?_)
    refine lv_aload_n hx hb dX8_heatIn_18 rfl (lv_at hl 0 rfl) ?_
    refine lv_iload_n hx hb dX8_heatIn_19 rfl (lv_at hl 1 rfl) ?_
    obtain ⟨x7, g8, hc9, hf⟩ := ob2_e hf
    refine w_ci ⟨hx, hb, hml, hown, hts⟩ hP hK hS (k8_heatAfter l hX w hc9) hc_141 (w_recv hP hK (by decide) emb_bt rfl) rfl hl.1 rfl (Nat.le_of_ble_eq_true rfl) dX8_heatIn_20 ⟨Nat.zero_le _, Nat.zero_le _⟩ (fun H locs hP hS => ?_)
    have hf := Option.some.inj hf
    simp only [Prod.mk.injEq] at hf
    obtain ⟨rfl, rfl⟩ := hf
    rw [hQ]
    exact w_iret hx hb hr hlocks hP hK hS dX8_heatIn_23 rfl rfl
  clear hf
  refine lv_if_lt (tgt := 10) hx hb dX8_heatIn_1 (by decide) (fun h1 => ?_) (fun h1 => ?_)
  · rw [if_pos h1] at ejK4
    refine lv_iconst (v := 2) hx hb dX8_heatIn_10 (by decide) ?_
    refine lv_goto (tgt := 15) hx hb dX8_heatIn_11 (by decide) ?_
    obtain rfl := ejK4
    exact K4 _ _ _ hP hS (lv_sub hl [0, 1] rfl)
  · rw [if_neg h1] at ejK4
    refine lv_iload_n hx hb dX8_heatIn_4 rfl (lv_at hl 1 rfl) ?_
    refine lv_bipush (v := 100) hx hb dX8_heatIn_5 (by decide) ?_
    refine lv_icmp_le (tgt := 14) hx hb dX8_heatIn_7 (by decide) (fun h5 => ?_) (fun h5 => ?_)
    · rw [if_pos h5] at ejK4
      refine lv_iconst (v := 0) hx hb dX8_heatIn_14 (by decide) ?_
      obtain rfl := ejK4
      exact K4 _ _ _ hP hS (lv_sub hl [0, 1] rfl)
    · rw [if_neg h5] at ejK4
      refine lv_iconst (v := 2) hx hb dX8_heatIn_10 (by decide) ?_
      refine lv_goto (tgt := 15) hx hb dX8_heatIn_11 (by decide) ?_
      obtain rfl := ejK4
      exact K4 _ _ _ hP hS (lv_sub hl [0, 1] rfl)
abbrev rmX8_spoiledIn : Room := { frames := 5, cells := 0, slots := 0, locals := 123 }
theorem iX8_spoiledIn_X8 : ∀ w ∈ wsX80, w ∈ wsX8_spoiledIn := by decide +kernel
set_option maxHeartbeats 4000000 in
set_option maxRecDepth 100000 in
theorem k8_spoiledIn (l : Launch) {X : bkX} {b0 : Nat} (hX : XO X b0) (w : bkW) {N : Nat} {f0 : bkA} {g0 : bkA} {c0 : bkA} {y0 : Nat → bkA} {o0 : Nat → Int32} {a1 : Int32} {res9 : Int32} {g9 : bkA} (hf : m8_spoiledIn N f0 g0 a1 = some (res9, g9)) : cI l yX8_spoiledIn wsX8_spoiledIn rmX8_spoiledIn X b0 [.ref (xa X 306), .int a1] (pbt w f0 g0 c0 y0 o0) res9 (pbt w f0 g9 c0 y0 o0) := by
  refine Met.ofW (cc := cX8_spoiledIn) (maxL := 2) (ret := (some .int)) (by decide) rfl ?_
  intro p e s m args below meth c s₁ B hml hv
  obtain ⟨ha, hP, hK⟩ := hv
  have hx := B.exec
  have hb := B.bytes
  have hr := B.returns
  have hts := atoms_spec (ws := wsX8_spoiledIn) B.pre
  have hown : s.vm.findClass RX8 = some m.cls := findClass_of_methodNamed B.named
  have hlocks := B.notSynchronized
  obtain ⟨R, hR⟩ : ∃ R, R = (headSpec wsX8_spoiledIn rmX8_spoiledIn).room := ⟨_, rfl⟩
  rw [← hR]
  have hR1 : R.frames = 5 := by rw [hR]; rfl
  have hR2 : R.locals = 123 := by rw [hR]; rfl
  obtain ⟨Q, hQ⟩ : ∃ Q : State → Prop, Q = MQ below (va_Qi (fun r' (_ : Unit) => r' = res9) (fun _ t => WU X (pbt w f0 g9 c0 y0 o0) t) (xF b0)) args s 0 0 (xF b0) := ⟨_, rfl⟩
  rw [← hQ]
  have hS : va_S (xF b0) s.heap s.heap [] := va_S.rf
  have hl := lv_entry ([.ref (xa X 306), .int a1]) (n := 2) (Nat.le_of_ble_eq_true rfl)
  refine W.eq ((congrArg (fun z => entryFrame m z 2) ha).trans (lg_entry_eq m _ 2)) ?_
  generalize (lg_sl ([.ref (xa X 306), .int a1]) ++ List.replicate (2 - (lg_sl ([.ref (xa X 306), .int a1])).length) Slot.unset).toArray = ls at hl ⊢
  have hl : lv_has ls 2 [(0, .ref (xa X 306)), (1, .int a1)] := hl
  have hc_37 := (va_cwS 1 hts gX8_spoiledIn_X8_refuse rfl rfl rfl (by decide +kernel) ⟨by rw [hR1]; exact Nat.le_of_ble_eq_true rfl, by rw [hR2]; exact Nat.le_of_ble_eq_true rfl⟩ : CallB R s args RX8 37 yX8_refuse cX8_refuse 1 none wsX8_refuse rmX8_refuse 0 0 1 ∧ (Cond.static yX8_refuse).before args s = true)
  have hk_f16 := hts (.fieldLink RX8 16 "BakeTurns" "whatIf" "LBakeTurns$State;") (by decide +kernel)
  have hk_f10 := hts (.fieldLink RX8 10 "BakeTurns" "now" "LBakeTurns$State;") (by decide +kernel)
  have hc_132 := (cwV 1 hts gX8_spoiledIn_X7_copyFrom rfl rfl rfl (by decide +kernel) ⟨by rw [hR1]; exact Nat.le_of_ble_eq_true rfl, by rw [hR2]; exact Nat.le_of_ble_eq_true rfl⟩ : CallW R s args RX8 RX7 132 yX7_copyFrom cX7_copyFrom 2 none wsX7_copyFrom rmX7_copyFrom 0 0 1)
  have hc_91 := (cwV 1 hts gX8_spoiledIn_X7_passTicks rfl rfl rfl (by decide +kernel) ⟨by rw [hR1]; exact Nat.le_of_ble_eq_true rfl, by rw [hR2]; exact Nat.le_of_ble_eq_true rfl⟩ : CallW R s args RX8 RX7 91 yX7_passTicks cX7_passTicks 6 (some .int) wsX7_passTicks rmX7_passTicks 0 0 1)
  have hc_144 := (cwV 0 hts gX8_spoiledIn_X7_setOfSpoiled rfl rfl rfl (by decide +kernel) ⟨by rw [hR1]; exact Nat.le_of_ble_eq_true rfl, by rw [hR2]; exact Nat.le_of_ble_eq_true rfl⟩ : CallW R s args RX8 RX7 144 yX7_setOfSpoiled cX7_setOfSpoiled 3 (some .int) wsX7_setOfSpoiled rmX7_setOfSpoiled 0 0 0)
  unfold m8_spoiledIn at hf
  refine lv_iload_n hx hb dX8_spoiledIn_0 rfl (lv_at hl 1 rfl) ?_
  obtain ⟨x3, ejK4, hf⟩ := lt1_e hf
  have K4 : ∀ (H : Heap) (locs : List Loc) (ls : Array Slot), HW X (pbt w f0 g0 c0 y0 o0) H → va_S (xF b0) s.heap H locs → lv_has ls 2 [(0, .ref (xa X 306)), (1, .int a1)] → W p l e R s m args below meth c H locs 0 0 Q (F0 m 15 ls [.int x3]) := by
    intro H locs ls hP hS hl
    obtain ⟨hth6, hf⟩ := ckp_e hf
    refine w_csv ⟨hx, hb, hml, hown, hts⟩ hP hK hS (k8_refuse l hth6 _) hc_37 rfl hl.1 rfl (Nat.le_of_ble_eq_true rfl) dX8_spoiledIn_15 ⟨Nat.zero_le _, Nat.zero_le _⟩ (fun H locs hP hS => ?_)
    refine lv_aload_n hx hb dX8_spoiledIn_18 rfl (lv_at hl 0 rfl) ?_
    refine w_get hx hb hts iX8_spoiledIn_X8 hown hP hK (by decide) emb_bt rfl 1 (by decide) hk_f16 rfl dX8_spoiledIn_19 ?_
    refine lv_aload_n hx hb dX8_spoiledIn_22 rfl (lv_at hl 0 rfl) ?_
    refine w_get hx hb hts iX8_spoiledIn_X8 hown hP hK (by decide) emb_bt rfl 0 (by decide) hk_f10 rfl dX8_spoiledIn_23 ?_
    refine w_cv ⟨hx, hb, hml, hown, hts⟩ hP hK hS (bt_cpWhatIf l hX) hc_132 (st_recv (k := 1) (i0 := 0) (HW_g hP) hK (by decide) (by decide) rfl rfl) rfl hl.1 rfl (Nat.le_of_ble_eq_true rfl) dX8_spoiledIn_26 ⟨Nat.zero_le _, Nat.zero_le _⟩ (fun H locs hP hS => ?_)
    refine lv_aload_n hx hb dX8_spoiledIn_29 rfl (lv_at hl 0 rfl) ?_
    refine w_get hx hb hts iX8_spoiledIn_X8 hown hP hK (by decide) emb_bt rfl 1 (by decide) hk_f16 rfl dX8_spoiledIn_30 ?_
    refine lv_iload_n hx hb dX8_spoiledIn_33 rfl (lv_at hl 1 rfl) ?_
    obtain ⟨x7, g8, hc9, hf⟩ := ob2_e hf
    refine w_ci ⟨hx, hb, hml, hown, hts⟩ hP hK hS (by have hM := k7_passTicks l hX (k := 1) (by decide) (pbt w f0 f0 c0 y0 o0) hc9; simp only [pbt_g] at hM; exact hM) hc_91 (st_recv (k := 1) (i0 := 0) (HW_g hP) hK (by decide) (by decide) rfl rfl) rfl hl.1 rfl (Nat.le_of_ble_eq_true rfl) dX8_spoiledIn_34 ⟨Nat.zero_le _, Nat.zero_le _⟩ (fun H locs hP hS => ?_)
    refine lv_pop hx hb dX8_spoiledIn_37 rfl ?_
    refine lv_aload_n hx hb dX8_spoiledIn_38 rfl (lv_at hl 0 rfl) ?_
    refine w_get hx hb hts iX8_spoiledIn_X8 hown hP hK (by decide) emb_bt rfl 1 (by decide) hk_f16 rfl dX8_spoiledIn_39 ?_
    obtain ⟨x10, hc11, hf⟩ := ob1_e hf
    refine w_ci ⟨hx, hb, hml, hown, hts⟩ hP hK hS (by have hM := k7_setOfSpoiled l hX (k := 1) (by decide) (pbt w f0 g8 c0 y0 o0) hc11; simp only [pbt_g] at hM; exact hM) hc_144 (st_recv (k := 1) (i0 := 0) (HW_g hP) hK (by decide) (by decide) rfl rfl) rfl hl.1 rfl (Nat.le_of_ble_eq_true rfl) dX8_spoiledIn_42 ⟨Nat.zero_le _, Nat.zero_le _⟩ (fun H locs hP hS => ?_)
    refine lv_aload_n hx hb dX8_spoiledIn_45 rfl (lv_at hl 0 rfl) ?_
    refine w_get hx hb hts iX8_spoiledIn_X8 hown hP hK (by decide) emb_bt rfl 0 (by decide) hk_f10 rfl dX8_spoiledIn_46 ?_
    obtain ⟨x12, hc13, hf⟩ := ob1_e hf
    refine w_ci ⟨hx, hb, hml, hown, hts⟩ hP hK hS (by have hM := k7_setOfSpoiled l hX (k := 0) (by decide) (pbt w f0 g8 c0 y0 o0) hc13; simp only [pbt_f] at hM; exact hM) hc_144 (st_recv (k := 0) (i0 := 0) (HW_f hP) hK (by decide) (by decide) rfl rfl) rfl hl.1 rfl (Nat.le_of_ble_eq_true rfl) dX8_spoiledIn_49 ⟨Nat.zero_le _, Nat.zero_le _⟩ (fun H locs hP hS => ?_)
    refine lv_iconst (v := (-1)) hx hb dX8_spoiledIn_52 (by decide) ?_
    refine lv_ixor hx hb dX8_spoiledIn_53 ?_
    refine lv_iand hx hb dX8_spoiledIn_54 ?_
    have hf := Option.some.inj hf
    simp only [Prod.mk.injEq] at hf
    obtain ⟨rfl, rfl⟩ := hf
    rw [hQ]
    exact w_iret hx hb hr hlocks hP hK hS dX8_spoiledIn_55 rfl rfl
  clear hf
  refine lv_if_lt (tgt := 10) hx hb dX8_spoiledIn_1 (by decide) (fun h1 => ?_) (fun h1 => ?_)
  · rw [if_pos h1] at ejK4
    refine lv_iconst (v := 2) hx hb dX8_spoiledIn_10 (by decide) ?_
    refine lv_goto (tgt := 15) hx hb dX8_spoiledIn_11 (by decide) ?_
    obtain rfl := ejK4
    exact K4 _ _ _ hP hS (lv_sub hl [0, 1] rfl)
  · rw [if_neg h1] at ejK4
    refine lv_iload_n hx hb dX8_spoiledIn_4 rfl (lv_at hl 1 rfl) ?_
    refine lv_bipush (v := 100) hx hb dX8_spoiledIn_5 (by decide) ?_
    refine lv_icmp_le (tgt := 14) hx hb dX8_spoiledIn_7 (by decide) (fun h5 => ?_) (fun h5 => ?_)
    · rw [if_pos h5] at ejK4
      refine lv_iconst (v := 0) hx hb dX8_spoiledIn_14 (by decide) ?_
      obtain rfl := ejK4
      exact K4 _ _ _ hP hS (lv_sub hl [0, 1] rfl)
    · rw [if_neg h5] at ejK4
      refine lv_iconst (v := 2) hx hb dX8_spoiledIn_10 (by decide) ?_
      refine lv_goto (tgt := 15) hx hb dX8_spoiledIn_11 (by decide) ?_
      obtain rfl := ejK4
      exact K4 _ _ _ hP hS (lv_sub hl [0, 1] rfl)
abbrev rmX8_owes : Room := { frames := 3, cells := 0, slots := 0, locals := 78 }
theorem iX8_owes_X8 : ∀ w ∈ wsX80, w ∈ wsX8_owes := by decide +kernel
set_option maxHeartbeats 4000000 in
set_option maxRecDepth 100000 in
theorem k8_owes (l : Launch) {X : bkX} {b0 : Nat} (hX : XO X b0) (w : bkW) {N : Nat} {f0 : bkA} {g0 : bkA} {c0 : bkA} {y0 : Nat → bkA} {o0 : Nat → Int32} {a1 : Int32} {res9 : Int32} (hf : m8_owes N f0 a1 = some res9) : cI l yX8_owes wsX8_owes rmX8_owes X b0 [.ref (xa X 306), .int a1] (pbt w f0 g0 c0 y0 o0) res9 (pbt w f0 g0 c0 y0 o0) := by
  refine Met.ofW (cc := cX8_owes) (maxL := 2) (ret := (some .int)) (by decide) rfl ?_
  intro p e s m args below meth c s₁ B hml hv
  obtain ⟨ha, hP, hK⟩ := hv
  have hx := B.exec
  have hb := B.bytes
  have hr := B.returns
  have hts := atoms_spec (ws := wsX8_owes) B.pre
  have hown : s.vm.findClass RX8 = some m.cls := findClass_of_methodNamed B.named
  have hlocks := B.notSynchronized
  obtain ⟨R, hR⟩ : ∃ R, R = (headSpec wsX8_owes rmX8_owes).room := ⟨_, rfl⟩
  rw [← hR]
  have hR1 : R.frames = 3 := by rw [hR]; rfl
  have hR2 : R.locals = 78 := by rw [hR]; rfl
  obtain ⟨Q, hQ⟩ : ∃ Q : State → Prop, Q = MQ below (va_Qi (fun r' (_ : Unit) => r' = res9) (fun _ t => WU X (pbt w f0 g0 c0 y0 o0) t) (xF b0)) args s 0 0 (xF b0) := ⟨_, rfl⟩
  rw [← hQ]
  have hS : va_S (xF b0) s.heap s.heap [] := va_S.rf
  have hl := lv_entry ([.ref (xa X 306), .int a1]) (n := 2) (Nat.le_of_ble_eq_true rfl)
  refine W.eq ((congrArg (fun z => entryFrame m z 2) ha).trans (lg_entry_eq m _ 2)) ?_
  generalize (lg_sl ([.ref (xa X 306), .int a1]) ++ List.replicate (2 - (lg_sl ([.ref (xa X 306), .int a1])).length) Slot.unset).toArray = ls at hl ⊢
  have hl : lv_has ls 2 [(0, .ref (xa X 306)), (1, .int a1)] := hl
  have hk_f10 := hts (.fieldLink RX8 10 "BakeTurns" "now" "LBakeTurns$State;") (by decide +kernel)
  have hc_105 := (cwV 1 hts gX8_owes_X7_isHouse rfl rfl rfl (by decide +kernel) ⟨by rw [hR1]; exact Nat.le_of_ble_eq_true rfl, by rw [hR2]; exact Nat.le_of_ble_eq_true rfl⟩ : CallW R s args RX8 RX7 105 yX7_isHouse cX7_isHouse 2 (some .boolean) wsX7_isHouse rmX7_isHouse 0 0 1)
  have hc_37 := (va_cwS 1 hts gX8_owes_X8_refuse rfl rfl rfl (by decide +kernel) ⟨by rw [hR1]; exact Nat.le_of_ble_eq_true rfl, by rw [hR2]; exact Nat.le_of_ble_eq_true rfl⟩ : CallB R s args RX8 37 yX8_refuse cX8_refuse 1 none wsX8_refuse rmX8_refuse 0 0 1 ∧ (Cond.static yX8_refuse).before args s = true)
  have hc_147 := (cwV 1 hts gX8_owes_X7_owedBy rfl rfl rfl (by decide +kernel) ⟨by rw [hR1]; exact Nat.le_of_ble_eq_true rfl, by rw [hR2]; exact Nat.le_of_ble_eq_true rfl⟩ : CallW R s args RX8 RX7 147 yX7_owedBy cX7_owedBy 16 (some .int) wsX7_owedBy rmX7_owedBy 0 0 1)
  unfold m8_owes at hf
  refine lv_aload_n hx hb dX8_owes_0 rfl (lv_at hl 0 rfl) ?_
  refine w_get hx hb hts iX8_owes_X8 hown hP hK (by decide) emb_bt rfl 0 (by decide) hk_f10 rfl dX8_owes_1 ?_
  refine lv_iload_n hx hb dX8_owes_4 rfl (lv_at hl 1 rfl) ?_
  obtain ⟨x1, hc2, hf⟩ := lt1_e hf
  refine w_ci ⟨hx, hb, hml, hown, hts⟩ hP hK hS (by have hM := k7_isHouse l hX (k := 0) (by decide) (pbt w f0 g0 c0 y0 o0) hc2; simp only [pbt_f] at hM; exact hM) hc_105 (st_recv (k := 0) (i0 := 0) (HW_f hP) hK (by decide) (by decide) rfl rfl) rfl hl.1 rfl (Nat.le_of_ble_eq_true rfl) dX8_owes_5 ⟨Nat.zero_le _, Nat.zero_le _⟩ (fun H locs hP hS => ?_)
  obtain ⟨x4, ejK5, hf⟩ := lt1_e hf
  have K5 : ∀ (H : Heap) (locs : List Loc) (ls : Array Slot), HW X (pbt w f0 g0 c0 y0 o0) H → va_S (xF b0) s.heap H locs → lv_has ls 2 [(0, .ref (xa X 306)), (1, .int a1)] → W p l e R s m args below meth c H locs 0 0 Q (F0 m 16 ls [.int x4]) := by
    intro H locs ls hP hS hl
    obtain ⟨hth6, hf⟩ := ckp_e hf
    refine w_csv ⟨hx, hb, hml, hown, hts⟩ hP hK hS (k8_refuse l hth6 _) hc_37 rfl hl.1 rfl (Nat.le_of_ble_eq_true rfl) dX8_owes_16 ⟨Nat.zero_le _, Nat.zero_le _⟩ (fun H locs hP hS => ?_)
    refine lv_aload_n hx hb dX8_owes_19 rfl (lv_at hl 0 rfl) ?_
    refine w_get hx hb hts iX8_owes_X8 hown hP hK (by decide) emb_bt rfl 0 (by decide) hk_f10 rfl dX8_owes_20 ?_
    refine lv_iload_n hx hb dX8_owes_23 rfl (lv_at hl 1 rfl) ?_
    obtain ⟨x7, hc8, hf⟩ := ob1_e hf
    refine w_ci ⟨hx, hb, hml, hown, hts⟩ hP hK hS (by have hM := k7_owedBy l hX (k := 0) (by decide) (pbt w f0 g0 c0 y0 o0) hc8; simp only [pbt_f] at hM; exact hM) hc_147 (st_recv (k := 0) (i0 := 0) (HW_f hP) hK (by decide) (by decide) rfl rfl) rfl hl.1 rfl (Nat.le_of_ble_eq_true rfl) dX8_owes_24 ⟨Nat.zero_le _, Nat.zero_le _⟩ (fun H locs hP hS => ?_)
    have hf := Option.some.inj hf
    obtain rfl := hf
    rw [hQ]
    exact w_iret hx hb hr hlocks hP hK hS dX8_owes_27 rfl rfl
  clear hf
  refine lv_if_eq (tgt := 15) hx hb dX8_owes_8 (by decide) (fun h3 => ?_) (fun h3 => ?_)
  · rw [if_pos h3] at ejK5
    refine lv_iconst (v := 1) hx hb dX8_owes_15 (by decide) ?_
    obtain rfl := ejK5
    exact K5 _ _ _ hP hS (lv_sub hl [0, 1] rfl)
  · rw [if_neg h3] at ejK5
    refine lv_iconst (v := 0) hx hb dX8_owes_11 (by decide) ?_
    refine lv_goto (tgt := 16) hx hb dX8_owes_12 (by decide) ?_
    obtain rfl := ejK5
    exact K5 _ _ _ hP hS (lv_sub hl [0, 1] rfl)
abbrev rmX8_undo : Room := { frames := 5, cells := 0, slots := 0, locals := 144 }
theorem iX8_undo_X8 : ∀ w ∈ wsX80, w ∈ wsX8_undo := by decide +kernel
set_option maxHeartbeats 4000000 in
set_option maxRecDepth 100000 in
theorem k8_undo (l : Launch) {X : bkX} {b0 : Nat} (hX : XO X b0) (w : bkW) {f0 : bkA} {g0 : bkA} {c0 : bkA} {y0 : Nat → bkA} {o0 : Nat → Int32} {res9 : Int32} {f9 : bkA} {o9 : Nat → Int32} (hf : m8_undo f0 y0 o0 = some (res9, f9, o9)) : cI l yX8_undo wsX8_undo rmX8_undo X b0 [.ref (xa X 306)] (pbt w f0 g0 c0 y0 o0) res9 (pbt w f9 g0 c0 y0 o9) := by
  refine Met.ofW (cc := cX8_undo) (maxL := 1) (ret := (some .int)) (by decide) rfl ?_
  intro p e s m args below meth c s₁ B hml hv
  obtain ⟨ha, hP, hK⟩ := hv
  have hx := B.exec
  have hb := B.bytes
  have hr := B.returns
  have hts := atoms_spec (ws := wsX8_undo) B.pre
  have hown : s.vm.findClass RX8 = some m.cls := findClass_of_methodNamed B.named
  have hlocks := B.notSynchronized
  obtain ⟨R, hR⟩ : ∃ R, R = (headSpec wsX8_undo rmX8_undo).room := ⟨_, rfl⟩
  rw [← hR]
  have hR1 : R.frames = 5 := by rw [hR]; rfl
  have hR2 : R.locals = 144 := by rw [hR]; rfl
  obtain ⟨Q, hQ⟩ : ∃ Q : State → Prop, Q = MQ below (va_Qi (fun r' (_ : Unit) => r' = res9) (fun _ t => WU X (pbt w f9 g0 c0 y0 o9) t) (xF b0)) args s 0 0 (xF b0) := ⟨_, rfl⟩
  rw [← hQ]
  have hS : va_S (xF b0) s.heap s.heap [] := va_S.rf
  have hl := lv_entry ([.ref (xa X 306)]) (n := 1) (Nat.le_of_ble_eq_true rfl)
  refine W.eq ((congrArg (fun z => entryFrame m z 1) ha).trans (lg_entry_eq m _ 1)) ?_
  generalize (lg_sl ([.ref (xa X 306)]) ++ List.replicate (1 - (lg_sl ([.ref (xa X 306)])).length) Slot.unset).toArray = ls at hl ⊢
  have hl : lv_has ls 1 [(0, .ref (xa X 306))] := hl
  have hk_f22 := hts (.fieldLink RX8 22 "BakeTurns" "history" "LBakeTurns$History;") (by decide +kernel)
  have hc_172 := (cwV 0 hts gX8_undo_X2_size rfl rfl rfl (by decide +kernel) ⟨by rw [hR1]; exact Nat.le_of_ble_eq_true rfl, by rw [hR2]; exact Nat.le_of_ble_eq_true rfl⟩ : CallW R s args RX8 RX2 172 yX2_size cX2_size 1 (some .int) wsX2_size rmX2_size 0 0 0)
  have hc_37 := (va_cwS 1 hts gX8_undo_X8_refuse rfl rfl rfl (by decide +kernel) ⟨by rw [hR1]; exact Nat.le_of_ble_eq_true rfl, by rw [hR2]; exact Nat.le_of_ble_eq_true rfl⟩ : CallB R s args RX8 37 yX8_refuse cX8_refuse 1 none wsX8_refuse rmX8_refuse 0 0 1 ∧ (Cond.static yX8_refuse).before args s = true)
  have hk_f10 := hts (.fieldLink RX8 10 "BakeTurns" "now" "LBakeTurns$State;") (by decide +kernel)
  have hc_175 := (cwV 1 hts gX8_undo_X2_restoreTo rfl rfl rfl (by decide +kernel) ⟨by rw [hR1]; exact Nat.le_of_ble_eq_true rfl, by rw [hR2]; exact Nat.le_of_ble_eq_true rfl⟩ : CallW R s args RX8 RX2 175 yX2_restoreTo cX2_restoreTo 2 none wsX2_restoreTo rmX2_restoreTo 0 0 1)
  unfold m8_undo at hf
  refine lv_aload_n hx hb dX8_undo_0 rfl (lv_at hl 0 rfl) ?_
  refine w_get hx hb hts iX8_undo_X8 hown hP hK (by decide) emb_bt rfl 2 (by decide) hk_f22 rfl dX8_undo_1 ?_
  obtain ⟨x1, hc2, hf⟩ := lt1_e hf
  refine w_ci ⟨hx, hb, hml, hown, hts⟩ hP hK hS (k2_size l hX w hc2) hc_172 (w_recv hP hK (by decide) emb_hi rfl) rfl hl.1 rfl (Nat.le_of_ble_eq_true rfl) dX8_undo_4 ⟨Nat.zero_le _, Nat.zero_le _⟩ (fun H locs hP hS => ?_)
  obtain ⟨x4, ejK5, hf⟩ := lt1_e hf
  have K5 : ∀ (H : Heap) (locs : List Loc) (ls : Array Slot), HW X (pbt w f0 g0 c0 y0 o0) H → va_S (xF b0) s.heap H locs → lv_has ls 1 [(0, .ref (xa X 306))] → W p l e R s m args below meth c H locs 0 0 Q (F0 m 15 ls [.int x4]) := by
    intro H locs ls hP hS hl
    obtain ⟨hth6, hf⟩ := ckp_e hf
    refine w_csv ⟨hx, hb, hml, hown, hts⟩ hP hK hS (k8_refuse l hth6 _) hc_37 rfl hl.1 rfl (Nat.le_of_ble_eq_true rfl) dX8_undo_15 ⟨Nat.zero_le _, Nat.zero_le _⟩ (fun H locs hP hS => ?_)
    refine lv_aload_n hx hb dX8_undo_18 rfl (lv_at hl 0 rfl) ?_
    refine w_get hx hb hts iX8_undo_X8 hown hP hK (by decide) emb_bt rfl 2 (by decide) hk_f22 rfl dX8_undo_19 ?_
    refine lv_aload_n hx hb dX8_undo_22 rfl (lv_at hl 0 rfl) ?_
    refine w_get hx hb hts iX8_undo_X8 hown hP hK (by decide) emb_bt rfl 0 (by decide) hk_f10 rfl dX8_undo_23 ?_
    obtain ⟨f7, o8, hc9, hf⟩ := ob2_e hf
    refine w_cv ⟨hx, hb, hml, hown, hts⟩ hP hK hS (k2_restoreTo l hX w hc9) hc_175 (w_recv hP hK (by decide) emb_hi rfl) rfl hl.1 rfl (Nat.le_of_ble_eq_true rfl) dX8_undo_26 ⟨Nat.zero_le _, Nat.zero_le _⟩ (fun H locs hP hS => ?_)
    refine lv_aload_n hx hb dX8_undo_29 rfl (lv_at hl 0 rfl) ?_
    refine w_get hx hb hts iX8_undo_X8 hown hP hK (by decide) emb_bt rfl 2 (by decide) hk_f22 rfl dX8_undo_30 ?_
    obtain ⟨x10, hc11, hf⟩ := lt1_e hf
    refine w_ci ⟨hx, hb, hml, hown, hts⟩ hP hK hS (k2_size l hX w hc11) hc_172 (w_recv hP hK (by decide) emb_hi rfl) rfl hl.1 rfl (Nat.le_of_ble_eq_true rfl) dX8_undo_33 ⟨Nat.zero_le _, Nat.zero_le _⟩ (fun H locs hP hS => ?_)
    have hf := Option.some.inj hf
    simp only [Prod.mk.injEq] at hf
    obtain ⟨rfl, rfl, rfl⟩ := hf
    rw [hQ]
    exact w_iret hx hb hr hlocks hP hK hS dX8_undo_36 rfl rfl
  clear hf
  refine lv_if_ne (tgt := 14) hx hb dX8_undo_7 (by decide) (fun h3 => ?_) (fun h3 => ?_)
  · rw [if_neg h3] at ejK5
    refine lv_iconst (v := 0) hx hb dX8_undo_14 (by decide) ?_
    obtain rfl := ejK5
    exact K5 _ _ _ hP hS (lv_sub hl [0] rfl)
  · rw [if_pos h3] at ejK5
    refine lv_iconst (v := 3) hx hb dX8_undo_10 (by decide) ?_
    refine lv_goto (tgt := 15) hx hb dX8_undo_11 (by decide) ?_
    obtain rfl := ejK5
    exact K5 _ _ _ hP hS (lv_sub hl [0] rfl)
