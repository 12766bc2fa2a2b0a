/-! the constructors that make Rows -/
abbrev zF : Nat → Int32 := fun _ => 0
def RWf (X : bkX) (a n : Nat) (f : Nat → Int32) : va_W := [(a, .inr (6, [.ref (a + 1)])), (a + 1, .inl (xI X, n, .inl f))]
theorem iC6_6 : ∀ w ∈ wsX60, w ∈ wsX6_init := by decide +kernel
theorem iC4_6 : ∀ w ∈ wsX60, w ∈ wsX4_init := by decide +kernel
theorem iC4_4 : ∀ w ∈ wsX40, w ∈ wsX4_init := by decide +kernel
theorem iC3_6 : ∀ w ∈ wsX60, w ∈ wsX3_init := by decide +kernel
theorem iC3_3 : ∀ w ∈ wsX30, w ∈ wsX3_init := by decide +kernel
theorem iC1_6 : ∀ w ∈ wsX60, w ∈ wsX1_init := by decide +kernel
theorem iC1_1 : ∀ w ∈ wsX10, w ∈ wsX1_init := by decide +kernel
theorem iC5_6 : ∀ w ∈ wsX60, w ∈ wsX5_init := by decide +kernel
theorem iC5_5 : ∀ w ∈ wsX50, w ∈ wsX5_init := by decide +kernel
theorem iC0_6 : ∀ w ∈ wsX60, w ∈ wsX0_init := by decide +kernel
theorem iC0_0 : ∀ w ∈ wsX00, w ∈ wsX0_init := by decide +kernel
theorem iC7_7 : ∀ w ∈ wsX70, w ∈ wsX7_init := by decide +kernel
theorem iC7_4 : ∀ w ∈ wsX40, w ∈ wsX7_init := by decide +kernel
theorem iC7_3 : ∀ w ∈ wsX30, w ∈ wsX7_init := by decide +kernel
theorem iC7_1 : ∀ w ∈ wsX10, w ∈ wsX7_init := by decide +kernel
theorem iC7_5 : ∀ w ∈ wsX50, w ∈ wsX7_init := by decide +kernel
theorem iC7_6 : ∀ w ∈ wsX60, w ∈ wsX7_init := by decide +kernel
theorem iC2_2 : ∀ w ∈ wsX20, w ∈ wsX2_init := by decide +kernel
theorem iC2_7 : ∀ w ∈ wsX70, w ∈ wsX2_init := by decide +kernel
theorem iC8_8 : ∀ w ∈ wsX80, w ∈ wsX8_init := by decide +kernel
theorem iC8_7 : ∀ w ∈ wsX70, w ∈ wsX8_init := by decide +kernel
theorem iC8_2 : ∀ w ∈ wsX20, w ∈ wsX8_init := by decide +kernel
theorem iC8_0 : ∀ w ∈ wsX00, w ∈ wsX8_init := by decide +kernel
abbrev rmX6_init (n : Nat) : Room := { frames := 1, cells := 1, slots := n, locals := 12 }
set_option maxHeartbeats 4000000 in
set_option maxRecDepth 100000 in
theorem kC_X6 (l : Launch) {X : bkX} (h n : Nat) (hn1 : 1 ≤ n) (hn2 : n ≤ 2000) : cN l yX6_init wsX6_init (rmX6_init n) X [.ref h, .int (nI n)] h (.inr (6, [.null])) 1 (RWf X h n zF) 1 n := by
  refine Met.ofW (cc := cX6_init) (maxL := 2) (ret := none) (by decide) rfl ?_
  intro p e s m args below meth c s₁ B hml hv
  obtain ⟨ha, hz, hP, hK⟩ := hv
  have hx := B.exec
  have hb := B.bytes
  have hr := B.returns
  have hts := atoms_spec (ws := wsX6_init) B.pre
  have hown : s.vm.findClass RX6 = some m.cls := findClass_of_methodNamed B.named
  have hlocks := B.notSynchronized
  have hin : meth.name = "<init>" := (name_of_methodNamed B.named B.method).1
  have hS : va_S (nA h) s.heap s.heap [] := va_S.rf
  have hA : ∀ q : Nat, s.heap.size ≤ q → nA h q := fun q hq => by show h ≤ q; omega
  have hl := lv_entry ([.ref h, .int (nI n)]) (n := 2) (Nat.le_of_ble_eq_true rfl)
  refine W.eq ((congrArg (fun z => entryFrame m z 2) ha).trans (lg_entry_eq m _ 2)) ?_
  generalize (lg_sl ([.ref h, .int (nI n)]) ++ List.replicate (2 - (lg_sl ([.ref h, .int (nI n)])).length) Slot.unset).toArray = ls at hl ⊢
  have hl : lv_has ls 2 [(0, .ref h), (1, .int (nI n))] := hl
  have hD : va_D (nA h) [(h, .inr (6, [.null]))] := nD1 (Nat.le_refl h)
  refine lv_aload_n hx hb dX6_init_0 rfl (lv_at hl 0 rfl) ?_
  refine W.objInit hx hb hown (hts (.methodLink RX6 1 objectInit) (by decide +kernel)) (hts (.instanceMethod objectInit) (by decide +kernel)) (hts (.code objectInit ⟨#[0xb1]⟩ 1 none) (by decide +kernel)) rfl (by rw [hml]; exact hl.1) rfl dX6_init_1 (Nat.le_of_ble_eq_true rfl) (Nat.le_of_ble_eq_true rfl) ?_
  refine W.eq (g2 := F0 m 4 ls []) rfl ?_
  refine lv_aload_n hx hb dX6_init_4 rfl (lv_at hl 0 rfl) ?_
  refine lv_iload_n hx hb dX6_init_5 rfl (lv_at hl 1 rfl) ?_
  refine lv_if_le (tgt := 13) hx hb dX6_init_6 (by decide) (fun c1 => absurd c1 (nI_nle (by omega) (by omega))) (fun _ => ?_)
  refine lv_iload_n hx hb dX6_init_9 rfl (lv_at hl 1 rfl) ?_
  refine lv_goto (tgt := 14) hx hb dX6_init_10 (by decide) ?_
  refine n_newa (atype := .int) (ty := .int) (cA := xI X) (a0 := (n, .inl zF)) (N' := n) (z := h + 1) hx hb (hts (.arrayClass .int) (by decide +kernel)) rfl ((hK.1.2 0 _ rfl).2) hP hD hS hA hz rfl (nI_pos (by omega)) (nI_clamp (by omega)) (by show n * 4 ≤ 536870912; omega) (Nat.le_of_ble_eq_true rfl) (by show 0 + n ≤ n; omega) dX6_init_14 (fun H hP hD hS hz => ?_)
  refine n_putF (ws := [(h, .inr (6, [.null])), (h + 1, .inl (xI X, n, .inl zF))]) (C := RX6) (T := TX6) (N := 1) (ty := .array .int) (fs := [.null]) hx hb hts (show ∀ w ∈ wsX60, w ∈ wsX6_init from iC6_6) tyX6 tyX6_ok nmX6 hown hK hP hD hS 0 rfl rfl 0 (by decide) (hts (.fieldLink RX6 7 (TX6 0).1 (TX6 0).2.1 (TX6 0).2.2.1) (by decide +kernel)) rfl hin rfl (by decide +kernel) rfl rfl (Nat.le_of_ble_eq_true rfl) dX6_init_16 (fun H locs hP hD hS hz2 => ?_)
  have hP : va_P (xD X) vwCl (RWf X h n zF) H := hP
  have hD : va_D (nA h) (RWf X h n zF) := hD
  refine W.widen (k := 1) (n := n) (Nat.le_of_ble_eq_true rfl) (by omega) ?_
  exact n_vret hx hb hr hlocks hP hD hS (by omega) dX6_init_19
def KW (X : bkX) (h : Nat) : va_W := ((h, .inr (4, [.int 0, .ref (h + 1), .ref (h + 3), .ref (h + 5), .ref (h + 7), .ref (h + 9)])) :: ((((RWf X (h + 1) 5 zF ++ RWf X (h + 3) 5 zF) ++ RWf X (h + 5) 5 zF) ++ RWf X (h + 7) 5 zF) ++ RWf X (h + 9) 5 zF))
set_option maxHeartbeats 4000000 in
set_option maxRecDepth 100000 in
theorem kC_X4 (l : Launch) {X : bkX} (h : Nat) : cN l yX4_init wsX4_init ({ frames := 2, cells := 10, slots := 30, locals := 33 } : Room) X [.ref h] h (.inr (4, [.int 0, .null, .null, .null, .null, .null])) 10 (KW X h) 10 30 := by
  refine Met.ofW (cc := cX4_init) (maxL := 1) (ret := none) (by decide) rfl ?_
  intro p e s m args below meth c s₁ B hml hv
  obtain ⟨ha, hz, hP, hK⟩ := hv
  have hx := B.exec
  have hb := B.bytes
  have hr := B.returns
  have hts := atoms_spec (ws := wsX4_init) B.pre
  have hown : s.vm.findClass RX4 = some m.cls := findClass_of_methodNamed B.named
  have hlocks := B.notSynchronized
  have hin : meth.name = "<init>" := (name_of_methodNamed B.named B.method).1
  have hS : va_S (nA h) s.heap s.heap [] := va_S.rf
  have hA : ∀ q : Nat, s.heap.size ≤ q → nA h q := fun q hq => by show h ≤ q; omega
  have hl := lv_entry ([.ref h]) (n := 1) (Nat.le_of_ble_eq_true rfl)
  refine W.eq ((congrArg (fun z => entryFrame m z 1) ha).trans (lg_entry_eq m _ 1)) ?_
  generalize (lg_sl ([.ref h]) ++ List.replicate (1 - (lg_sl ([.ref h])).length) Slot.unset).toArray = ls at hl ⊢
  have hl : lv_has ls 1 [(0, .ref h)] := hl
  have hD : va_D (nA h) [(h, .inr (4, [.int 0, .null, .null, .null, .null, .null]))] := nD1 (Nat.le_refl h)
  refine lv_aload_n hx hb dX4_init_0 rfl (lv_at hl 0 rfl) ?_
  refine W.objInit hx hb hown (hts (.methodLink RX4 3 objectInit) (by decide +kernel)) (hts (.instanceMethod objectInit) (by decide +kernel)) (hts (.code objectInit ⟨#[0xb1]⟩ 1 none) (by decide +kernel)) rfl (by rw [hml]; exact hl.1) rfl dX4_init_1 (Nat.le_of_ble_eq_true rfl) (Nat.le_of_ble_eq_true rfl) ?_
  refine W.eq (g2 := F0 m 4 ls []) rfl ?_
  refine lv_aload_n hx hb dX4_init_4 rfl (lv_at hl 0 rfl) ?_
  refine n_new (ci := 6) (C := RX6) (T := TX6) (N := 1) (fs := [.null]) (z := h + 1) hx hb hts (show ∀ w ∈ wsX60, w ∈ wsX4_init from iC4_6) tyX6 tyX6_ok hown (hts (.classLink RX4 9 RX6) (by decide +kernel)) (hts (.instantiable RX6 1) (by decide +kernel)) (hts (.initialized RX6) (by decide +kernel)) hK hP hD hS hA hz rfl (fun j hj => by rcases (show j = 0 by omega) with rfl <;> rfl) (Nat.le_of_ble_eq_true rfl) (Nat.le_of_ble_eq_true rfl) dX4_init_5 (fun H hP hD hS hz => ?_)
  refine lv_dup hx hb dX4_init_8 rfl ?_
  refine lv_iconst (v := nI 5) hx hb dX4_init_9 (by decide) ?_
  refine n_call (ws := [(h, .inr (4, [.int 0, .null, .null, .null, .null, .null]))]) (h := h + 1) (e0 := .inr (6, [.null])) (As := [.int (nI 5)]) (rest := [.ref (h + 1), .ref h]) ⟨hx, hb, hml, hown, hts⟩ (kC_X6 l (h + 1) 5 (by decide) (by decide)) (cwI 1 hts gX4_init_X6_init rfl rfl rfl (hts (.initialized RX6) (by decide +kernel)) (hts (.methodLink RX4 11 yX6_init) (by decide +kernel)) (hts (.instanceMethod yX6_init) (by decide +kernel)) rfl (by decide +kernel) ⟨Nat.le_of_ble_eq_true rfl, Nat.le_of_ble_eq_true rfl⟩) hK hP hD hS hA hz rfl hl.1 rfl (Nat.le_of_ble_eq_true rfl) dX4_init_10 ⟨Nat.le_of_ble_eq_true rfl, Nat.le_of_ble_eq_true rfl⟩ (fun H locs hP hD hS hz => ?_)
  rw [List.cons_append, List.nil_append] at hP hD
  refine n_putF (ws := ((h, .inr (4, [.int 0, .null, .null, .null, .null, .null])) :: RWf X (h + 1) 5 zF)) (C := RX4) (T := TX4) (N := 6) (ty := .object "BakeTurns$Row") (fs := [.int 0, .null, .null, .null, .null, .null]) hx hb hts (show ∀ w ∈ wsX40, w ∈ wsX4_init from iC4_4) tyX4 tyX4_ok nmX4 hown hK hP hD hS 0 rfl rfl 1 (by decide) (hts (.fieldLink RX4 14 (TX4 1).1 (TX4 1).2.1 (TX4 1).2.2.1) (by decide +kernel)) rfl hin rfl (by decide +kernel) rfl rfl (Nat.le_of_ble_eq_true rfl) dX4_init_13 (fun H locs hP hD hS hz2 => ?_)
  rw [List.set_cons_zero] at hP hD
  have hP : va_P (xD X) vwCl (((h, .inr (4, [.int 0, .ref (h + 1), .null, .null, .null, .null])) :: RWf X (h + 1) 5 zF)) H := hP
  have hD : va_D (nA h) (((h, .inr (4, [.int 0, .ref (h + 1), .null, .null, .null, .null])) :: RWf X (h + 1) 5 zF)) := hD
  have hz : H.size = h + 3 := hz2.trans hz
  refine lv_aload_n hx hb dX4_init_16 rfl (lv_at hl 0 rfl) ?_
  refine n_new (ci := 6) (C := RX6) (T := TX6) (N := 1) (fs := [.null]) (z := h + 3) hx hb hts (show ∀ w ∈ wsX60, w ∈ wsX4_init from iC4_6) tyX6 tyX6_ok hown (hts (.classLink RX4 9 RX6) (by decide +kernel)) (hts (.instantiable RX6 1) (by decide +kernel)) (hts (.initialized RX6) (by decide +kernel)) hK hP hD hS hA hz rfl (fun j hj => by rcases (show j = 0 by omega) with rfl <;> rfl) (Nat.le_of_ble_eq_true rfl) (Nat.le_of_ble_eq_true rfl) dX4_init_17 (fun H hP hD hS hz => ?_)
  refine lv_dup hx hb dX4_init_20 rfl ?_
  refine lv_iconst (v := nI 5) hx hb dX4_init_21 (by decide) ?_
  refine n_call (ws := ((h, .inr (4, [.int 0, .ref (h + 1), .null, .null, .null, .null])) :: RWf X (h + 1) 5 zF)) (h := h + 3) (e0 := .inr (6, [.null])) (As := [.int (nI 5)]) (rest := [.ref (h + 3), .ref h]) ⟨hx, hb, hml, hown, hts⟩ (kC_X6 l (h + 3) 5 (by decide) (by decide)) (cwI 1 hts gX4_init_X6_init rfl rfl rfl (hts (.initialized RX6) (by decide +kernel)) (hts (.methodLink RX4 11 yX6_init) (by decide +kernel)) (hts (.instanceMethod yX6_init) (by decide +kernel)) rfl (by decide +kernel) ⟨Nat.le_of_ble_eq_true rfl, Nat.le_of_ble_eq_true rfl⟩) hK hP hD hS hA hz rfl hl.1 rfl (Nat.le_of_ble_eq_true rfl) dX4_init_22 ⟨Nat.le_of_ble_eq_true rfl, Nat.le_of_ble_eq_true rfl⟩ (fun H locs hP hD hS hz => ?_)
  rw [List.cons_append] at hP hD
  refine n_putF (ws := ((h, .inr (4, [.int 0, .ref (h + 1), .null, .null, .null, .null])) :: (RWf X (h + 1) 5 zF ++ RWf X (h + 3) 5 zF))) (C := RX4) (T := TX4) (N := 6) (ty := .object "BakeTurns$Row") (fs := [.int 0, .ref (h + 1), .null, .null, .null, .null]) hx hb hts (show ∀ w ∈ wsX40, w ∈ wsX4_init from iC4_4) tyX4 tyX4_ok nmX4 hown hK hP hD hS 0 rfl rfl 2 (by decide) (hts (.fieldLink RX4 20 (TX4 2).1 (TX4 2).2.1 (TX4 2).2.2.1) (by decide +kernel)) rfl hin rfl (by decide +kernel) rfl rfl (Nat.le_of_ble_eq_true rfl) dX4_init_25 (fun H locs hP hD hS hz2 => ?_)
  rw [List.set_cons_zero] at hP hD
  have hP : va_P (xD X) vwCl (((h, .inr (4, [.int 0, .ref (h + 1), .ref (h + 3), .null, .null, .null])) :: (RWf X (h + 1) 5 zF ++ RWf X (h + 3) 5 zF))) H := hP
  have hD : va_D (nA h) (((h, .inr (4, [.int 0, .ref (h + 1), .ref (h + 3), .null, .null, .null])) :: (RWf X (h + 1) 5 zF ++ RWf X (h + 3) 5 zF))) := hD
  have hz : H.size = h + 5 := hz2.trans hz
  refine lv_aload_n hx hb dX4_init_28 rfl (lv_at hl 0 rfl) ?_
  refine n_new (ci := 6) (C := RX6) (T := TX6) (N := 1) (fs := [.null]) (z := h + 5) hx hb hts (show ∀ w ∈ wsX60, w ∈ wsX4_init from iC4_6) tyX6 tyX6_ok hown (hts (.classLink RX4 9 RX6) (by decide +kernel)) (hts (.instantiable RX6 1) (by decide +kernel)) (hts (.initialized RX6) (by decide +kernel)) hK hP hD hS hA hz rfl (fun j hj => by rcases (show j = 0 by omega) with rfl <;> rfl) (Nat.le_of_ble_eq_true rfl) (Nat.le_of_ble_eq_true rfl) dX4_init_29 (fun H hP hD hS hz => ?_)
  refine lv_dup hx hb dX4_init_32 rfl ?_
  refine lv_iconst (v := nI 5) hx hb dX4_init_33 (by decide) ?_
  refine n_call (ws := ((h, .inr (4, [.int 0, .ref (h + 1), .ref (h + 3), .null, .null, .null])) :: (RWf X (h + 1) 5 zF ++ RWf X (h + 3) 5 zF))) (h := h + 5) (e0 := .inr (6, [.null])) (As := [.int (nI 5)]) (rest := [.ref (h + 5), .ref h]) ⟨hx, hb, hml, hown, hts⟩ (kC_X6 l (h + 5) 5 (by decide) (by decide)) (cwI 1 hts gX4_init_X6_init rfl rfl rfl (hts (.initialized RX6) (by decide +kernel)) (hts (.methodLink RX4 11 yX6_init) (by decide +kernel)) (hts (.instanceMethod yX6_init) (by decide +kernel)) rfl (by decide +kernel) ⟨Nat.le_of_ble_eq_true rfl, Nat.le_of_ble_eq_true rfl⟩) hK hP hD hS hA hz rfl hl.1 rfl (Nat.le_of_ble_eq_true rfl) dX4_init_34 ⟨Nat.le_of_ble_eq_true rfl, Nat.le_of_ble_eq_true rfl⟩ (fun H locs hP hD hS hz => ?_)
  rw [List.cons_append] at hP hD
  refine n_putF (ws := ((h, .inr (4, [.int 0, .ref (h + 1), .ref (h + 3), .null, .null, .null])) :: ((RWf X (h + 1) 5 zF ++ RWf X (h + 3) 5 zF) ++ RWf X (h + 5) 5 zF))) (C := RX4) (T := TX4) (N := 6) (ty := .object "BakeTurns$Row") (fs := [.int 0, .ref (h + 1), .ref (h + 3), .null, .null, .null]) hx hb hts (show ∀ w ∈ wsX40, w ∈ wsX4_init from iC4_4) tyX4 tyX4_ok nmX4 hown hK hP hD hS 0 rfl rfl 3 (by decide) (hts (.fieldLink RX4 23 (TX4 3).1 (TX4 3).2.1 (TX4 3).2.2.1) (by decide +kernel)) rfl hin rfl (by decide +kernel) rfl rfl (Nat.le_of_ble_eq_true rfl) dX4_init_37 (fun H locs hP hD hS hz2 => ?_)
  rw [List.set_cons_zero] at hP hD
  have hP : va_P (xD X) vwCl (((h, .inr (4, [.int 0, .ref (h + 1), .ref (h + 3), .ref (h + 5), .null, .null])) :: ((RWf X (h + 1) 5 zF ++ RWf X (h + 3) 5 zF) ++ RWf X (h + 5) 5 zF))) H := hP
  have hD : va_D (nA h) (((h, .inr (4, [.int 0, .ref (h + 1), .ref (h + 3), .ref (h + 5), .null, .null])) :: ((RWf X (h + 1) 5 zF ++ RWf X (h + 3) 5 zF) ++ RWf X (h + 5) 5 zF))) := hD
  have hz : H.size = h + 7 := hz2.trans hz
  refine lv_aload_n hx hb dX4_init_40 rfl (lv_at hl 0 rfl) ?_
  refine n_new (ci := 6) (C := RX6) (T := TX6) (N := 1) (fs := [.null]) (z := h + 7) hx hb hts (show ∀ w ∈ wsX60, w ∈ wsX4_init from iC4_6) tyX6 tyX6_ok hown (hts (.classLink RX4 9 RX6) (by decide +kernel)) (hts (.instantiable RX6 1) (by decide +kernel)) (hts (.initialized RX6) (by decide +kernel)) hK hP hD hS hA hz rfl (fun j hj => by rcases (show j = 0 by omega) with rfl <;> rfl) (Nat.le_of_ble_eq_true rfl) (Nat.le_of_ble_eq_true rfl) dX4_init_41 (fun H hP hD hS hz => ?_)
  refine lv_dup hx hb dX4_init_44 rfl ?_
  refine lv_iconst (v := nI 5) hx hb dX4_init_45 (by decide) ?_
  refine n_call (ws := ((h, .inr (4, [.int 0, .ref (h + 1), .ref (h + 3), .ref (h + 5), .null, .null])) :: ((RWf X (h + 1) 5 zF ++ RWf X (h + 3) 5 zF) ++ RWf X (h + 5) 5 zF))) (h := h + 7) (e0 := .inr (6, [.null])) (As := [.int (nI 5)]) (rest := [.ref (h + 7), .ref h]) ⟨hx, hb, hml, hown, hts⟩ (kC_X6 l (h + 7) 5 (by decide) (by decide)) (cwI 1 hts gX4_init_X6_init rfl rfl rfl (hts (.initialized RX6) (by decide +kernel)) (hts (.methodLink RX4 11 yX6_init) (by decide +kernel)) (hts (.instanceMethod yX6_init) (by decide +kernel)) rfl (by decide +kernel) ⟨Nat.le_of_ble_eq_true rfl, Nat.le_of_ble_eq_true rfl⟩) hK hP hD hS hA hz rfl hl.1 rfl (Nat.le_of_ble_eq_true rfl) dX4_init_46 ⟨Nat.le_of_ble_eq_true rfl, Nat.le_of_ble_eq_true rfl⟩ (fun H locs hP hD hS hz => ?_)
  rw [List.cons_append] at hP hD
  refine n_putF (ws := ((h, .inr (4, [.int 0, .ref (h + 1), .ref (h + 3), .ref (h + 5), .null, .null])) :: (((RWf X (h + 1) 5 zF ++ RWf X (h + 3) 5 zF) ++ RWf X (h + 5) 5 zF) ++ RWf X (h + 7) 5 zF))) (C := RX4) (T := TX4) (N := 6) (ty := .object "BakeTurns$Row") (fs := [.int 0, .ref (h + 1), .ref (h + 3), .ref (h + 5), .null, .null]) hx hb hts (show ∀ w ∈ wsX40, w ∈ wsX4_init from iC4_4) tyX4 tyX4_ok nmX4 hown hK hP hD hS 0 rfl rfl 4 (by decide) (hts (.fieldLink RX4 26 (TX4 4).1 (TX4 4).2.1 (TX4 4).2.2.1) (by decide +kernel)) rfl hin rfl (by decide +kernel) rfl rfl (Nat.le_of_ble_eq_true rfl) dX4_init_49 (fun H locs hP hD hS hz2 => ?_)
  rw [List.set_cons_zero] at hP hD
  have hP : va_P (xD X) vwCl (((h, .inr (4, [.int 0, .ref (h + 1), .ref (h + 3), .ref (h + 5), .ref (h + 7), .null])) :: (((RWf X (h + 1) 5 zF ++ RWf X (h + 3) 5 zF) ++ RWf X (h + 5) 5 zF) ++ RWf X (h + 7) 5 zF))) H := hP
  have hD : va_D (nA h) (((h, .inr (4, [.int 0, .ref (h + 1), .ref (h + 3), .ref (h + 5), .ref (h + 7), .null])) :: (((RWf X (h + 1) 5 zF ++ RWf X (h + 3) 5 zF) ++ RWf X (h + 5) 5 zF) ++ RWf X (h + 7) 5 zF))) := hD
  have hz : H.size = h + 9 := hz2.trans hz
  refine lv_aload_n hx hb dX4_init_52 rfl (lv_at hl 0 rfl) ?_
  refine n_new (ci := 6) (C := RX6) (T := TX6) (N := 1) (fs := [.null]) (z := h + 9) hx hb hts (show ∀ w ∈ wsX60, w ∈ wsX4_init from iC4_6) tyX6 tyX6_ok hown (hts (.classLink RX4 9 RX6) (by decide +kernel)) (hts (.instantiable RX6 1) (by decide +kernel)) (hts (.initialized RX6) (by decide +kernel)) hK hP hD hS hA hz rfl (fun j hj => by rcases (show j = 0 by omega) with rfl <;> rfl) (Nat.le_of_ble_eq_true rfl) (Nat.le_of_ble_eq_true rfl) dX4_init_53 (fun H hP hD hS hz => ?_)
  refine lv_dup hx hb dX4_init_56 rfl ?_
  refine lv_iconst (v := nI 5) hx hb dX4_init_57 (by decide) ?_
  refine n_call (ws := ((h, .inr (4, [.int 0, .ref (h + 1), .ref (h + 3), .ref (h + 5), .ref (h + 7), .null])) :: (((RWf X (h + 1) 5 zF ++ RWf X (h + 3) 5 zF) ++ RWf X (h + 5) 5 zF) ++ RWf X (h + 7) 5 zF))) (h := h + 9) (e0 := .inr (6, [.null])) (As := [.int (nI 5)]) (rest := [.ref (h + 9), .ref h]) ⟨hx, hb, hml, hown, hts⟩ (kC_X6 l (h + 9) 5 (by decide) (by decide)) (cwI 1 hts gX4_init_X6_init rfl rfl rfl (hts (.initialized RX6) (by decide +kernel)) (hts (.methodLink RX4 11 yX6_init) (by decide +kernel)) (hts (.instanceMethod yX6_init) (by decide +kernel)) rfl (by decide +kernel) ⟨Nat.le_of_ble_eq_true rfl, Nat.le_of_ble_eq_true rfl⟩) hK hP hD hS hA hz rfl hl.1 rfl (Nat.le_of_ble_eq_true rfl) dX4_init_58 ⟨Nat.le_of_ble_eq_true rfl, Nat.le_of_ble_eq_true rfl⟩ (fun H locs hP hD hS hz => ?_)
  rw [List.cons_append] at hP hD
  refine n_putF (ws := ((h, .inr (4, [.int 0, .ref (h + 1), .ref (h + 3), .ref (h + 5), .ref (h + 7), .null])) :: ((((RWf X (h + 1) 5 zF ++ RWf X (h + 3) 5 zF) ++ RWf X (h + 5) 5 zF) ++ RWf X (h + 7) 5 zF) ++ RWf X (h + 9) 5 zF))) (C := RX4) (T := TX4) (N := 6) (ty := .object "BakeTurns$Row") (fs := [.int 0, .ref (h + 1), .ref (h + 3), .ref (h + 5), .ref (h + 7), .null]) hx hb hts (show ∀ w ∈ wsX40, w ∈ wsX4_init from iC4_4) tyX4 tyX4_ok nmX4 hown hK hP hD hS 0 rfl rfl 5 (by decide) (hts (.fieldLink RX4 29 (TX4 5).1 (TX4 5).2.1 (TX4 5).2.2.1) (by decide +kernel)) rfl hin rfl (by decide +kernel) rfl rfl (Nat.le_of_ble_eq_true rfl) dX4_init_61 (fun H locs hP hD hS hz2 => ?_)
  rw [List.set_cons_zero] at hP hD
  have hP : va_P (xD X) vwCl (((h, .inr (4, [.int 0, .ref (h + 1), .ref (h + 3), .ref (h + 5), .ref (h + 7), .ref (h + 9)])) :: ((((RWf X (h + 1) 5 zF ++ RWf X (h + 3) 5 zF) ++ RWf X (h + 5) 5 zF) ++ RWf X (h + 7) 5 zF) ++ RWf X (h + 9) 5 zF))) H := hP
  have hD : va_D (nA h) (((h, .inr (4, [.int 0, .ref (h + 1), .ref (h + 3), .ref (h + 5), .ref (h + 7), .ref (h + 9)])) :: ((((RWf X (h + 1) 5 zF ++ RWf X (h + 3) 5 zF) ++ RWf X (h + 5) 5 zF) ++ RWf X (h + 7) 5 zF) ++ RWf X (h + 9) 5 zF))) := hD
  have hz : H.size = h + 11 := hz2.trans hz
  refine W.widen (k := 10) (n := 30) (Nat.le_of_ble_eq_true rfl) (Nat.le_of_ble_eq_true rfl) ?_
  exact n_vret hx hb hr hlocks hP hD hS hz dX4_init_64
def HoW (X : bkX) (h : Nat) : va_W := ((h, .inr (3, [.int 0, .ref (h + 1), .ref (h + 3), .ref (h + 5), .ref (h + 7), .ref (h + 9), .ref (h + 11)])) :: (((((RWf X (h + 1) 8 zF ++ RWf X (h + 3) 8 zF) ++ RWf X (h + 5) 8 zF) ++ RWf X (h + 7) 8 zF) ++ RWf X (h + 9) 8 zF) ++ RWf X (h + 11) 8 zF))
set_option maxHeartbeats 4000000 in
set_option maxRecDepth 100000 in
theorem kC_X3 (l : Launch) {X : bkX} (h : Nat) : cN l yX3_init wsX3_init ({ frames := 2, cells := 12, slots := 54, locals := 33 } : Room) X [.ref h] h (.inr (3, [.int 0, .null, .null, .null, .null, .null, .null])) 12 (HoW X h) 12 54 := by
  refine Met.ofW (cc := cX3_init) (maxL := 1) (ret := none) (by decide) rfl ?_
  intro p e s m args below meth c s₁ B hml hv
  obtain ⟨ha, hz, hP, hK⟩ := hv
  have hx := B.exec
  have hb := B.bytes
  have hr := B.returns
  have hts := atoms_spec (ws := wsX3_init) B.pre
  have hown : s.vm.findClass RX3 = some m.cls := findClass_of_methodNamed B.named
  have hlocks := B.notSynchronized
  have hin : meth.name = "<init>" := (name_of_methodNamed B.named B.method).1
  have hS : va_S (nA h) s.heap s.heap [] := va_S.rf
  have hA : ∀ q : Nat, s.heap.size ≤ q → nA h q := fun q hq => by show h ≤ q; omega
  have hl := lv_entry ([.ref h]) (n := 1) (Nat.le_of_ble_eq_true rfl)
  refine W.eq ((congrArg (fun z => entryFrame m z 1) ha).trans (lg_entry_eq m _ 1)) ?_
  generalize (lg_sl ([.ref h]) ++ List.replicate (1 - (lg_sl ([.ref h])).length) Slot.unset).toArray = ls at hl ⊢
  have hl : lv_has ls 1 [(0, .ref h)] := hl
  have hD : va_D (nA h) [(h, .inr (3, [.int 0, .null, .null, .null, .null, .null, .null]))] := nD1 (Nat.le_refl h)
  refine lv_aload_n hx hb dX3_init_0 rfl (lv_at hl 0 rfl) ?_
  refine W.objInit hx hb hown (hts (.methodLink RX3 3 objectInit) (by decide +kernel)) (hts (.instanceMethod objectInit) (by decide +kernel)) (hts (.code objectInit ⟨#[0xb1]⟩ 1 none) (by decide +kernel)) rfl (by rw [hml]; exact hl.1) rfl dX3_init_1 (Nat.le_of_ble_eq_true rfl) (Nat.le_of_ble_eq_true rfl) ?_
  refine W.eq (g2 := F0 m 4 ls []) rfl ?_
  refine lv_aload_n hx hb dX3_init_4 rfl (lv_at hl 0 rfl) ?_
  refine n_new (ci := 6) (C := RX6) (T := TX6) (N := 1) (fs := [.null]) (z := h + 1) hx hb hts (show ∀ w ∈ wsX60, w ∈ wsX3_init from iC3_6) tyX6 tyX6_ok hown (hts (.classLink RX3 9 RX6) (by decide +kernel)) (hts (.instantiable RX6 1) (by decide +kernel)) (hts (.initialized RX6) (by decide +kernel)) hK hP hD hS hA hz rfl (fun j hj => by rcases (show j = 0 by omega) with rfl <;> rfl) (Nat.le_of_ble_eq_true rfl) (Nat.le_of_ble_eq_true rfl) dX3_init_5 (fun H hP hD hS hz => ?_)
  refine lv_dup hx hb dX3_init_8 rfl ?_
  refine lv_bipush (v := nI 8) hx hb dX3_init_9 (by decide) ?_
  refine n_call (ws := [(h, .inr (3, [.int 0, .null, .null, .null, .null, .null, .null]))]) (h := h + 1) (e0 := .inr (6, [.null])) (As := [.int (nI 8)]) (rest := [.ref (h + 1), .ref h]) ⟨hx, hb, hml, hown, hts⟩ (kC_X6 l (h + 1) 8 (by decide) (by decide)) (cwI 1 hts gX3_init_X6_init rfl rfl rfl (hts (.initialized RX6) (by decide +kernel)) (hts (.methodLink RX3 11 yX6_init) (by decide +kernel)) (hts (.instanceMethod yX6_init) (by decide +kernel)) rfl (by decide +kernel) ⟨Nat.le_of_ble_eq_true rfl, Nat.le_of_ble_eq_true rfl⟩) hK hP hD hS hA hz rfl hl.1 rfl (Nat.le_of_ble_eq_true rfl) dX3_init_11 ⟨Nat.le_of_ble_eq_true rfl, Nat.le_of_ble_eq_true rfl⟩ (fun H locs hP hD hS hz => ?_)
  rw [List.cons_append, List.nil_append] at hP hD
  refine n_putF (ws := ((h, .inr (3, [.int 0, .null, .null, .null, .null, .null, .null])) :: RWf X (h + 1) 8 zF)) (C := RX3) (T := TX3) (N := 7) (ty := .object "BakeTurns$Row") (fs := [.int 0, .null, .null, .null, .null, .null, .null]) hx hb hts (show ∀ w ∈ wsX30, w ∈ wsX3_init from iC3_3) tyX3 tyX3_ok nmX3 hown hK hP hD hS 0 rfl rfl 1 (by decide) (hts (.fieldLink RX3 14 (TX3 1).1 (TX3 1).2.1 (TX3 1).2.2.1) (by decide +kernel)) rfl hin rfl (by decide +kernel) rfl rfl (Nat.le_of_ble_eq_true rfl) dX3_init_14 (fun H locs hP hD hS hz2 => ?_)
  rw [List.set_cons_zero] at hP hD
  have hP : va_P (xD X) vwCl (((h, .inr (3, [.int 0, .ref (h + 1), .null, .null, .null, .null, .null])) :: RWf X (h + 1) 8 zF)) H := hP
  have hD : va_D (nA h) (((h, .inr (3, [.int 0, .ref (h + 1), .null, .null, .null, .null, .null])) :: RWf X (h + 1) 8 zF)) := hD
  have hz : H.size = h + 3 := hz2.trans hz
  refine lv_aload_n hx hb dX3_init_17 rfl (lv_at hl 0 rfl) ?_
  refine n_new (ci := 6) (C := RX6) (T := TX6) (N := 1) (fs := [.null]) (z := h + 3) hx hb hts (show ∀ w ∈ wsX60, w ∈ wsX3_init from iC3_6) tyX6 tyX6_ok hown (hts (.classLink RX3 9 RX6) (by decide +kernel)) (hts (.instantiable RX6 1) (by decide +kernel)) (hts (.initialized RX6) (by decide +kernel)) hK hP hD hS hA hz rfl (fun j hj => by rcases (show j = 0 by omega) with rfl <;> rfl) (Nat.le_of_ble_eq_true rfl) (Nat.le_of_ble_eq_true rfl) dX3_init_18 (fun H hP hD hS hz => ?_)
  refine lv_dup hx hb dX3_init_21 rfl ?_
  refine lv_bipush (v := nI 8) hx hb dX3_init_22 (by decide) ?_
  refine n_call (ws := ((h, .inr (3, [.int 0, .ref (h + 1), .null, .null, .null, .null, .null])) :: RWf X (h + 1) 8 zF)) (h := h + 3) (e0 := .inr (6, [.null])) (As := [.int (nI 8)]) (rest := [.ref (h + 3), .ref h]) ⟨hx, hb, hml, hown, hts⟩ (kC_X6 l (h + 3) 8 (by decide) (by decide)) (cwI 1 hts gX3_init_X6_init rfl rfl rfl (hts (.initialized RX6) (by decide +kernel)) (hts (.methodLink RX3 11 yX6_init) (by decide +kernel)) (hts (.instanceMethod yX6_init) (by decide +kernel)) rfl (by decide +kernel) ⟨Nat.le_of_ble_eq_true rfl, Nat.le_of_ble_eq_true rfl⟩) hK hP hD hS hA hz rfl hl.1 rfl (Nat.le_of_ble_eq_true rfl) dX3_init_24 ⟨Nat.le_of_ble_eq_true rfl, Nat.le_of_ble_eq_true rfl⟩ (fun H locs hP hD hS hz => ?_)
  rw [List.cons_append] at hP hD
  refine n_putF (ws := ((h, .inr (3, [.int 0, .ref (h + 1), .null, .null, .null, .null, .null])) :: (RWf X (h + 1) 8 zF ++ RWf X (h + 3) 8 zF))) (C := RX3) (T := TX3) (N := 7) (ty := .object "BakeTurns$Row") (fs := [.int 0, .ref (h + 1), .null, .null, .null, .null, .null]) hx hb hts (show ∀ w ∈ wsX30, w ∈ wsX3_init from iC3_3) tyX3 tyX3_ok nmX3 hown hK hP hD hS 0 rfl rfl 2 (by decide) (hts (.fieldLink RX3 20 (TX3 2).1 (TX3 2).2.1 (TX3 2).2.2.1) (by decide +kernel)) rfl hin rfl (by decide +kernel) rfl rfl (Nat.le_of_ble_eq_true rfl) dX3_init_27 (fun H locs hP hD hS hz2 => ?_)
  rw [List.set_cons_zero] at hP hD
  have hP : va_P (xD X) vwCl (((h, .inr (3, [.int 0, .ref (h + 1), .ref (h + 3), .null, .null, .null, .null])) :: (RWf X (h + 1) 8 zF ++ RWf X (h + 3) 8 zF))) H := hP
  have hD : va_D (nA h) (((h, .inr (3, [.int 0, .ref (h + 1), .ref (h + 3), .null, .null, .null, .null])) :: (RWf X (h + 1) 8 zF ++ RWf X (h + 3) 8 zF))) := hD
  have hz : H.size = h + 5 := hz2.trans hz
  refine lv_aload_n hx hb dX3_init_30 rfl (lv_at hl 0 rfl) ?_
  refine n_new (ci := 6) (C := RX6) (T := TX6) (N := 1) (fs := [.null]) (z := h + 5) hx hb hts (show ∀ w ∈ wsX60, w ∈ wsX3_init from iC3_6) tyX6 tyX6_ok hown (hts (.classLink RX3 9 RX6) (by decide +kernel)) (hts (.instantiable RX6 1) (by decide +kernel)) (hts (.initialized RX6) (by decide +kernel)) hK hP hD hS hA hz rfl (fun j hj => by rcases (show j = 0 by omega) with rfl <;> rfl) (Nat.le_of_ble_eq_true rfl) (Nat.le_of_ble_eq_true rfl) dX3_init_31 (fun H hP hD hS hz => ?_)
  refine lv_dup hx hb dX3_init_34 rfl ?_
  refine lv_bipush (v := nI 8) hx hb dX3_init_35 (by decide) ?_
  refine n_call (ws := ((h, .inr (3, [.int 0, .ref (h + 1), .ref (h + 3), .null, .null, .null, .null])) :: (RWf X (h + 1) 8 zF ++ RWf X (h + 3) 8 zF))) (h := h + 5) (e0 := .inr (6, [.null])) (As := [.int (nI 8)]) (rest := [.ref (h + 5), .ref h]) ⟨hx, hb, hml, hown, hts⟩ (kC_X6 l (h + 5) 8 (by decide) (by decide)) (cwI 1 hts gX3_init_X6_init rfl rfl rfl (hts (.initialized RX6) (by decide +kernel)) (hts (.methodLink RX3 11 yX6_init) (by decide +kernel)) (hts (.instanceMethod yX6_init) (by decide +kernel)) rfl (by decide +kernel) ⟨Nat.le_of_ble_eq_true rfl, Nat.le_of_ble_eq_true rfl⟩) hK hP hD hS hA hz rfl hl.1 rfl (Nat.le_of_ble_eq_true rfl) dX3_init_37 ⟨Nat.le_of_ble_eq_true rfl, Nat.le_of_ble_eq_true rfl⟩ (fun H locs hP hD hS hz => ?_)
  rw [List.cons_append] at hP hD
  refine n_putF (ws := ((h, .inr (3, [.int 0, .ref (h + 1), .ref (h + 3), .null, .null, .null, .null])) :: ((RWf X (h + 1) 8 zF ++ RWf X (h + 3) 8 zF) ++ RWf X (h + 5) 8 zF))) (C := RX3) (T := TX3) (N := 7) (ty := .object "BakeTurns$Row") (fs := [.int 0, .ref (h + 1), .ref (h + 3), .null, .null, .null, .null]) hx hb hts (show ∀ w ∈ wsX30, w ∈ wsX3_init from iC3_3) tyX3 tyX3_ok nmX3 hown hK hP hD hS 0 rfl rfl 3 (by decide) (hts (.fieldLink RX3 23 (TX3 3).1 (TX3 3).2.1 (TX3 3).2.2.1) (by decide +kernel)) rfl hin rfl (by decide +kernel) rfl rfl (Nat.le_of_ble_eq_true rfl) dX3_init_40 (fun H locs hP hD hS hz2 => ?_)
  rw [List.set_cons_zero] at hP hD
  have hP : va_P (xD X) vwCl (((h, .inr (3, [.int 0, .ref (h + 1), .ref (h + 3), .ref (h + 5), .null, .null, .null])) :: ((RWf X (h + 1) 8 zF ++ RWf X (h + 3) 8 zF) ++ RWf X (h + 5) 8 zF))) H := hP
  have hD : va_D (nA h) (((h, .inr (3, [.int 0, .ref (h + 1), .ref (h + 3), .ref (h + 5), .null, .null, .null])) :: ((RWf X (h + 1) 8 zF ++ RWf X (h + 3) 8 zF) ++ RWf X (h + 5) 8 zF))) := hD
  have hz : H.size = h + 7 := hz2.trans hz
  refine lv_aload_n hx hb dX3_init_43 rfl (lv_at hl 0 rfl) ?_
  refine n_new (ci := 6) (C := RX6) (T := TX6) (N := 1) (fs := [.null]) (z := h + 7) hx hb hts (show ∀ w ∈ wsX60, w ∈ wsX3_init from iC3_6) tyX6 tyX6_ok hown (hts (.classLink RX3 9 RX6) (by decide +kernel)) (hts (.instantiable RX6 1) (by decide +kernel)) (hts (.initialized RX6) (by decide +kernel)) hK hP hD hS hA hz rfl (fun j hj => by rcases (show j = 0 by omega) with rfl <;> rfl) (Nat.le_of_ble_eq_true rfl) (Nat.le_of_ble_eq_true rfl) dX3_init_44 (fun H hP hD hS hz => ?_)
  refine lv_dup hx hb dX3_init_47 rfl ?_
  refine lv_bipush (v := nI 8) hx hb dX3_init_48 (by decide) ?_
  refine n_call (ws := ((h, .inr (3, [.int 0, .ref (h + 1), .ref (h + 3), .ref (h + 5), .null, .null, .null])) :: ((RWf X (h + 1) 8 zF ++ RWf X (h + 3) 8 zF) ++ RWf X (h + 5) 8 zF))) (h := h + 7) (e0 := .inr (6, [.null])) (As := [.int (nI 8)]) (rest := [.ref (h + 7), .ref h]) ⟨hx, hb, hml, hown, hts⟩ (kC_X6 l (h + 7) 8 (by decide) (by decide)) (cwI 1 hts gX3_init_X6_init rfl rfl rfl (hts (.initialized RX6) (by decide +kernel)) (hts (.methodLink RX3 11 yX6_init) (by decide +kernel)) (hts (.instanceMethod yX6_init) (by decide +kernel)) rfl (by decide +kernel) ⟨Nat.le_of_ble_eq_true rfl, Nat.le_of_ble_eq_true rfl⟩) hK hP hD hS hA hz rfl hl.1 rfl (Nat.le_of_ble_eq_true rfl) dX3_init_50 ⟨Nat.le_of_ble_eq_true rfl, Nat.le_of_ble_eq_true rfl⟩ (fun H locs hP hD hS hz => ?_)
  rw [List.cons_append] at hP hD
  refine n_putF (ws := ((h, .inr (3, [.int 0, .ref (h + 1), .ref (h + 3), .ref (h + 5), .null, .null, .null])) :: (((RWf X (h + 1) 8 zF ++ RWf X (h + 3) 8 zF) ++ RWf X (h + 5) 8 zF) ++ RWf X (h + 7) 8 zF))) (C := RX3) (T := TX3) (N := 7) (ty := .object "BakeTurns$Row") (fs := [.int 0, .ref (h + 1), .ref (h + 3), .ref (h + 5), .null, .null, .null]) hx hb hts (show ∀ w ∈ wsX30, w ∈ wsX3_init from iC3_3) tyX3 tyX3_ok nmX3 hown hK hP hD hS 0 rfl rfl 4 (by decide) (hts (.fieldLink RX3 26 (TX3 4).1 (TX3 4).2.1 (TX3 4).2.2.1) (by decide +kernel)) rfl hin rfl (by decide +kernel) rfl rfl (Nat.le_of_ble_eq_true rfl) dX3_init_53 (fun H locs hP hD hS hz2 => ?_)
  rw [List.set_cons_zero] at hP hD
  have hP : va_P (xD X) vwCl (((h, .inr (3, [.int 0, .ref (h + 1), .ref (h + 3), .ref (h + 5), .ref (h + 7), .null, .null])) :: (((RWf X (h + 1) 8 zF ++ RWf X (h + 3) 8 zF) ++ RWf X (h + 5) 8 zF) ++ RWf X (h + 7) 8 zF))) H := hP
  have hD : va_D (nA h) (((h, .inr (3, [.int 0, .ref (h + 1), .ref (h + 3), .ref (h + 5), .ref (h + 7), .null, .null])) :: (((RWf X (h + 1) 8 zF ++ RWf X (h + 3) 8 zF) ++ RWf X (h + 5) 8 zF) ++ RWf X (h + 7) 8 zF))) := hD
  have hz : H.size = h + 9 := hz2.trans hz
  refine lv_aload_n hx hb dX3_init_56 rfl (lv_at hl 0 rfl) ?_
  refine n_new (ci := 6) (C := RX6) (T := TX6) (N := 1) (fs := [.null]) (z := h + 9) hx hb hts (show ∀ w ∈ wsX60, w ∈ wsX3_init from iC3_6) tyX6 tyX6_ok hown (hts (.classLink RX3 9 RX6) (by decide +kernel)) (hts (.instantiable RX6 1) (by decide +kernel)) (hts (.initialized RX6) (by decide +kernel)) hK hP hD hS hA hz rfl (fun j hj => by rcases (show j = 0 by omega) with rfl <;> rfl) (Nat.le_of_ble_eq_true rfl) (Nat.le_of_ble_eq_true rfl) dX3_init_57 (fun H hP hD hS hz => ?_)
  refine lv_dup hx hb dX3_init_60 rfl ?_
  refine lv_bipush (v := nI 8) hx hb dX3_init_61 (by decide) ?_
  refine n_call (ws := ((h, .inr (3, [.int 0, .ref (h + 1), .ref (h + 3), .ref (h + 5), .ref (h + 7), .null, .null])) :: (((RWf X (h + 1) 8 zF ++ RWf X (h + 3) 8 zF) ++ RWf X (h + 5) 8 zF) ++ RWf X (h + 7) 8 zF))) (h := h + 9) (e0 := .inr (6, [.null])) (As := [.int (nI 8)]) (rest := [.ref (h + 9), .ref h]) ⟨hx, hb, hml, hown, hts⟩ (kC_X6 l (h + 9) 8 (by decide) (by decide)) (cwI 1 hts gX3_init_X6_init rfl rfl rfl (hts (.initialized RX6) (by decide +kernel)) (hts (.methodLink RX3 11 yX6_init) (by decide +kernel)) (hts (.instanceMethod yX6_init) (by decide +kernel)) rfl (by decide +kernel) ⟨Nat.le_of_ble_eq_true rfl, Nat.le_of_ble_eq_true rfl⟩) hK hP hD hS hA hz rfl hl.1 rfl (Nat.le_of_ble_eq_true rfl) dX3_init_63 ⟨Nat.le_of_ble_eq_true rfl, Nat.le_of_ble_eq_true rfl⟩ (fun H locs hP hD hS hz => ?_)
  rw [List.cons_append] at hP hD
  refine n_putF (ws := ((h, .inr (3, [.int 0, .ref (h + 1), .ref (h + 3), .ref (h + 5), .ref (h + 7), .null, .null])) :: ((((RWf X (h + 1) 8 zF ++ RWf X (h + 3) 8 zF) ++ RWf X (h + 5) 8 zF) ++ RWf X (h + 7) 8 zF) ++ RWf X (h + 9) 8 zF))) (C := RX3) (T := TX3) (N := 7) (ty := .object "BakeTurns$Row") (fs := [.int 0, .ref (h + 1), .ref (h + 3), .ref (h + 5), .ref (h + 7), .null, .null]) hx hb hts (show ∀ w ∈ wsX30, w ∈ wsX3_init from iC3_3) tyX3 tyX3_ok nmX3 hown hK hP hD hS 0 rfl rfl 5 (by decide) (hts (.fieldLink RX3 29 (TX3 5).1 (TX3 5).2.1 (TX3 5).2.2.1) (by decide +kernel)) rfl hin rfl (by decide +kernel) rfl rfl (Nat.le_of_ble_eq_true rfl) dX3_init_66 (fun H locs hP hD hS hz2 => ?_)
  rw [List.set_cons_zero] at hP hD
  have hP : va_P (xD X) vwCl (((h, .inr (3, [.int 0, .ref (h + 1), .ref (h + 3), .ref (h + 5), .ref (h + 7), .ref (h + 9), .null])) :: ((((RWf X (h + 1) 8 zF ++ RWf X (h + 3) 8 zF) ++ RWf X (h + 5) 8 zF) ++ RWf X (h + 7) 8 zF) ++ RWf X (h + 9) 8 zF))) H := hP
  have hD : va_D (nA h) (((h, .inr (3, [.int 0, .ref (h + 1), .ref (h + 3), .ref (h + 5), .ref (h + 7), .ref (h + 9), .null])) :: ((((RWf X (h + 1) 8 zF ++ RWf X (h + 3) 8 zF) ++ RWf X (h + 5) 8 zF) ++ RWf X (h + 7) 8 zF) ++ RWf X (h + 9) 8 zF))) := hD
  have hz : H.size = h + 11 := hz2.trans hz
  refine lv_aload_n hx hb dX3_init_69 rfl (lv_at hl 0 rfl) ?_
  refine n_new (ci := 6) (C := RX6) (T := TX6) (N := 1) (fs := [.null]) (z := h + 11) hx hb hts (show ∀ w ∈ wsX60, w ∈ wsX3_init from iC3_6) tyX6 tyX6_ok hown (hts (.classLink RX3 9 RX6) (by decide +kernel)) (hts (.instantiable RX6 1) (by decide +kernel)) (hts (.initialized RX6) (by decide +kernel)) hK hP hD hS hA hz rfl (fun j hj => by rcases (show j = 0 by omega) with rfl <;> rfl) (Nat.le_of_ble_eq_true rfl) (Nat.le_of_ble_eq_true rfl) dX3_init_70 (fun H hP hD hS hz => ?_)
  refine lv_dup hx hb dX3_init_73 rfl ?_
  refine lv_bipush (v := nI 8) hx hb dX3_init_74 (by decide) ?_
  refine n_call (ws := ((h, .inr (3, [.int 0, .ref (h + 1), .ref (h + 3), .ref (h + 5), .ref (h + 7), .ref (h + 9), .null])) :: ((((RWf X (h + 1) 8 zF ++ RWf X (h + 3) 8 zF) ++ RWf X (h + 5) 8 zF) ++ RWf X (h + 7) 8 zF) ++ RWf X (h + 9) 8 zF))) (h := h + 11) (e0 := .inr (6, [.null])) (As := [.int (nI 8)]) (rest := [.ref (h + 11), .ref h]) ⟨hx, hb, hml, hown, hts⟩ (kC_X6 l (h + 11) 8 (by decide) (by decide)) (cwI 1 hts gX3_init_X6_init rfl rfl rfl (hts (.initialized RX6) (by decide +kernel)) (hts (.methodLink RX3 11 yX6_init) (by decide +kernel)) (hts (.instanceMethod yX6_init) (by decide +kernel)) rfl (by decide +kernel) ⟨Nat.le_of_ble_eq_true rfl, Nat.le_of_ble_eq_true rfl⟩) hK hP hD hS hA hz rfl hl.1 rfl (Nat.le_of_ble_eq_true rfl) dX3_init_76 ⟨Nat.le_of_ble_eq_true rfl, Nat.le_of_ble_eq_true rfl⟩ (fun H locs hP hD hS hz => ?_)
  rw [List.cons_append] at hP hD
  refine n_putF (ws := ((h, .inr (3, [.int 0, .ref (h + 1), .ref (h + 3), .ref (h + 5), .ref (h + 7), .ref (h + 9), .null])) :: (((((RWf X (h + 1) 8 zF ++ RWf X (h + 3) 8 zF) ++ RWf X (h + 5) 8 zF) ++ RWf X (h + 7) 8 zF) ++ RWf X (h + 9) 8 zF) ++ RWf X (h + 11) 8 zF))) (C := RX3) (T := TX3) (N := 7) (ty := .object "BakeTurns$Row") (fs := [.int 0, .ref (h + 1), .ref (h + 3), .ref (h + 5), .ref (h + 7), .ref (h + 9), .null]) hx hb hts (show ∀ w ∈ wsX30, w ∈ wsX3_init from iC3_3) tyX3 tyX3_ok nmX3 hown hK hP hD hS 0 rfl rfl 6 (by decide) (hts (.fieldLink RX3 32 (TX3 6).1 (TX3 6).2.1 (TX3 6).2.2.1) (by decide +kernel)) rfl hin rfl (by decide +kernel) rfl rfl (Nat.le_of_ble_eq_true rfl) dX3_init_79 (fun H locs hP hD hS hz2 => ?_)
  rw [List.set_cons_zero] at hP hD
  have hP : va_P (xD X) vwCl (((h, .inr (3, [.int 0, .ref (h + 1), .ref (h + 3), .ref (h + 5), .ref (h + 7), .ref (h + 9), .ref (h + 11)])) :: (((((RWf X (h + 1) 8 zF ++ RWf X (h + 3) 8 zF) ++ RWf X (h + 5) 8 zF) ++ RWf X (h + 7) 8 zF) ++ RWf X (h + 9) 8 zF) ++ RWf X (h + 11) 8 zF))) H := hP
  have hD : va_D (nA h) (((h, .inr (3, [.int 0, .ref (h + 1), .ref (h + 3), .ref (h + 5), .ref (h + 7), .ref (h + 9), .ref (h + 11)])) :: (((((RWf X (h + 1) 8 zF ++ RWf X (h + 3) 8 zF) ++ RWf X (h + 5) 8 zF) ++ RWf X (h + 7) 8 zF) ++ RWf X (h + 9) 8 zF) ++ RWf X (h + 11) 8 zF))) := hD
  have hz : H.size = h + 13 := hz2.trans hz
  refine W.widen (k := 12) (n := 54) (Nat.le_of_ble_eq_true rfl) (Nat.le_of_ble_eq_true rfl) ?_
  exact n_vret hx hb hr hlocks hP hD hS hz dX3_init_82
