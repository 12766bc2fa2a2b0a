/-! History, BakeTurns, the reference -/
theorem SW_0 {X : bkX} {a : Nat} : (SW X a)[0]? = some (a, .inr (7, [.ref (a + 1), .ref (a + 12), .ref (a + 25), .ref (a + 42), .ref (a + 49), .int 0, .int 0, .int 0, .int 0, .int 0, .int 0, .int 0, .int 0, .int 0])) := rfl
theorem SW_len {X : bkX} {a : Nat} : (SW X a).length = 51 := rfl
theorem last0 {ws w1 : va_W} {n : Nat} {q : Nat × va_E} (hn : ws.length = n) (h : w1[0]? = some q) : (ws ++ w1)[n]? = some q := by
  rw [List.getElem?_append_right (by omega), show n - ws.length = 0 by omega]
  exact h
theorem nSW0 (X : bkX) (h : Nat) (x y : Nat × va_E) : ((x :: y :: SW X (h + 2)) : va_W)[2]? = some (h + 2, .inr (7, [.ref (h + 2 + 1), .ref (h + 2 + 12), .ref (h + 2 + 25), .ref (h + 2 + 42), .ref (h + 2 + 49), .int 0, .int 0, .int 0, .int 0, .int 0, .int 0, .int 0, .int 0, .int 0])) := (show ((SW X (h + 2)) : va_W)[0]? = some (h + 2, .inr (7, [.ref (h + 2 + 1), .ref (h + 2 + 12), .ref (h + 2 + 25), .ref (h + 2 + 42), .ref (h + 2 + 49), .int 0, .int 0, .int 0, .int 0, .int 0, .int 0, .int 0, .int 0, .int 0])) from SW_0)
theorem nSW1 (X : bkX) (h : Nat) (x y : Nat × va_E) : ((x :: y :: (SW X (h + 2) ++ SW X (h + 53))) : va_W)[53]? = some (h + 53, .inr (7, [.ref (h + 53 + 1), .ref (h + 53 + 12), .ref (h + 53 + 25), .ref (h + 53 + 42), .ref (h + 53 + 49), .int 0, .int 0, .int 0, .int 0, .int 0, .int 0, .int 0, .int 0, .int 0])) := (show (((SW X (h + 2) ++ SW X (h + 53))) : va_W)[51]? = some (h + 53, .inr (7, [.ref (h + 53 + 1), .ref (h + 53 + 12), .ref (h + 53 + 25), .ref (h + 53 + 42), .ref (h + 53 + 49), .int 0, .int 0, .int 0, .int 0, .int 0, .int 0, .int 0, .int 0, .int 0])) from last0 (by simp [SW_len]) SW_0)
theorem nSW2 (X : bkX) (h : Nat) (x y : Nat × va_E) : ((x :: y :: ((SW X (h + 2) ++ SW X (h + 53)) ++ SW X (h + 104))) : va_W)[104]? = some (h + 104, .inr (7, [.ref (h + 104 + 1), .ref (h + 104 + 12), .ref (h + 104 + 25), .ref (h + 104 + 42), .ref (h + 104 + 49), .int 0, .int 0, .int 0, .int 0, .int 0, .int 0, .int 0, .int 0, .int 0])) := (show ((((SW X (h + 2) ++ SW X (h + 53)) ++ SW X (h + 104))) : va_W)[102]? = some (h + 104, .inr (7, [.ref (h + 104 + 1), .ref (h + 104 + 12), .ref (h + 104 + 25), .ref (h + 104 + 42), .ref (h + 104 + 49), .int 0, .int 0, .int 0, .int 0, .int 0, .int 0, .int 0, .int 0, .int 0])) from last0 (by simp [SW_len]) SW_0)
theorem nSW3 (X : bkX) (h : Nat) (x y : Nat × va_E) : ((x :: y :: (((SW X (h + 2) ++ SW X (h + 53)) ++ SW X (h + 104)) ++ SW X (h + 155))) : va_W)[155]? = some (h + 155, .inr (7, [.ref (h + 155 + 1), .ref (h + 155 + 12), .ref (h + 155 + 25), .ref (h + 155 + 42), .ref (h + 155 + 49), .int 0, .int 0, .int 0, .int 0, .int 0, .int 0, .int 0, .int 0, .int 0])) := (show (((((SW X (h + 2) ++ SW X (h + 53)) ++ SW X (h + 104)) ++ SW X (h + 155))) : va_W)[153]? = some (h + 155, .inr (7, [.ref (h + 155 + 1), .ref (h + 155 + 12), .ref (h + 155 + 25), .ref (h + 155 + 42), .ref (h + 155 + 49), .int 0, .int 0, .int 0, .int 0, .int 0, .int 0, .int 0, .int 0, .int 0])) from last0 (by simp [SW_len]) SW_0)
def HiW (X : bkX) (h : Nat) : va_W := ((h, .inr (2, [.ref (h + 1), .int 0, .int 0])) :: (h + 1, .inl (xQ X, 4, .inr (.inr (.inr (.inr (va_up (va_up (va_up (va_up (fun _ => none) 0 (some (h + 2))) 1 (some (h + 53))) 2 (some (h + 104))) 3 (some (h + 155)))))))) :: (((SW X (h + 2) ++ SW X (h + 53)) ++ SW X (h + 104)) ++ SW X (h + 155)))
set_option maxHeartbeats 4000000 in
set_option maxRecDepth 100000 in
theorem kC_X2 (l : Launch) {X : bkX} (h : Nat) : cN l yX2_init wsX2_init ({ frames := 4, cells := 205, slots := 1264, locals := 73 } : Room) X [.ref h] h (.inr (2, [.null, .int 0, .int 0])) 205 (HiW X h) 205 1264 := by
  refine Met.ofW (cc := cX2_init) (maxL := 2) (ret := none) (by decide) rfl ?_
  intro p e s m args below meth c s₁ B hml hv
  obtain ⟨ha, hz, hP, hK⟩ := hv
  have hx := B.exec
  have hb := B.bytes
  have hr := B.returns
  have hts := atoms_spec (ws := wsX2_init) B.pre
  have hown : s.vm.findClass RX2 = some m.cls := findClass_of_methodNamed B.named
  have hlocks := B.notSynchronized
  have hin : meth.name = "<init>" := (name_of_methodNamed B.named B.method).1
  have hS : va_S (nA h) s.heap s.heap [] := va_S.rf
  have hA : ∀ q : Nat, s.heap.size ≤ q → nA h q := fun q hq => by show h ≤ q; omega
  have hl := lv_entry ([.ref h]) (n := 2) (Nat.le_of_ble_eq_true rfl)
  refine W.eq ((congrArg (fun z => entryFrame m z 2) ha).trans (lg_entry_eq m _ 2)) ?_
  generalize (lg_sl ([.ref h]) ++ List.replicate (2 - (lg_sl ([.ref h])).length) Slot.unset).toArray = ls at hl ⊢
  have hl : lv_has ls 2 [(0, .ref h)] := hl
  have hD : va_D (nA h) [(h, .inr (2, [.null, .int 0, .int 0]))] := nD1 (Nat.le_refl h)
  refine lv_aload_n hx hb dX2_init_0 rfl (lv_at hl 0 rfl) ?_
  refine W.objInit hx hb hown (hts (.methodLink RX2 3 objectInit) (by decide +kernel)) (hts (.instanceMethod objectInit) (by decide +kernel)) (hts (.code objectInit ⟨#[0xb1]⟩ 1 none) (by decide +kernel)) rfl (by rw [hml]; exact hl.1) rfl dX2_init_1 (Nat.le_of_ble_eq_true rfl) (Nat.le_of_ble_eq_true rfl) ?_
  refine W.eq (g2 := F0 m 4 ls []) rfl ?_
  refine lv_aload_n hx hb dX2_init_4 rfl (lv_at hl 0 rfl) ?_
  refine lv_iconst (v := nI 4) hx hb dX2_init_5 (by decide) ?_
  obtain ⟨kA, comp, k1, k2, k3, k4⟩ := (hK.1.2 1 _ rfl).2
  refine n_newq (C := "BakeTurns$State") (cA := xQ X) (N' := 4) (z := h + 1) hx hb hown (hts (.classLink RX2 9 RX7) (by decide +kernel)) hK.2.1 k4 hP hD hS hA hz (by decide) (by decide) (Nat.le_of_ble_eq_true rfl) (Nat.le_of_ble_eq_true rfl) (Nat.le_of_ble_eq_true rfl) dX2_init_6 (fun H hP hD hS hz => ?_)
  refine n_putF (ws := [(h, .inr (2, [.null, .int 0, .int 0])), (h + 1, .inl (xQ X, 4, .inr (.inr (.inr (.inr (fun _ => none))))))]) (C := RX2) (T := TX2) (N := 3) (ty := .array (.object "BakeTurns$State")) (fs := [.null, .int 0, .int 0]) hx hb hts (show ∀ w ∈ wsX20, w ∈ wsX2_init from iC2_2) tyX2 tyX2_ok nmX2 hown hK hP hD hS 0 rfl rfl 0 (by decide) (hts (.fieldLink RX2 11 (TX2 0).1 (TX2 0).2.1 (TX2 0).2.2.1) (by decide +kernel)) rfl hin rfl (by decide +kernel) rfl rfl (Nat.le_of_ble_eq_true rfl) dX2_init_9 (fun H locs hP hD hS hz2 => ?_)
  have hP : va_P (xD X) vwCl ([(h, .inr (2, [.ref (h + 1), .int 0, .int 0])), (h + 1, .inl (xQ X, 4, .inr (.inr (.inr (.inr (fun _ => none))))))]) H := hP
  have hD : va_D (nA h) ([(h, .inr (2, [.ref (h + 1), .int 0, .int 0])), (h + 1, .inl (xQ X, 4, .inr (.inr (.inr (.inr (fun _ => none))))))]) := hD
  have hz : H.size = h + 2 := by omega
  refine lv_iconst (v := nI 0) hx hb dX2_init_12 (by decide) ?_
  refine lv_istore_n (lv' := [(1, .int (nI 0)), (0, .ref h)]) hx hb dX2_init_13 rfl hl (by decide) rfl (fun ls hl => ?_)
  refine lv_iload_n hx hb dX2_init_14 rfl (lv_at hl 0 rfl) ?_
  refine lv_aload_n hx hb dX2_init_15 rfl (lv_at hl 1 rfl) ?_
  refine va_get (C := RX2) (T := TX2) (N := 3) (ci := 2) (fs := [.ref (h + 1), .int 0, .int 0]) (v := .ref (h + 1)) hx hb hts (show ∀ w ∈ wsX20, w ∈ wsX2_init from iC2_2) hown hK.1 hP 0 rfl rfl 0 (by decide) (hts (.fieldLink RX2 11 (TX2 0).1 (TX2 0).2.1 (TX2 0).2.2.1) (by decide +kernel)) (fun _ h => h) rfl dX2_init_16 ?_
  refine va_alen (x := (4, .inr (.inr (.inr (.inr (fun _ => none)))))) (v := nI 4) hx hb hK.1 hP 1 1 rfl rfl rfl dX2_init_19 ?_
  refine lv_icmp_ge (tgt := 42) hx hb dX2_init_20 (by decide) (fun c1 => absurd c1 (by decide)) (fun _ => ?_)
  refine lv_aload_n hx hb dX2_init_23 rfl (lv_at hl 1 rfl) ?_
  refine va_get (C := RX2) (T := TX2) (N := 3) (ci := 2) (fs := [.ref (h + 1), .int 0, .int 0]) (v := .ref (h + 1)) hx hb hts (show ∀ w ∈ wsX20, w ∈ wsX2_init from iC2_2) hown hK.1 hP 0 rfl rfl 0 (by decide) (hts (.fieldLink RX2 11 (TX2 0).1 (TX2 0).2.1 (TX2 0).2.2.1) (by decide +kernel)) (fun _ h => h) rfl dX2_init_24 ?_
  refine lv_iload_n hx hb dX2_init_27 rfl (lv_at hl 0 rfl) ?_
  refine n_new (ci := 7) (C := RX7) (T := TX7) (N := 14) (fs := [.null, .null, .null, .null, .null, .int 0, .int 0, .int 0, .int 0, .int 0, .int 0, .int 0, .int 0, .int 0]) (z := h + 2) hx hb hts (show ∀ w ∈ wsX70, w ∈ wsX2_init from iC2_7) tyX7 tyX7_ok hown (hts (.classLink RX2 9 RX7) (by decide +kernel)) (hts (.instantiable RX7 14) (by decide +kernel)) (hts (.initialized RX7) (by decide +kernel)) hK hP hD hS hA hz rfl (fun j hj => by rcases (show j = 0 ∨ j = 1 ∨ j = 2 ∨ j = 3 ∨ j = 4 ∨ j = 5 ∨ j = 6 ∨ j = 7 ∨ j = 8 ∨ j = 9 ∨ j = 10 ∨ j = 11 ∨ j = 12 ∨ j = 13 by omega) with rfl | rfl | rfl | rfl | rfl | rfl | rfl | rfl | rfl | rfl | rfl | rfl | rfl | rfl <;> rfl) (Nat.le_of_ble_eq_true rfl) (Nat.le_of_ble_eq_true rfl) dX2_init_28 (fun H hP hD hS hz => ?_)
  refine lv_dup hx hb dX2_init_31 rfl ?_
  refine n_callN (ws := [(h, .inr (2, [.ref (h + 1), .int 0, .int 0])), (h + 1, .inl (xQ X, 4, .inr (.inr (.inr (.inr (fun _ => none))))))]) (h := h + 2) (e0 := .inr (7, [.null, .null, .null, .null, .null, .int 0, .int 0, .int 0, .int 0, .int 0, .int 0, .int 0, .int 0, .int 0])) (As := []) (rest := [.ref (h + 2), .int (nI 0), .ref (h + 1)]) ⟨hx, hb, hml, hown, hts⟩ (kC_X7 l (h + 2)) (cwN 0 hts gX2_init_X7_init_n17 rfl rfl rfl (hts (.initialized RX7) (by decide +kernel)) hK.2.2.2.2.2.1 (hts (.instanceMethod yX7_init) (by decide +kernel)) rfl (by decide +kernel) ⟨Nat.le_of_ble_eq_true rfl, Nat.le_of_ble_eq_true rfl⟩) hK hP hD hS hA hz rfl hl.1 rfl (Nat.le_of_ble_eq_true rfl) dX2_init_32 ⟨Nat.le_of_ble_eq_true rfl, Nat.le_of_ble_eq_true rfl⟩ (fun H locs hP hD hS hz => ?_)
  rw [List.cons_append, List.cons_append, List.nil_append] at hP hD
  refine n_astq (ws := ((h, .inr (2, [.ref (h + 1), .int 0, .int 0])) :: (h + 1, .inl (xQ X, 4, .inr (.inr (.inr (.inr (fun _ => none)))))) :: SW X (h + 2))) (n := 4) (f := (fun _ => none)) hx hb hK hP hD hS 1 2 rfl (nSW0 X h _ _) (vp_in_nI (by decide) (by decide)) dX2_init_35 (fun H locs hP hD hS hz2 => ?_)
  rw [List.set_cons_succ, List.set_cons_zero, nI_clamp (n := 0) (by decide)] at hP hD
  have hP : va_P (xD X) vwCl (((h, .inr (2, [.ref (h + 1), .int 0, .int 0])) :: (h + 1, .inl (xQ X, 4, .inr (.inr (.inr (.inr (va_up (fun _ => none) 0 (some (h + 2)))))))) :: SW X (h + 2))) H := hP
  have hD : va_D (nA h) (((h, .inr (2, [.ref (h + 1), .int 0, .int 0])) :: (h + 1, .inl (xQ X, 4, .inr (.inr (.inr (.inr (va_up (fun _ => none) 0 (some (h + 2)))))))) :: SW X (h + 2))) := hD
  have hz : H.size = h + 53 := by omega
  refine lv_iinc (v := nI 1) (lv' := [(1, .int (nI 1)), (0, .ref h)]) hx hb dX2_init_36 hl (k := 0) rfl (nI_1 0) (by decide) rfl (fun ls hl => ?_)
  refine lv_goto (tgt := 14) hx hb dX2_init_39 (by decide) ?_
  refine lv_iload_n hx hb dX2_init_14 rfl (lv_at hl 0 rfl) ?_
  refine lv_aload_n hx hb dX2_init_15 rfl (lv_at hl 1 rfl) ?_
  refine va_get (C := RX2) (T := TX2) (N := 3) (ci := 2) (fs := [.ref (h + 1), .int 0, .int 0]) (v := .ref (h + 1)) hx hb hts (show ∀ w ∈ wsX20, w ∈ wsX2_init from iC2_2) hown hK.1 hP 0 rfl rfl 0 (by decide) (hts (.fieldLink RX2 11 (TX2 0).1 (TX2 0).2.1 (TX2 0).2.2.1) (by decide +kernel)) (fun _ h => h) rfl dX2_init_16 ?_
  refine va_alen (x := (4, .inr (.inr (.inr (.inr (va_up (fun _ => none) 0 (some (h + 2)))))))) (v := nI 4) hx hb hK.1 hP 1 1 rfl rfl rfl dX2_init_19 ?_
  refine lv_icmp_ge (tgt := 42) hx hb dX2_init_20 (by decide) (fun c1 => absurd c1 (by decide)) (fun _ => ?_)
  refine lv_aload_n hx hb dX2_init_23 rfl (lv_at hl 1 rfl) ?_
  refine va_get (C := RX2) (T := TX2) (N := 3) (ci := 2) (fs := [.ref (h + 1), .int 0, .int 0]) (v := .ref (h + 1)) hx hb hts (show ∀ w ∈ wsX20, w ∈ wsX2_init from iC2_2) hown hK.1 hP 0 rfl rfl 0 (by decide) (hts (.fieldLink RX2 11 (TX2 0).1 (TX2 0).2.1 (TX2 0).2.2.1) (by decide +kernel)) (fun _ h => h) rfl dX2_init_24 ?_
  refine lv_iload_n hx hb dX2_init_27 rfl (lv_at hl 0 rfl) ?_
  refine n_new (ci := 7) (C := RX7) (T := TX7) (N := 14) (fs := [.null, .null, .null, .null, .null, .int 0, .int 0, .int 0, .int 0, .int 0, .int 0, .int 0, .int 0, .int 0]) (z := h + 53) hx hb hts (show ∀ w ∈ wsX70, w ∈ wsX2_init from iC2_7) tyX7 tyX7_ok hown (hts (.classLink RX2 9 RX7) (by decide +kernel)) (hts (.instantiable RX7 14) (by decide +kernel)) (hts (.initialized RX7) (by decide +kernel)) hK hP hD hS hA hz rfl (fun j hj => by rcases (show j = 0 ∨ j = 1 ∨ j = 2 ∨ j = 3 ∨ j = 4 ∨ j = 5 ∨ j = 6 ∨ j = 7 ∨ j = 8 ∨ j = 9 ∨ j = 10 ∨ j = 11 ∨ j = 12 ∨ j = 13 by omega) with rfl | rfl | rfl | rfl | rfl | rfl | rfl | rfl | rfl | rfl | rfl | rfl | rfl | rfl <;> rfl) (Nat.le_of_ble_eq_true rfl) (Nat.le_of_ble_eq_true rfl) dX2_init_28 (fun H hP hD hS hz => ?_)
  refine lv_dup hx hb dX2_init_31 rfl ?_
  refine n_callN (ws := ((h, .inr (2, [.ref (h + 1), .int 0, .int 0])) :: (h + 1, .inl (xQ X, 4, .inr (.inr (.inr (.inr (va_up (fun _ => none) 0 (some (h + 2)))))))) :: SW X (h + 2))) (h := h + 53) (e0 := .inr (7, [.null, .null, .null, .null, .null, .int 0, .int 0, .int 0, .int 0, .int 0, .int 0, .int 0, .int 0, .int 0])) (As := []) (rest := [.ref (h + 53), .int (nI 1), .ref (h + 1)]) ⟨hx, hb, hml, hown, hts⟩ (kC_X7 l (h + 53)) (cwN 0 hts gX2_init_X7_init_n17 rfl rfl rfl (hts (.initialized RX7) (by decide +kernel)) hK.2.2.2.2.2.1 (hts (.instanceMethod yX7_init) (by decide +kernel)) rfl (by decide +kernel) ⟨Nat.le_of_ble_eq_true rfl, Nat.le_of_ble_eq_true rfl⟩) hK hP hD hS hA hz rfl hl.1 rfl (Nat.le_of_ble_eq_true rfl) dX2_init_32 ⟨Nat.le_of_ble_eq_true rfl, Nat.le_of_ble_eq_true rfl⟩ (fun H locs hP hD hS hz => ?_)
  rw [List.cons_append, List.cons_append] at hP hD
  refine n_astq (ws := ((h, .inr (2, [.ref (h + 1), .int 0, .int 0])) :: (h + 1, .inl (xQ X, 4, .inr (.inr (.inr (.inr (va_up (fun _ => none) 0 (some (h + 2)))))))) :: (SW X (h + 2) ++ SW X (h + 53)))) (n := 4) (f := (va_up (fun _ => none) 0 (some (h + 2)))) hx hb hK hP hD hS 1 53 rfl (nSW1 X h _ _) (vp_in_nI (by decide) (by decide)) dX2_init_35 (fun H locs hP hD hS hz2 => ?_)
  rw [List.set_cons_succ, List.set_cons_zero, nI_clamp (n := 1) (by decide)] at hP hD
  have hP : va_P (xD X) vwCl (((h, .inr (2, [.ref (h + 1), .int 0, .int 0])) :: (h + 1, .inl (xQ X, 4, .inr (.inr (.inr (.inr (va_up (va_up (fun _ => none) 0 (some (h + 2))) 1 (some (h + 53)))))))) :: (SW X (h + 2) ++ SW X (h + 53)))) H := hP
  have hD : va_D (nA h) (((h, .inr (2, [.ref (h + 1), .int 0, .int 0])) :: (h + 1, .inl (xQ X, 4, .inr (.inr (.inr (.inr (va_up (va_up (fun _ => none) 0 (some (h + 2))) 1 (some (h + 53)))))))) :: (SW X (h + 2) ++ SW X (h + 53)))) := hD
  have hz : H.size = h + 104 := by omega
  refine lv_iinc (v := nI 2) (lv' := [(1, .int (nI 2)), (0, .ref h)]) hx hb dX2_init_36 hl (k := 0) rfl (nI_1 1) (by decide) rfl (fun ls hl => ?_)
  refine lv_goto (tgt := 14) hx hb dX2_init_39 (by decide) ?_
  refine lv_iload_n hx hb dX2_init_14 rfl (lv_at hl 0 rfl) ?_
  refine lv_aload_n hx hb dX2_init_15 rfl (lv_at hl 1 rfl) ?_
  refine va_get (C := RX2) (T := TX2) (N := 3) (ci := 2) (fs := [.ref (h + 1), .int 0, .int 0]) (v := .ref (h + 1)) hx hb hts (show ∀ w ∈ wsX20, w ∈ wsX2_init from iC2_2) hown hK.1 hP 0 rfl rfl 0 (by decide) (hts (.fieldLink RX2 11 (TX2 0).1 (TX2 0).2.1 (TX2 0).2.2.1) (by decide +kernel)) (fun _ h => h) rfl dX2_init_16 ?_
  refine va_alen (x := (4, .inr (.inr (.inr (.inr (va_up (va_up (fun _ => none) 0 (some (h + 2))) 1 (some (h + 53)))))))) (v := nI 4) hx hb hK.1 hP 1 1 rfl rfl rfl dX2_init_19 ?_
  refine lv_icmp_ge (tgt := 42) hx hb dX2_init_20 (by decide) (fun c1 => absurd c1 (by decide)) (fun _ => ?_)
  refine lv_aload_n hx hb dX2_init_23 rfl (lv_at hl 1 rfl) ?_
  refine va_get (C := RX2) (T := TX2) (N := 3) (ci := 2) (fs := [.ref (h + 1), .int 0, .int 0]) (v := .ref (h + 1)) hx hb hts (show ∀ w ∈ wsX20, w ∈ wsX2_init from iC2_2) hown hK.1 hP 0 rfl rfl 0 (by decide) (hts (.fieldLink RX2 11 (TX2 0).1 (TX2 0).2.1 (TX2 0).2.2.1) (by decide +kernel)) (fun _ h => h) rfl dX2_init_24 ?_
  refine lv_iload_n hx hb dX2_init_27 rfl (lv_at hl 0 rfl) ?_
  refine n_new (ci := 7) (C := RX7) (T := TX7) (N := 14) (fs := [.null, .null, .null, .null, .null, .int 0, .int 0, .int 0, .int 0, .int 0, .int 0, .int 0, .int 0, .int 0]) (z := h + 104) hx hb hts (show ∀ w ∈ wsX70, w ∈ wsX2_init from iC2_7) tyX7 tyX7_ok hown (hts (.classLink RX2 9 RX7) (by decide +kernel)) (hts (.instantiable RX7 14) (by decide +kernel)) (hts (.initialized RX7) (by decide +kernel)) hK hP hD hS hA hz rfl (fun j hj => by rcases (show j = 0 ∨ j = 1 ∨ j = 2 ∨ j = 3 ∨ j = 4 ∨ j = 5 ∨ j = 6 ∨ j = 7 ∨ j = 8 ∨ j = 9 ∨ j = 10 ∨ j = 11 ∨ j = 12 ∨ j = 13 by omega) with rfl | rfl | rfl | rfl | rfl | rfl | rfl | rfl | rfl | rfl | rfl | rfl | rfl | rfl <;> rfl) (Nat.le_of_ble_eq_true rfl) (Nat.le_of_ble_eq_true rfl) dX2_init_28 (fun H hP hD hS hz => ?_)
  refine lv_dup hx hb dX2_init_31 rfl ?_
  refine n_callN (ws := ((h, .inr (2, [.ref (h + 1), .int 0, .int 0])) :: (h + 1, .inl (xQ X, 4, .inr (.inr (.inr (.inr (va_up (va_up (fun _ => none) 0 (some (h + 2))) 1 (some (h + 53)))))))) :: (SW X (h + 2) ++ SW X (h + 53)))) (h := h + 104) (e0 := .inr (7, [.null, .null, .null, .null, .null, .int 0, .int 0, .int 0, .int 0, .int 0, .int 0, .int 0, .int 0, .int 0])) (As := []) (rest := [.ref (h + 104), .int (nI 2), .ref (h + 1)]) ⟨hx, hb, hml, hown, hts⟩ (kC_X7 l (h + 104)) (cwN 0 hts gX2_init_X7_init_n17 rfl rfl rfl (hts (.initialized RX7) (by decide +kernel)) hK.2.2.2.2.2.1 (hts (.instanceMethod yX7_init) (by decide +kernel)) rfl (by decide +kernel) ⟨Nat.le_of_ble_eq_true rfl, Nat.le_of_ble_eq_true rfl⟩) hK hP hD hS hA hz rfl hl.1 rfl (Nat.le_of_ble_eq_true rfl) dX2_init_32 ⟨Nat.le_of_ble_eq_true rfl, Nat.le_of_ble_eq_true rfl⟩ (fun H locs hP hD hS hz => ?_)
  rw [List.cons_append, List.cons_append] at hP hD
  refine n_astq (ws := ((h, .inr (2, [.ref (h + 1), .int 0, .int 0])) :: (h + 1, .inl (xQ X, 4, .inr (.inr (.inr (.inr (va_up (va_up (fun _ => none) 0 (some (h + 2))) 1 (some (h + 53)))))))) :: ((SW X (h + 2) ++ SW X (h + 53)) ++ SW X (h + 104)))) (n := 4) (f := (va_up (va_up (fun _ => none) 0 (some (h + 2))) 1 (some (h + 53)))) hx hb hK hP hD hS 1 104 rfl (nSW2 X h _ _) (vp_in_nI (by decide) (by decide)) dX2_init_35 (fun H locs hP hD hS hz2 => ?_)
  rw [List.set_cons_succ, List.set_cons_zero, nI_clamp (n := 2) (by decide)] at hP hD
  have hP : va_P (xD X) vwCl (((h, .inr (2, [.ref (h + 1), .int 0, .int 0])) :: (h + 1, .inl (xQ X, 4, .inr (.inr (.inr (.inr (va_up (va_up (va_up (fun _ => none) 0 (some (h + 2))) 1 (some (h + 53))) 2 (some (h + 104)))))))) :: ((SW X (h + 2) ++ SW X (h + 53)) ++ SW X (h + 104)))) H := hP
  have hD : va_D (nA h) (((h, .inr (2, [.ref (h + 1), .int 0, .int 0])) :: (h + 1, .inl (xQ X, 4, .inr (.inr (.inr (.inr (va_up (va_up (va_up (fun _ => none) 0 (some (h + 2))) 1 (some (h + 53))) 2 (some (h + 104)))))))) :: ((SW X (h + 2) ++ SW X (h + 53)) ++ SW X (h + 104)))) := hD
  have hz : H.size = h + 155 := by omega
  refine lv_iinc (v := nI 3) (lv' := [(1, .int (nI 3)), (0, .ref h)]) hx hb dX2_init_36 hl (k := 0) rfl (nI_1 2) (by decide) rfl (fun ls hl => ?_)
  refine lv_goto (tgt := 14) hx hb dX2_init_39 (by decide) ?_
  refine lv_iload_n hx hb dX2_init_14 rfl (lv_at hl 0 rfl) ?_
  refine lv_aload_n hx hb dX2_init_15 rfl (lv_at hl 1 rfl) ?_
  refine va_get (C := RX2) (T := TX2) (N := 3) (ci := 2) (fs := [.ref (h + 1), .int 0, .int 0]) (v := .ref (h + 1)) hx hb hts (show ∀ w ∈ wsX20, w ∈ wsX2_init from iC2_2) hown hK.1 hP 0 rfl rfl 0 (by decide) (hts (.fieldLink RX2 11 (TX2 0).1 (TX2 0).2.1 (TX2 0).2.2.1) (by decide +kernel)) (fun _ h => h) rfl dX2_init_16 ?_
  refine va_alen (x := (4, .inr (.inr (.inr (.inr (va_up (va_up (va_up (fun _ => none) 0 (some (h + 2))) 1 (some (h + 53))) 2 (some (h + 104)))))))) (v := nI 4) hx hb hK.1 hP 1 1 rfl rfl rfl dX2_init_19 ?_
  refine lv_icmp_ge (tgt := 42) hx hb dX2_init_20 (by decide) (fun c1 => absurd c1 (by decide)) (fun _ => ?_)
  refine lv_aload_n hx hb dX2_init_23 rfl (lv_at hl 1 rfl) ?_
  refine va_get (C := RX2) (T := TX2) (N := 3) (ci := 2) (fs := [.ref (h + 1), .int 0, .int 0]) (v := .ref (h + 1)) hx hb hts (show ∀ w ∈ wsX20, w ∈ wsX2_init from iC2_2) hown hK.1 hP 0 rfl rfl 0 (by decide) (hts (.fieldLink RX2 11 (TX2 0).1 (TX2 0).2.1 (TX2 0).2.2.1) (by decide +kernel)) (fun _ h => h) rfl dX2_init_24 ?_
  refine lv_iload_n hx hb dX2_init_27 rfl (lv_at hl 0 rfl) ?_
  refine n_new (ci := 7) (C := RX7) (T := TX7) (N := 14) (fs := [.null, .null, .null, .null, .null, .int 0, .int 0, .int 0, .int 0, .int 0, .int 0, .int 0, .int 0, .int 0]) (z := h + 155) hx hb hts (show ∀ w ∈ wsX70, w ∈ wsX2_init from iC2_7) tyX7 tyX7_ok hown (hts (.classLink RX2 9 RX7) (by decide +kernel)) (hts (.instantiable RX7 14) (by decide +kernel)) (hts (.initialized RX7) (by decide +kernel)) hK hP hD hS hA hz rfl (fun j hj => by rcases (show j = 0 ∨ j = 1 ∨ j = 2 ∨ j = 3 ∨ j = 4 ∨ j = 5 ∨ j = 6 ∨ j = 7 ∨ j = 8 ∨ j = 9 ∨ j = 10 ∨ j = 11 ∨ j = 12 ∨ j = 13 by omega) with rfl | rfl | rfl | rfl | rfl | rfl | rfl | rfl | rfl | rfl | rfl | rfl | rfl | rfl <;> rfl) (Nat.le_of_ble_eq_true rfl) (Nat.le_of_ble_eq_true rfl) dX2_init_28 (fun H hP hD hS hz => ?_)
  refine lv_dup hx hb dX2_init_31 rfl ?_
  refine n_callN (ws := ((h, .inr (2, [.ref (h + 1), .int 0, .int 0])) :: (h + 1, .inl (xQ X, 4, .inr (.inr (.inr (.inr (va_up (va_up (va_up (fun _ => none) 0 (some (h + 2))) 1 (some (h + 53))) 2 (some (h + 104)))))))) :: ((SW X (h + 2) ++ SW X (h + 53)) ++ SW X (h + 104)))) (h := h + 155) (e0 := .inr (7, [.null, .null, .null, .null, .null, .int 0, .int 0, .int 0, .int 0, .int 0, .int 0, .int 0, .int 0, .int 0])) (As := []) (rest := [.ref (h + 155), .int (nI 3), .ref (h + 1)]) ⟨hx, hb, hml, hown, hts⟩ (kC_X7 l (h + 155)) (cwN 0 hts gX2_init_X7_init_n17 rfl rfl rfl (hts (.initialized RX7) (by decide +kernel)) hK.2.2.2.2.2.1 (hts (.instanceMethod yX7_init) (by decide +kernel)) rfl (by decide +kernel) ⟨Nat.le_of_ble_eq_true rfl, Nat.le_of_ble_eq_true rfl⟩) hK hP hD hS hA hz rfl hl.1 rfl (Nat.le_of_ble_eq_true rfl) dX2_init_32 ⟨Nat.le_of_ble_eq_true rfl, Nat.le_of_ble_eq_true rfl⟩ (fun H locs hP hD hS hz => ?_)
  rw [List.cons_append, List.cons_append] at hP hD
  refine n_astq (ws := ((h, .inr (2, [.ref (h + 1), .int 0, .int 0])) :: (h + 1, .inl (xQ X, 4, .inr (.inr (.inr (.inr (va_up (va_up (va_up (fun _ => none) 0 (some (h + 2))) 1 (some (h + 53))) 2 (some (h + 104)))))))) :: (((SW X (h + 2) ++ SW X (h + 53)) ++ SW X (h + 104)) ++ SW X (h + 155)))) (n := 4) (f := (va_up (va_up (va_up (fun _ => none) 0 (some (h + 2))) 1 (some (h + 53))) 2 (some (h + 104)))) hx hb hK hP hD hS 1 155 rfl (nSW3 X h _ _) (vp_in_nI (by decide) (by decide)) dX2_init_35 (fun H locs hP hD hS hz2 => ?_)
  rw [List.set_cons_succ, List.set_cons_zero, nI_clamp (n := 3) (by decide)] at hP hD
  have hP : va_P (xD X) vwCl (((h, .inr (2, [.ref (h + 1), .int 0, .int 0])) :: (h + 1, .inl (xQ X, 4, .inr (.inr (.inr (.inr (va_up (va_up (va_up (va_up (fun _ => none) 0 (some (h + 2))) 1 (some (h + 53))) 2 (some (h + 104))) 3 (some (h + 155)))))))) :: (((SW X (h + 2) ++ SW X (h + 53)) ++ SW X (h + 104)) ++ SW X (h + 155)))) H := hP
  have hD : va_D (nA h) (((h, .inr (2, [.ref (h + 1), .int 0, .int 0])) :: (h + 1, .inl (xQ X, 4, .inr (.inr (.inr (.inr (va_up (va_up (va_up (va_up (fun _ => none) 0 (some (h + 2))) 1 (some (h + 53))) 2 (some (h + 104))) 3 (some (h + 155)))))))) :: (((SW X (h + 2) ++ SW X (h + 53)) ++ SW X (h + 104)) ++ SW X (h + 155)))) := hD
  have hz : H.size = h + 206 := by omega
  refine lv_iinc (v := nI 4) (lv' := [(1, .int (nI 4)), (0, .ref h)]) hx hb dX2_init_36 hl (k := 0) rfl (nI_1 3) (by decide) rfl (fun ls hl => ?_)
  refine lv_goto (tgt := 14) hx hb dX2_init_39 (by decide) ?_
  refine lv_iload_n hx hb dX2_init_14 rfl (lv_at hl 0 rfl) ?_
  refine lv_aload_n hx hb dX2_init_15 rfl (lv_at hl 1 rfl) ?_
  refine va_get (C := RX2) (T := TX2) (N := 3) (ci := 2) (fs := [.ref (h + 1), .int 0, .int 0]) (v := .ref (h + 1)) hx hb hts (show ∀ w ∈ wsX20, w ∈ wsX2_init from iC2_2) hown hK.1 hP 0 rfl rfl 0 (by decide) (hts (.fieldLink RX2 11 (TX2 0).1 (TX2 0).2.1 (TX2 0).2.2.1) (by decide +kernel)) (fun _ h => h) rfl dX2_init_16 ?_
  refine va_alen (x := (4, .inr (.inr (.inr (.inr (va_up (va_up (va_up (va_up (fun _ => none) 0 (some (h + 2))) 1 (some (h + 53))) 2 (some (h + 104))) 3 (some (h + 155)))))))) (v := nI 4) hx hb hK.1 hP 1 1 rfl rfl rfl dX2_init_19 ?_
  refine lv_icmp_ge (tgt := 42) hx hb dX2_init_20 (by decide) (fun _ => ?_) (fun c1 => absurd (by decide) c1)
  refine W.widen (k := 205) (n := 1264) (Nat.le_of_ble_eq_true rfl) (Nat.le_of_ble_eq_true rfl) ?_
  exact n_vret hx hb hr hlocks hP hD hS hz dX2_init_42
def BtW (X : bkX) (h : Nat) : va_W := ((h, .inr (8, [.ref (h + 1), .ref (h + 52), .ref (h + 103), .ref (h + 309)])) :: (((SW X (h + 1) ++ SW X (h + 52)) ++ HiW X (h + 103)) ++ CmW X (h + 309)))
set_option maxHeartbeats 4000000 in
set_option maxRecDepth 100000 in
theorem kC_X8 (l : Launch) {X : bkX} (h : Nat) : cN l yX8_init wsX8_init ({ frames := 5, cells := 313, slots := 2060, locals := 94 } : Room) X [.ref h] h (.inr (8, [.null, .null, .null, .null])) 313 (BtW X h) 313 2060 := by
  refine Met.ofW (cc := cX8_init) (maxL := 1) (ret := none) (by decide) rfl ?_
  intro p e s m args below meth c s₁ B hml hv
  obtain ⟨ha, hz, hP, hK⟩ := hv
  have hx := B.exec
  have hb := B.bytes
  have hr := B.returns
  have hts := atoms_spec (ws := wsX8_init) B.pre
  have hown : s.vm.findClass RX8 = some m.cls := findClass_of_methodNamed B.named
  have hlocks := B.notSynchronized
  have hin : meth.name = "<init>" := (name_of_methodNamed B.named B.method).1
  have hS : va_S (nA h) s.heap s.heap [] := va_S.rf
  have hA : ∀ q : Nat, s.heap.size ≤ q → nA h q := fun q hq => by show h ≤ q; omega
  have hl := lv_entry ([.ref h]) (n := 1) (Nat.le_of_ble_eq_true rfl)
  refine W.eq ((congrArg (fun z => entryFrame m z 1) ha).trans (lg_entry_eq m _ 1)) ?_
  generalize (lg_sl ([.ref h]) ++ List.replicate (1 - (lg_sl ([.ref h])).length) Slot.unset).toArray = ls at hl ⊢
  have hl : lv_has ls 1 [(0, .ref h)] := hl
  have hD : va_D (nA h) [(h, .inr (8, [.null, .null, .null, .null]))] := nD1 (Nat.le_refl h)
  refine lv_aload_n hx hb dX8_init_0 rfl (lv_at hl 0 rfl) ?_
  refine W.objInit hx hb hown (hts (.methodLink RX8 1 objectInit) (by decide +kernel)) (hts (.instanceMethod objectInit) (by decide +kernel)) (hts (.code objectInit ⟨#[0xb1]⟩ 1 none) (by decide +kernel)) rfl (by rw [hml]; exact hl.1) rfl dX8_init_1 (Nat.le_of_ble_eq_true rfl) (Nat.le_of_ble_eq_true rfl) ?_
  refine W.eq (g2 := F0 m 4 ls []) rfl ?_
  refine lv_aload_n hx hb dX8_init_4 rfl (lv_at hl 0 rfl) ?_
  refine n_new (ci := 7) (C := RX7) (T := TX7) (N := 14) (fs := [.null, .null, .null, .null, .null, .int 0, .int 0, .int 0, .int 0, .int 0, .int 0, .int 0, .int 0, .int 0]) (z := h + 1) hx hb hts (show ∀ w ∈ wsX70, w ∈ wsX8_init from iC8_7) tyX7 tyX7_ok hown (hts (.classLink RX8 7 RX7) (by decide +kernel)) (hts (.instantiable RX7 14) (by decide +kernel)) (hts (.initialized RX7) (by decide +kernel)) hK hP hD hS hA hz rfl (fun j hj => by rcases (show j = 0 ∨ j = 1 ∨ j = 2 ∨ j = 3 ∨ j = 4 ∨ j = 5 ∨ j = 6 ∨ j = 7 ∨ j = 8 ∨ j = 9 ∨ j = 10 ∨ j = 11 ∨ j = 12 ∨ j = 13 by omega) with rfl | rfl | rfl | rfl | rfl | rfl | rfl | rfl | rfl | rfl | rfl | rfl | rfl | rfl <;> rfl) (Nat.le_of_ble_eq_true rfl) (Nat.le_of_ble_eq_true rfl) dX8_init_5 (fun H hP hD hS hz => ?_)
  refine lv_dup hx hb dX8_init_8 rfl ?_
  refine n_callN (ws := [(h, .inr (8, [.null, .null, .null, .null]))]) (h := h + 1) (e0 := .inr (7, [.null, .null, .null, .null, .null, .int 0, .int 0, .int 0, .int 0, .int 0, .int 0, .int 0, .int 0, .int 0])) (As := []) (rest := [.ref (h + 1), .ref h]) ⟨hx, hb, hml, hown, hts⟩ (kC_X7 l (h + 1)) (cwN 0 hts gX8_init_X7_init_n9 rfl rfl rfl (hts (.initialized RX7) (by decide +kernel)) hK.2.2.2.2.2.2.1 (hts (.instanceMethod yX7_init) (by decide +kernel)) rfl (by decide +kernel) ⟨Nat.le_of_ble_eq_true rfl, Nat.le_of_ble_eq_true rfl⟩) hK hP hD hS hA hz rfl hl.1 rfl (Nat.le_of_ble_eq_true rfl) dX8_init_9 ⟨Nat.le_of_ble_eq_true rfl, Nat.le_of_ble_eq_true rfl⟩ (fun H locs hP hD hS hz => ?_)
  rw [List.cons_append, List.nil_append] at hP hD
  refine n_putF (ws := ((h, .inr (8, [.null, .null, .null, .null])) :: SW X (h + 1))) (C := RX8) (T := TX8) (N := 4) (ty := .object "BakeTurns$State") (fs := [.null, .null, .null, .null]) hx hb hts (show ∀ w ∈ wsX80, w ∈ wsX8_init from iC8_8) tyX8 tyX8_ok nmX8 hown hK hP hD hS 0 rfl rfl 0 (by decide) (hts (.fieldLink RX8 10 (TX8 0).1 (TX8 0).2.1 (TX8 0).2.2.1) (by decide +kernel)) rfl hin rfl (by decide +kernel) rfl rfl (Nat.le_of_ble_eq_true rfl) dX8_init_12 (fun H locs hP hD hS hz2 => ?_)
  rw [List.set_cons_zero] at hP hD
  have hP : va_P (xD X) vwCl (((h, .inr (8, [.ref (h + 1), .null, .null, .null])) :: SW X (h + 1))) H := hP
  have hD : va_D (nA h) (((h, .inr (8, [.ref (h + 1), .null, .null, .null])) :: SW X (h + 1))) := hD
  have hz : H.size = h + 52 := hz2.trans hz
  refine lv_aload_n hx hb dX8_init_15 rfl (lv_at hl 0 rfl) ?_
  refine n_new (ci := 7) (C := RX7) (T := TX7) (N := 14) (fs := [.null, .null, .null, .null, .null, .int 0, .int 0, .int 0, .int 0, .int 0, .int 0, .int 0, .int 0, .int 0]) (z := h + 52) hx hb hts (show ∀ w ∈ wsX70, w ∈ wsX8_init from iC8_7) tyX7 tyX7_ok hown (hts (.classLink RX8 7 RX7) (by decide +kernel)) (hts (.instantiable RX7 14) (by decide +kernel)) (hts (.initialized RX7) (by decide +kernel)) hK hP hD hS hA hz rfl (fun j hj => by rcases (show j = 0 ∨ j = 1 ∨ j = 2 ∨ j = 3 ∨ j = 4 ∨ j = 5 ∨ j = 6 ∨ j = 7 ∨ j = 8 ∨ j = 9 ∨ j = 10 ∨ j = 11 ∨ j = 12 ∨ j = 13 by omega) with rfl | rfl | rfl | rfl | rfl | rfl | rfl | rfl | rfl | rfl | rfl | rfl | rfl | rfl <;> rfl) (Nat.le_of_ble_eq_true rfl) (Nat.le_of_ble_eq_true rfl) dX8_init_16 (fun H hP hD hS hz => ?_)
  refine lv_dup hx hb dX8_init_19 rfl ?_
  refine n_callN (ws := ((h, .inr (8, [.ref (h + 1), .null, .null, .null])) :: SW X (h + 1))) (h := h + 52) (e0 := .inr (7, [.null, .null, .null, .null, .null, .int 0, .int 0, .int 0, .int 0, .int 0, .int 0, .int 0, .int 0, .int 0])) (As := []) (rest := [.ref (h + 52), .ref h]) ⟨hx, hb, hml, hown, hts⟩ (kC_X7 l (h + 52)) (cwN 0 hts gX8_init_X7_init_n9 rfl rfl rfl (hts (.initialized RX7) (by decide +kernel)) hK.2.2.2.2.2.2.1 (hts (.instanceMethod yX7_init) (by decide +kernel)) rfl (by decide +kernel) ⟨Nat.le_of_ble_eq_true rfl, Nat.le_of_ble_eq_true rfl⟩) hK hP hD hS hA hz rfl hl.1 rfl (Nat.le_of_ble_eq_true rfl) dX8_init_20 ⟨Nat.le_of_ble_eq_true rfl, Nat.le_of_ble_eq_true rfl⟩ (fun H locs hP hD hS hz => ?_)
  rw [List.cons_append] at hP hD
  refine n_putF (ws := ((h, .inr (8, [.ref (h + 1), .null, .null, .null])) :: (SW X (h + 1) ++ SW X (h + 52)))) (C := RX8) (T := TX8) (N := 4) (ty := .object "BakeTurns$State") (fs := [.ref (h + 1), .null, .null, .null]) hx hb hts (show ∀ w ∈ wsX80, w ∈ wsX8_init from iC8_8) tyX8 tyX8_ok nmX8 hown hK hP hD hS 0 rfl rfl 1 (by decide) (hts (.fieldLink RX8 16 (TX8 1).1 (TX8 1).2.1 (TX8 1).2.2.1) (by decide +kernel)) rfl hin rfl (by decide +kernel) rfl rfl (Nat.le_of_ble_eq_true rfl) dX8_init_23 (fun H locs hP hD hS hz2 => ?_)
  rw [List.set_cons_zero] at hP hD
  have hP : va_P (xD X) vwCl (((h, .inr (8, [.ref (h + 1), .ref (h + 52), .null, .null])) :: (SW X (h + 1) ++ SW X (h + 52)))) H := hP
  have hD : va_D (nA h) (((h, .inr (8, [.ref (h + 1), .ref (h + 52), .null, .null])) :: (SW X (h + 1) ++ SW X (h + 52)))) := hD
  have hz : H.size = h + 103 := hz2.trans hz
  refine lv_aload_n hx hb dX8_init_26 rfl (lv_at hl 0 rfl) ?_
  refine n_new (ci := 2) (C := RX2) (T := TX2) (N := 3) (fs := [.null, .int 0, .int 0]) (z := h + 103) hx hb hts (show ∀ w ∈ wsX20, w ∈ wsX8_init from iC8_2) tyX2 tyX2_ok hown (hts (.classLink RX8 19 RX2) (by decide +kernel)) (hts (.instantiable RX2 3) (by decide +kernel)) (hts (.initialized RX2) (by decide +kernel)) hK hP hD hS hA hz rfl (fun j hj => by rcases (show j = 0 ∨ j = 1 ∨ j = 2 by omega) with rfl | rfl | rfl <;> rfl) (Nat.le_of_ble_eq_true rfl) (Nat.le_of_ble_eq_true rfl) dX8_init_27 (fun H hP hD hS hz => ?_)
  refine lv_dup hx hb dX8_init_30 rfl ?_
  refine n_call (ws := ((h, .inr (8, [.ref (h + 1), .ref (h + 52), .null, .null])) :: (SW X (h + 1) ++ SW X (h + 52)))) (h := h + 103) (e0 := .inr (2, [.null, .int 0, .int 0])) (As := []) (rest := [.ref (h + 103), .ref h]) ⟨hx, hb, hml, hown, hts⟩ (kC_X2 l (h + 103)) (cwI 0 hts gX8_init_X2_init rfl rfl rfl (hts (.initialized RX2) (by decide +kernel)) (hts (.methodLink RX8 21 yX2_init) (by decide +kernel)) (hts (.instanceMethod yX2_init) (by decide +kernel)) rfl (by decide +kernel) ⟨Nat.le_of_ble_eq_true rfl, Nat.le_of_ble_eq_true rfl⟩) hK hP hD hS hA hz rfl hl.1 rfl (Nat.le_of_ble_eq_true rfl) dX8_init_31 ⟨Nat.le_of_ble_eq_true rfl, Nat.le_of_ble_eq_true rfl⟩ (fun H locs hP hD hS hz => ?_)
  rw [List.cons_append] at hP hD
  refine n_putF (ws := ((h, .inr (8, [.ref (h + 1), .ref (h + 52), .null, .null])) :: ((SW X (h + 1) ++ SW X (h + 52)) ++ HiW X (h + 103)))) (C := RX8) (T := TX8) (N := 4) (ty := .object "BakeTurns$History") (fs := [.ref (h + 1), .ref (h + 52), .null, .null]) hx hb hts (show ∀ w ∈ wsX80, w ∈ wsX8_init from iC8_8) tyX8 tyX8_ok nmX8 hown hK hP hD hS 0 rfl rfl 2 (by decide) (hts (.fieldLink RX8 22 (TX8 2).1 (TX8 2).2.1 (TX8 2).2.2.1) (by decide +kernel)) rfl hin rfl (by decide +kernel) rfl rfl (Nat.le_of_ble_eq_true rfl) dX8_init_34 (fun H locs hP hD hS hz2 => ?_)
  rw [List.set_cons_zero] at hP hD
  have hP : va_P (xD X) vwCl (((h, .inr (8, [.ref (h + 1), .ref (h + 52), .ref (h + 103), .null])) :: ((SW X (h + 1) ++ SW X (h + 52)) ++ HiW X (h + 103)))) H := hP
  have hD : va_D (nA h) (((h, .inr (8, [.ref (h + 1), .ref (h + 52), .ref (h + 103), .null])) :: ((SW X (h + 1) ++ SW X (h + 52)) ++ HiW X (h + 103)))) := hD
  have hz : H.size = h + 309 := hz2.trans hz
  refine lv_aload_n hx hb dX8_init_37 rfl (lv_at hl 0 rfl) ?_
  refine n_new (ci := 0) (C := RX0) (T := TX0) (N := 6) (fs := [.null, .null, .int 0, .int 0, .int 0, .int 0]) (z := h + 309) hx hb hts (show ∀ w ∈ wsX00, w ∈ wsX8_init from iC8_0) tyX0 tyX0_ok hown (hts (.classLink RX8 26 RX0) (by decide +kernel)) (hts (.instantiable RX0 6) (by decide +kernel)) (hts (.initialized RX0) (by decide +kernel)) hK hP hD hS hA hz rfl (fun j hj => by rcases (show j = 0 ∨ j = 1 ∨ j = 2 ∨ j = 3 ∨ j = 4 ∨ j = 5 by omega) with rfl | rfl | rfl | rfl | rfl | rfl <;> rfl) (Nat.le_of_ble_eq_true rfl) (Nat.le_of_ble_eq_true rfl) dX8_init_38 (fun H hP hD hS hz => ?_)
  refine lv_dup hx hb dX8_init_41 rfl ?_
  refine n_callN (ws := ((h, .inr (8, [.ref (h + 1), .ref (h + 52), .ref (h + 103), .null])) :: ((SW X (h + 1) ++ SW X (h + 52)) ++ HiW X (h + 103)))) (h := h + 309) (e0 := .inr (0, [.null, .null, .int 0, .int 0, .int 0, .int 0])) (As := []) (rest := [.ref (h + 309), .ref h]) ⟨hx, hb, hml, hown, hts⟩ (kC_X0 l (h + 309)) (cwN 0 hts gX8_init_X0_init_n28 rfl rfl rfl (hts (.initialized RX0) (by decide +kernel)) hK.2.2.2.2.2.2.2 (hts (.instanceMethod yX0_init) (by decide +kernel)) rfl (by decide +kernel) ⟨Nat.le_of_ble_eq_true rfl, Nat.le_of_ble_eq_true rfl⟩) hK hP hD hS hA hz rfl hl.1 rfl (Nat.le_of_ble_eq_true rfl) dX8_init_42 ⟨Nat.le_of_ble_eq_true rfl, Nat.le_of_ble_eq_true rfl⟩ (fun H locs hP hD hS hz => ?_)
  rw [List.cons_append] at hP hD
  refine n_putF (ws := ((h, .inr (8, [.ref (h + 1), .ref (h + 52), .ref (h + 103), .null])) :: (((SW X (h + 1) ++ SW X (h + 52)) ++ HiW X (h + 103)) ++ CmW X (h + 309)))) (C := RX8) (T := TX8) (N := 4) (ty := .object "BakeTurns$Commands") (fs := [.ref (h + 1), .ref (h + 52), .ref (h + 103), .null]) hx hb hts (show ∀ w ∈ wsX80, w ∈ wsX8_init from iC8_8) tyX8 tyX8_ok nmX8 hown hK hP hD hS 0 rfl rfl 3 (by decide) (hts (.fieldLink RX8 29 (TX8 3).1 (TX8 3).2.1 (TX8 3).2.2.1) (by decide +kernel)) rfl hin rfl (by decide +kernel) rfl rfl (Nat.le_of_ble_eq_true rfl) dX8_init_45 (fun H locs hP hD hS hz2 => ?_)
  rw [List.set_cons_zero] at hP hD
  have hP : va_P (xD X) vwCl (((h, .inr (8, [.ref (h + 1), .ref (h + 52), .ref (h + 103), .ref (h + 309)])) :: (((SW X (h + 1) ++ SW X (h + 52)) ++ HiW X (h + 103)) ++ CmW X (h + 309)))) H := hP
  have hD : va_D (nA h) (((h, .inr (8, [.ref (h + 1), .ref (h + 52), .ref (h + 103), .ref (h + 309)])) :: (((SW X (h + 1) ++ SW X (h + 52)) ++ HiW X (h + 103)) ++ CmW X (h + 309)))) := hD
  have hz : H.size = h + 314 := hz2.trans hz
  refine W.widen (k := 313) (n := 2060) (Nat.le_of_ble_eq_true rfl) (Nat.le_of_ble_eq_true rfl) ?_
  exact n_vret hx hb hr hlocks hP hD hS hz dX8_init_48
abbrev zL : Nat → Int64 := fun _ => 0
def mi : Nat → Nat → Int32
  | 0 => zF
  | j+1 => upd (mi j) (229 + 3 * j) (-1)