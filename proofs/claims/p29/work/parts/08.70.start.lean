/-! the law from its entry to its end -/
set_option maxHeartbeats 4000000 in
set_option maxRecDepth 100000 in
theorem whole_start {p : Program} {e : Env} {s : State} {m : MethodId} {below : List Frame} {meth : Method} {c : Code} (l : Launch) (hflags : l.flags = flags0) {b L : Nat} {xs : Nat → Int32} (hL : L ≤ 260) (C0 : lw_At p s m meth c b L xs) : W p l e room_1 s m #[Value.ref b] below meth c s.heap [] 0 0 (lw_Z below #[Value.ref b] s) (entryFrame m ([Value.ref b] : List Value).toArray 11) := by
  obtain ⟨hx, hb, hr, hml, hown, hts, hXs, hbl, hlocks, hgv⟩ := id C0
  obtain ⟨X, hxa, hK⟩ := XK_start (z := s.heap.size) hts
  have hX : XO X s.heap.size := by
    refine ⟨fun i j hi hj e => pa_inj i hi j hj ?_, fun i hi => ?_⟩
    · rw [hxa, hxa] at e
      omega
    · rw [hxa]
      omega
  have htl : ∀ w ∈ wsL_law, w.before #[Value.ref b] s = true := fun w h => hts w (wsL_law_in w h)
  have hown : s.vm.findClass RL = some m.cls := hown
  have hb : c.code = cL_law := hb
  obtain ⟨z, ez⟩ : ∃ z, z = s.heap.size := ⟨_, rfl⟩
  have hA : ∀ q : Nat, s.heap.size ≤ q → nA z q := fun q h => by show z ≤ q; omega
  have hS : va_S (nA z) s.heap s.heap [] := va_S.rf
  have hP : va_P (xD X) vwCl [] s.heap := fun k q h => by simp at h
  have hD : va_D (nA z) [] := ⟨fun i j p q h => by simp at h, fun k q h => by simp at h⟩
  have hl := lv_entry ([.ref b]) (n := 11) (Nat.le_of_ble_eq_true rfl)
  rw [lg_entry_eq]
  generalize (lg_sl ([.ref b]) ++ List.replicate (11 - (lg_sl ([.ref b])).length) Slot.unset).toArray = ls at hl ⊢
  have hl : lv_has ls 11 [(0, .ref b)] := hl
  refine n_new (ci := 8) (C := RX8) (T := TX8) (N := 4) (fs := [.null, .null, .null, .null]) (z := z) hx hb hts inX8 tyX8 tyX8_ok hown (hts (.classLink RL 9 RX8) (by decide +kernel)) (hts (.instantiable RX8 4) (by decide +kernel)) (hts (.initialized RX8) (by decide +kernel)) hK hP hD hS hA ez.symm rfl (fun j hj => by rcases (show j = 0 ∨ j = 1 ∨ j = 2 ∨ j = 3 by omega) with rfl | rfl | rfl | rfl <;> rfl) (Nat.le_of_ble_eq_true rfl) (Nat.le_of_ble_eq_true rfl) dL_law_0 (fun H hP hD hS hz => ?_)
  refine lv_dup hx hb dL_law_3 rfl ?_
  refine n_call (ws := []) (h := z) (e0 := .inr (8, [.null, .null, .null, .null])) (As := []) (rest := [.ref z]) ⟨hx, hb, hml, hown, htl⟩ (kC_X8 l z) (cwI 0 htl gL_law_X8_init rfl rfl rfl (hts (.initialized RX8) (by decide +kernel)) (hts (.methodLink RL 83 yX8_init) (by decide +kernel)) (hts (.instanceMethod yX8_init) (by decide +kernel)) rfl (by decide +kernel) ⟨Nat.le_of_ble_eq_true rfl, Nat.le_of_ble_eq_true rfl⟩) hK hP hD hS hA hz rfl hl.1 rfl (Nat.le_of_ble_eq_true rfl) dL_law_4 ⟨Nat.le_of_ble_eq_true rfl, Nat.le_of_ble_eq_true rfl⟩ (fun H locs hP hD hS hz => ?_)
  refine lv_astore_n (lv' := [(1, .ref z), (0, .ref b)]) hx hb dL_law_7 rfl hl (by decide) rfl (fun ls hl => ?_)
  refine W.widen (k := 314) (n := 2064) (Nat.le_of_ble_eq_true rfl) (Nat.le_of_ble_eq_true rfl) ?_
  have hW : HW X (pbt (fun _ => zF, fun _ => zL) f00 f00 c00 (fun _ => f00) zF) H := HW_start (fun i => by rw [hxa, ez]) hP
  have x306 : xa X 306 = z := by rw [hxa, ez]; rfl
  have hl2 : lv_has ls 11 [(0, .ref b), (1, .ref (xa X 306))] := by
    rw [x306]
    exact lv_sub hl [1, 0] rfl
  have hS2 : va_S (xF s.heap.size) s.heap H locs := by
    rw [← ez]
    rw [ez] at hS ⊢
    exact hS
  obtain ⟨N, hN⟩ : ∃ N, 400 < N := ⟨401, by decide⟩
  have hlaw : mL_law N L xs f00 f00 c00 (fun _ => f00) zF = some 1 := law_true (g0 := f00) (c0 := c00) (y0 := fun _ => f00) (o0 := zF) hL hN SIM_start IX9_start ⟨by decide, by decide, rfl, rfl⟩
  exact law_walk l C0 hX hK.1 (N := N) (w := (fun _ => zF, fun _ => zL)) (cl := 314) (sl := 2064) (f0 := f00) (g0 := f00) (c0 := c00) (y0 := fun _ => f00) (o0 := zF) (H := H) (locs := locs) (ls := ls) (Nat.le_of_ble_eq_true rfl) (Nat.le_of_ble_eq_true rfl) hlaw hW hS2 hl2
