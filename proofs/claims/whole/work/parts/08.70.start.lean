/-! the start of all: before the first call class and model agree -/
theorem f00_19 {p : Nat} (hp : p < 12) : f00 19 p = iM := by
  unfold f00
  rw [ur_s]
  exact if_pos hp
theorem f00_n {j : Nat} (h : j ≠ 19) : f00 j = zF := ur_n h
theorem mi_at : ∀ (k p : Nat), mi k p = if ∃ q, q < k ∧ p = 229 + 3 * q then -1 else 0
  | 0, p => by
    rw [if_neg (fun h => by obtain ⟨q, h1, _⟩ := h; omega)]
    rfl
  | k+1, p => by
    show upd (mi k) (229 + 3 * k) (-1) p = _
    by_cases e : p = 229 + 3 * k
    · subst e
      rw [pk_us, if_pos ⟨k, by omega, rfl⟩]
    · rw [pk_un e, mi_at k p]
      by_cases c : ∃ q, q < k ∧ p = 229 + 3 * q
      · rw [if_pos c, if_pos (by obtain ⟨q, h1, h2⟩ := c; exact ⟨q, by omega, h2⟩)]
      · rw [if_neg c, if_neg (fun h => by
          obtain ⟨q, h1, h2⟩ := h
          by_cases eq : q = k
          · rw [eq] at h2
            exact e h2
          · exact c ⟨q, by omega, h2⟩)]
theorem mi_19 {p : Nat} (hp : p < 12) : mi 12 (pos 19 p) = -1 := by
  rw [mi_at, if_pos]
  refine ⟨p, hp, ?_⟩
  have h := pos_p (j := 0) (by decide) hp
  rw [show 19 + 0 = 19 from rfl] at h
  omega
theorem mi_n {j i : Nat} (hj : j < 24) (h : j ≠ 19) : mi 12 (pos j i) = 0 := by
  rw [mi_at, if_neg]
  intro q
  obtain ⟨q, h1, h2⟩ := q
  have h3 := pos_p (j := 0) (by decide) h1
  rw [show 19 + 0 = 19 from rfl] at h3
  exact h (pos_inj hj (by decide) (show pos j i = pos 19 q by omega)).1
theorem SIM_start : SIM f00 (mi 12) 0 0 0 [] 0 0 := by
  refine ⟨⟨⟨?_, ?_, ?_, ?_, ?_, ?_, by decide, by decide, by decide, by decide⟩, fun d hd => absurd hd (by omega), ⟨trivial, trivial, fun d => ⟨(fun h => by cases h), fun h => absurd h.1 (by omega)⟩⟩, fun p hp => Or.inl (f00_19 hp), ?_, ⟨0, 0, fun _ => 0, ?_, ?_, by decide, by decide, ?_, ?_⟩⟩, ⟨?_, ?_⟩, trivial⟩
  · rfl
  · rfl
  · rfl
  · rfl
  · rfl
  · rfl
  · intro j h h1 h2 h3 h4
    rw [f00_n (by omega)]
    rfl
  · rfl
  · rfl
  · intro h hh
    rfl
  · decide
  · intro j i hj hi n20 n21 n22
    by_cases h19 : j = 19
    · subst h19
      rw [mi_19 hi, f00_19 hi]
      rfl
    · rw [mi_n hj h19, f00_n h19]
  · intro p hp hn
    exact absurd (f00_19 hp) hn
theorem LI_start : LI f00 c00 (fun _ => f00) zF (mi 12) zF zF zF := by
  refine ⟨⟨0, 0, 0, [], 0, 0, SIM_start, by decide⟩, ⟨0, 0, by decide, by decide, rfl, rfl, rfl, fun i hi => absurd hi (by omega)⟩, ⟨0, by decide, ⟨fun i hi => absurd hi (by omega), rfl⟩, rfl⟩⟩
set_option maxHeartbeats 4000000 in
set_option maxRecDepth 100000 in
theorem whole_start {p : Program} {e : Env} {s : State} {m : MethodId} {below : List Frame} {meth : Method} {c : Code} (l : Launch) (hflags : l.flags = flags0) {b L : Nat} {xs : Nat → Int32} (hL : L ≤ 3072) (C0 : lw_At p s m meth c b L xs) : W p l e room_1 s m #[Value.ref b] below meth c s.heap [] 0 0 (lw_Z below #[Value.ref b] s) (entryFrame m ([Value.ref b] : List Value).toArray 7) := by
  obtain ⟨hx, hb, hr, hml, hown, hts, hXs, hbl, hlocks, hgv⟩ := id C0
  have hst : l.stackTraces = false := by
    unfold Launch.stackTraces
    rw [hflags]
    decide
  obtain ⟨X, hxa, hK⟩ := XK_start (z := s.heap.size) hts
  obtain ⟨Y, hG⟩ := SG_start hts hgv
  have hX : XO X s.heap.size := by
    refine ⟨fun i j hi hj e => pa_inj i hi j hj ?_, fun i hi => ?_⟩
    · rw [hxa, hxa] at e
      omega
    · rw [hxa]
      omega
  have htl : ∀ w ∈ wsL_law, w.before #[Value.ref b] s = true := fun w h => hts w (wsL_law_in w h)
  have hown : s.vm.findClass RL = some m.cls := hown
  have hb : c.code = cL_law := hb
  obtain ⟨z, ez⟩ : ∃ z, z = s.heap.size := ⟨_, rfl⟩
  have hA : ∀ q : Nat, s.heap.size ≤ q → nA z q := fun q h => by show z ≤ q; omega
  have hS : va_S (nA z) s.heap s.heap [] := va_S.rf
  have hP : va_P (xD X) vwCl [] s.heap := fun k q h => by simp at h
  have hD : va_D (nA z) [] := ⟨fun i j p q h => by simp at h, fun k q h => by simp at h⟩
  have hl := lv_entry ([.ref b]) (n := 7) (Nat.le_of_ble_eq_true rfl)
  rw [lg_entry_eq]
  generalize (lg_sl ([.ref b]) ++ List.replicate (7 - (lg_sl ([.ref b])).length) Slot.unset).toArray = ls at hl ⊢
  have hl : lv_has ls 7 [(0, .ref b)] := hl
  refine n_new (ci := 8) (C := RX8) (T := TX8) (N := 4) (fs := [.null, .null, .null, .null]) (z := z) hx hb hts inX8 tyX8 tyX8_ok hown (hts (.classLink RL 8 RX8) (by decide +kernel)) (hts (.instantiable RX8 4) (by decide +kernel)) (hts (.initialized RX8) (by decide +kernel)) hK hP hD hS hA ez.symm rfl (fun j hj => by rcases (show j = 0 ∨ j = 1 ∨ j = 2 ∨ j = 3 by omega) with rfl | rfl | rfl | rfl <;> rfl) (Nat.le_of_ble_eq_true rfl) (Nat.le_of_ble_eq_true rfl) dL_law_0 (fun H hP hD hS hz => ?_)
  refine lv_dup hx hb dL_law_3 rfl ?_
  refine n_call (ws := []) (h := z) (e0 := .inr (8, [.null, .null, .null, .null])) (As := []) (rest := [.ref z]) ⟨hx, hb, hml, hown, htl⟩ (kC_X8 l z) (cwI 0 htl gL_law_X8_init rfl rfl rfl (hts (.initialized RX8) (by decide +kernel)) (hts (.methodLink RL 83 yX8_init) (by decide +kernel)) (hts (.instanceMethod yX8_init) (by decide +kernel)) rfl (by decide +kernel) ⟨Nat.le_of_ble_eq_true rfl, Nat.le_of_ble_eq_true rfl⟩) hK hP hD hS hA hz rfl hl.1 rfl (Nat.le_of_ble_eq_true rfl) dL_law_4 ⟨Nat.le_of_ble_eq_true rfl, Nat.le_of_ble_eq_true rfl⟩ (fun H locs hP hD hS hz => ?_)
  refine lv_astore_n (lv' := [(1, .ref z), (0, .ref b)]) hx hb dL_law_7 rfl hl (by decide) rfl (fun ls hl => ?_)
  refine n_new (ci := 9) (C := RX9) (T := TX9) (N := 13) (fs := [.int 0, .null, .null, .null, .int 0, .null, .int 0, .null, .null, .null, .int 0, .int 0, .null]) (z := z + 314) hx hb hts inX9 tyX9 tyX9_ok hown (hts (.classLink RL 84 RX9) (by decide +kernel)) (hts (.instantiable RX9 13) (by decide +kernel)) (hts (.initialized RX9) (by decide +kernel)) hK hP hD hS hA (by omega) rfl (fun j hj => by rcases (show j = 0 ∨ j = 1 ∨ j = 2 ∨ j = 3 ∨ j = 4 ∨ j = 5 ∨ j = 6 ∨ j = 7 ∨ j = 8 ∨ j = 9 ∨ j = 10 ∨ j = 11 ∨ j = 12 by omega) with rfl | rfl | rfl | rfl | rfl | rfl | rfl | rfl | rfl | rfl | rfl | rfl | rfl <;> rfl) (Nat.le_of_ble_eq_true rfl) (Nat.le_of_ble_eq_true rfl) dL_law_8 (fun H hP hD hS hz => ?_)
  refine lv_dup hx hb dL_law_11 rfl ?_
  refine n_call (ws := ([] ++ BtW X z)) (h := z + 314) (e0 := .inr (9, [.int 0, .null, .null, .null, .int 0, .null, .int 0, .null, .null, .null, .int 0, .int 0, .null])) (As := []) (rest := [.ref (z + 314)]) ⟨hx, hb, hml, hown, htl⟩ (kC_X9 l (z + 314)) (cwI 0 htl gL_law_X9_init rfl rfl rfl (hts (.initialized RX9) (by decide +kernel)) (hts (.methodLink RL 86 yX9_init) (by decide +kernel)) (hts (.instanceMethod yX9_init) (by decide +kernel)) rfl (by decide +kernel) ⟨Nat.le_of_ble_eq_true rfl, Nat.le_of_ble_eq_true rfl⟩) hK hP hD hS hA hz rfl hl.1 rfl (Nat.le_of_ble_eq_true rfl) dL_law_12 ⟨Nat.le_of_ble_eq_true rfl, Nat.le_of_ble_eq_true rfl⟩ (fun H locs hP hD hS hz => ?_)
  refine lv_astore_n (lv' := [(2, .ref (z + 314)), (1, .ref z), (0, .ref b)]) hx hb dL_law_15 rfl hl (by decide) rfl (fun ls hl => ?_)
  refine lv_iconst (v := 1) hx hb dL_law_16 (by decide) ?_
  refine n_newa (ws := (([] ++ BtW X z) ++ MoW X (z + 314) (mi 12))) (atype := .long) (ty := .long) (cA := xJ X) (a0 := (1, .inr (.inl zL))) (N' := 1) (z := z + 323) hx hb (hts (.arrayClass .long) (by decide +kernel)) rfl ((hK.1.2 1 _ rfl).2) hP hD hS hA (by omega) rfl (by decide) (by decide) (Nat.le_of_ble_eq_true rfl) (Nat.le_of_ble_eq_true rfl) (Nat.le_of_ble_eq_true rfl) dL_law_17 (fun H hP hD hS hz => ?_)
  refine lv_astore_n (lv' := [(3, .ref (z + 323)), (2, .ref (z + 314)), (1, .ref z), (0, .ref b)]) hx hb dL_law_19 rfl hl (by decide) rfl (fun ls hl => ?_)
  refine lv_iconst (v := 0) hx hb dL_law_20 (by decide) ?_
  refine lv_istore (lv' := [(4, .int 0), (3, .ref (z + 323)), (2, .ref (z + 314)), (1, .ref z), (0, .ref b)]) hx hb dL_law_21 hl (by decide) rfl (fun ls hl => ?_)
  refine W.widen (k := 324) (n := 3855) (Nat.le_of_ble_eq_true rfl) (Nat.le_of_ble_eq_true rfl) ?_
  have hW : HW X w00 H := HW_start (fun i => by rw [hxa, ez]) hP
  have x306 : xa X 306 = z := by rw [hxa, ez]; rfl
  have x314 : xa X 314 = z + 314 := by rw [hxa, ez]; rfl
  have x323 : xa X 323 = z + 323 := by rw [hxa, ez]; rfl
  have hl2 : lv_has ls 7 [(0, .ref b), (1, .ref (xa X 306)), (2, .ref (xa X 314)), (3, .ref (xa X 323)), (4, .int 0)] := by
    rw [x306, x314, x323]
    exact lv_sub hl [4, 3, 2, 1, 0] rfl
  have hS2 : va_S (xF s.heap.size) s.heap H locs := by
    rw [← ez]
    rw [ez] at hS ⊢
    exact hS
  have hlaw : mL_law_L23 10000 L xs 1000 0 f00 f00 c00 (fun _ => f00) zF zL (mi 12) zF zF zF zF zL zF zF zF = some 1 := law_true (N := 10000) hL (by decide) 513 0 1000 rfl (by decide) f00 f00 c00 (fun _ => f00) zF zL (mi 12) zF zF zF zF zL zF zF zF LI_start (by omega)
  exact law_loop l hst C0 hX hK.1 hG (N := 10000) (w := (fun _ => zF, fun _ => zL)) 1000 324 3855 0 f00 f00 c00 (fun _ => f00) zF zL (mi 12) zF zF zF zF zL zF zF zF H locs ls hlaw (by decide) (by decide) hW hS2 hl2
