/-! Places (with its fill), State, Commands -/
set_option maxHeartbeats 4000000 in
set_option maxRecDepth 100000 in
theorem kC_fill (l : Launch) {X : bkX} (a n sz : Nat) (hn : n < 2^31) (v : Int32) (f : Nat → Int32) : Met l yX6_fill wsX6_fill rmX6_fill (va_Pc [.ref a, .int v] (fun U => U.heap.size = sz ∧ va_P (xD X) vwCl (RWf X a n f) U.heap ∧ NK X U)) (va_Qv (fun _ : Unit => True) (fun _ t => t.heap.size = sz ∧ va_P (xD X) vwCl (RWf X a n (rfill n f v)) t.heap) (fun q => q = a + 1)) 0 0 (fun q => q = a + 1) := by
  refine Met.ofW (cc := cX6_fill) (maxL := 3) (ret := none) (by decide) rfl ?_
  intro p e s m args below meth c s₁ B hml hv
  obtain ⟨ha, hz, hP, hK⟩ := hv
  have hx := B.exec
  have hb := B.bytes
  have hr := B.returns
  have hts := atoms_spec (ws := wsX6_fill) B.pre
  have hown : s.vm.findClass RX6 = some m.cls := findClass_of_methodNamed B.named
  have hlocks := B.notSynchronized
  obtain ⟨A1, hA1⟩ : ∃ A1 : Nat → Prop, A1 = fun q => q = a + 1 := ⟨_, rfl⟩
  have hS : va_S A1 s.heap s.heap [] := va_S.rf
  have hDx : ∀ g : Nat → Int32, va_D (fun q => q = a ∨ q = a + 1) (RWf X a n g) := by
    intro g
    refine va_D.app (w1 := [(a, .inr (6, [.ref (a + 1)]))]) (w2 := [(a + 1, .inl (xI X, n, .inl g))]) (nD1 (Or.inl rfl)) (nD1 (Or.inr rfl)) ?_
    intro i j x y hx hy e
    have h1 : i < 1 := (List.getElem?_eq_some_iff.mp hx).1
    have h2 : j < 1 := (List.getElem?_eq_some_iff.mp hy).1
    have e1 : i = 0 := by omega
    have e2 : j = 0 := by omega
    subst e1
    subst e2
    cases hx
    cases hy
    have e3 : a = a + 1 := e
    omega
  have hl := lv_entry ([.ref a, .int v]) (n := 3) (Nat.le_of_ble_eq_true rfl)
  refine W.eq ((congrArg (fun z => entryFrame m z 3) ha).trans (lg_entry_eq m _ 3)) ?_
  generalize (lg_sl ([.ref a, .int v]) ++ List.replicate (3 - (lg_sl ([.ref a, .int v])).length) Slot.unset).toArray = ls at hl ⊢
  have hl : lv_has ls 3 [(0, .ref a), (1, .int v)] := hl
  have hk7 := hts (.fieldLink RX6 7 "BakeTurns$Row" "cells" "[I") (by decide +kernel)
  obtain ⟨Q, hQ⟩ : ∃ Q : State → Prop, Q = MQ below (va_Qv (fun _ : Unit => True) (fun _ t => t.heap.size = sz ∧ va_P (xD X) vwCl (RWf X a n (rfill n f v)) t.heap) (fun q => q = a + 1)) args s 0 0 (fun q => q = a + 1) := ⟨_, rfl⟩
  rw [← hQ]
  generalize (headSpec wsX6_fill rmX6_fill).room = R
  have L2 : ∀ (d j : Nat) (H : Heap) (locs : List Loc) (ls : Array Slot), j + d = n → va_P (xD X) vwCl (RWf X a n (fun t => if t < j then v else f t)) H → H.size = sz → va_S A1 s.heap H locs → lv_has ls 3 [(0, .ref a), (1, .int v), (2, .int (nI j))] → W p l e R s m args below meth c H locs 0 0 Q (F0 m 2 ls []) := by
    intro d
    induction d with
    | zero =>
      intro j H locs ls hj hP hz hS hl
      refine lv_iload_n hx hb dX6_fill_2 rfl (lv_at hl 2 rfl) ?_
      refine lv_aload_n hx hb dX6_fill_3 rfl (lv_at hl 0 rfl) ?_
      refine va_get (C := RX6) (T := TX6) (N := 1) (ci := 6) (fs := [.ref (a + 1)]) (v := .ref (a + 1)) hx hb hts iX6_fill_X6 hown hK.1 hP 0 rfl rfl 0 (by decide) hk7 (fun _ h => h) rfl dX6_fill_4 ?_
      refine va_alen (x := (n, .inl _)) (v := nI n) hx hb hK.1 hP 1 0 rfl rfl rfl dX6_fill_7 ?_
      have hjn : j = n := by omega
      refine lv_icmp_ge (tgt := 24) hx hb dX6_fill_8 (by decide) (fun h2 => ?_) (fun h2 => ?_)
      · rw [hQ]
        subst hA1
        exact W.vret hx hb hr (fun t ht hW => ⟨⟨(), rfl, trivial, by rw [ht]; exact hz, by rw [ht]; have hP2 := hP; rw [hjn] at hP2; exact hP2⟩, hS.F ht⟩) hS.2.2 dX6_fill_24 hlocks
      · exact absurd (by rw [hjn]; exact (nI_leI hn hn).mpr (Nat.le_refl _)) h2
    | succ d ih =>
      intro j H locs ls hj hP hz hS hl
      refine lv_iload_n hx hb dX6_fill_2 rfl (lv_at hl 2 rfl) ?_
      refine lv_aload_n hx hb dX6_fill_3 rfl (lv_at hl 0 rfl) ?_
      refine va_get (C := RX6) (T := TX6) (N := 1) (ci := 6) (fs := [.ref (a + 1)]) (v := .ref (a + 1)) hx hb hts iX6_fill_X6 hown hK.1 hP 0 rfl rfl 0 (by decide) hk7 (fun _ h => h) rfl dX6_fill_4 ?_
      refine va_alen (x := (n, .inl _)) (v := nI n) hx hb hK.1 hP 1 0 rfl rfl rfl dX6_fill_7 ?_
      have hjn : j < n := by omega
      have hj31 : j < 2^31 := by omega
      refine lv_icmp_ge (tgt := 24) hx hb dX6_fill_8 (by decide) (fun h2 => ?_) (fun h2 => ?_)
      · exact absurd ((nI_leI hn hj31).mp h2) (by omega)
      · refine lv_aload_n hx hb dX6_fill_11 rfl (lv_at hl 0 rfl) ?_
        refine va_get (C := RX6) (T := TX6) (N := 1) (ci := 6) (fs := [.ref (a + 1)]) (v := .ref (a + 1)) hx hb hts iX6_fill_X6 hown hK.1 hP 0 rfl rfl 0 (by decide) hk7 (fun _ h => h) rfl dX6_fill_12 ?_
        refine lv_iload_n hx hb dX6_fill_15 rfl (lv_at hl 2 rfl) ?_
        refine lv_iload_n hx hb dX6_fill_16 rfl (lv_at hl 1 rfl) ?_
        refine n_fast (X := X) (n := n) (f := fun t => if t < j then v else f t) (A := A1) hx hb hK hP (hDx _) hS (by rw [hA1]) 1 rfl (vp_in_nI hjn hn) dX6_fill_17 (fun H locs hP hS hz2 => ?_)
        have e1 : upd (fun t => if t < j then v else f t) (nI j).toNatClampNeg v = fun t => if t < j + 1 then v else f t := by
          funext t
          rw [nI_clamp hj31]
          unfold upd
          by_cases h : t = j
          · rw [if_pos h, if_pos (by omega)]
          · rw [if_neg h]
            show (if t < j then v else f t) = _
            by_cases h3 : t < j
            · rw [if_pos h3, if_pos (by omega)]
            · rw [if_neg h3, if_neg (by omega)]
        have hP : va_P (xD X) vwCl (RWf X a n (upd (fun t => if t < j then v else f t) (nI j).toNatClampNeg v)) H := hP
        rw [e1] at hP
        refine lv_iinc (v := nI (j+1)) (lv' := [(2, .int (nI (j+1))), (0, .ref a), (1, .int v)]) hx hb dX6_fill_18 hl (k := 2) rfl (nI_1 j) (by decide) rfl (fun ls hl => ?_)
        refine lv_goto (tgt := 2) hx hb dX6_fill_21 (by decide) ?_
        exact ih (j+1) _ _ _ (by omega) hP (by omega) hS (lv_sub hl [1, 2, 0] rfl)
  refine lv_iconst (v := 0) hx hb dX6_fill_0 (by decide) ?_
  refine lv_istore_n (lv' := [(2, .int 0), (0, .ref a), (1, .int v)]) hx hb dX6_fill_1 rfl hl (by decide) rfl (fun ls hl => ?_)
  refine L2 n 0 _ _ _ (by omega) ?_ hz hS ?_
  · have e0 : (fun t => if t < 0 then v else f t) = f := by funext t; simp
    rw [e0]
    exact hP
  · rw [nI_0]
    exact lv_sub hl [1, 2, 0] rfl
section FILL
variable {p : Program} {e : Env} {R : Room} {s : State} {m : MethodId} {args : Array Value} {below : List Frame} {meth : Method} {c : Code} {H : Heap} {locs : List Loc} {cells slots : Nat} {Q : State → Prop}
variable {pc : Nat} {ls : Array Slot} {rest : List Value} {cc : ByteArray} {X : bkX} {A : Nat → Prop} {H0 : Heap} {ws w2 : va_W} {Ts : List Cond} {own : String} {index nL : Nat}
theorem n_fill (l : Launch) {a n sz : Nat} {f : Nat → Int32} {v : Int32} (S : CallFix p m c cc nL s args Ts own) (hn : n < 2^31) (cw : CallW R s args own RX6 index yX6_fill cX6_fill 3 none wsX6_fill rmX6_fill 0 0 1) (hK : NK X s) (hP : va_P (xD X) vwCl ((ws ++ RWf X a n f) ++ w2) H) (hD : va_D A ((ws ++ RWf X a n f) ++ w2)) (hS : va_S A H0 H locs) (hz : H.size = sz) (hsize : ls.size = nL) (hdg : decode cc pc = .ok (.invokevirtual index, 3)) (hroom : cells ≤ R.cells ∧ slots ≤ R.slots)
    (kk : ∀ (H1 : Heap) (locs1 : List Loc), va_P (xD X) vwCl ((ws ++ RWf X a n (rfill n f v)) ++ w2) H1 → va_D A ((ws ++ RWf X a n (rfill n f v)) ++ w2) → va_S A H0 H1 locs1 → H1.size = sz → W p l e R s m args below meth c H1 locs1 cells slots Q (F0 m (pc + 3) ls [])) : W p l e R s m args below meth c H locs cells slots Q (F0 m pc ls [.int v, .ref a]) := by
  have g : ∀ (k : Nat) (q : Nat × va_E), (RWf X a n f)[k]? = some q → ((ws ++ RWf X a n f) ++ w2)[ws.length + k]? = some q := by
    intro k q hk
    have hkl : k < (RWf X a n f).length := (List.getElem?_eq_some_iff.mp hk).1
    rw [List.getElem?_append_left (by rw [List.length_append]; omega), List.getElem?_append_right (by omega)]
    rw [show ws.length + k - ws.length = k by omega]
    exact hk
  have hPc : va_P (xD X) vwCl (RWf X a n f) H := fun k q hk => hP _ q (g k q hk)
  have hc0 := hPc 0 (a, .inr (6, [.ref (a + 1)])) rfl
  have hAa : A (a + 1) := hD.2 _ _ (g 1 (a + 1, .inl (xI X, n, .inl f)) rfl)
  have hrec : ∃ cellB : Cell, H[a]? = some cellB ∧ cellB.vm.isStatics = false ∧ s.vm.findClass RX6 = some cellB.cls := va_recv hK.1 hPc (ci := 6) (q0 := 0) rfl rfl
  refine va_callv (va_runV (As := [.int v]) (rest := []) S (kC_fill l (X := X) a n sz hn v f) cw ⟨fun _ _ _ _ q => ⟨q.1, q.2.1, q.2.2.1, q.2.2.2.same rfl⟩, hrec, fun U hU hW => ⟨rfl, by show U.heap.size = sz; rw [hU]; exact hz, by show va_P _ _ _ U.heap; rw [hU]; exact hPc, NK.warm hW hK⟩⟩ rfl rfl hsize rfl (Nat.le_of_ble_eq_true rfl) hdg hroom) hS (fun q _ h1 => by rw [h1]; exact hAa) (fun q h1 => by rw [h1]; exact hAa) (fun u t H1 locs1 ht hvm hw hB hz1 hk1 hS1 => ?_)
  obtain ⟨b1, b2⟩ := hB
  rw [ht] at b1 b2
  have key : ∀ (k : Nat) (q : Nat × va_E), ((ws ++ RWf X a n (rfill n f v)) ++ w2)[k]? = some q → (k = ws.length + 1 ∧ q = (a + 1, .inl (xI X, n, .inl (rfill n f v)))) ∨ (k ≠ ws.length + 1 ∧ ((ws ++ RWf X a n f) ++ w2)[k]? = some q) := by
    intro k q hk
    by_cases h1 : k < ws.length
    · right
      refine ⟨by omega, ?_⟩
      rw [List.getElem?_append_left (by rw [List.length_append]; omega), List.getElem?_append_left h1] at hk ⊢
      exact hk
    · by_cases h2 : k < ws.length + 2
      · have hl2 : ∀ g : Nat → Int32, (RWf X a n g).length = 2 := fun _ => rfl
        rw [List.getElem?_append_left (by rw [List.length_append, hl2]; omega), List.getElem?_append_right (by omega)] at hk
        by_cases h3 : k = ws.length
        · right
          refine ⟨by omega, ?_⟩
          rw [List.getElem?_append_left (by rw [List.length_append, hl2]; omega), List.getElem?_append_right (by omega)]
          rw [show k - ws.length = 0 by omega] at hk ⊢
          exact hk
        · left
          rw [show k - ws.length = 1 by omega] at hk
          exact ⟨by omega, (Option.some.inj hk).symm⟩
      · right
        have hl2 : ∀ g : Nat → Int32, (ws ++ RWf X a n g).length = ws.length + 2 := fun g => by rw [List.length_append]; rfl
        refine ⟨by omega, ?_⟩
        rw [List.getElem?_append_right (by rw [hl2]; omega), hl2] at hk ⊢
        exact hk
  have hne : ∀ (k : Nat) (q : Nat × va_E), k ≠ ws.length + 1 → ((ws ++ RWf X a n f) ++ w2)[k]? = some q → q.1 ≠ a + 1 := by
    intro k q hk hq e
    exact hk (hD.1 k (ws.length + 1) q _ hq (g 1 (a + 1, .inl (xI X, n, .inl f)) rfl) e)
  refine kk H1 locs1 (fun k q hk => ?_) ⟨fun i j x y hi hj e => ?_, fun k q hk => ?_⟩ hS1 b1
  · rcases key k q hk with ⟨h1, h2⟩ | ⟨h1, h2⟩
    · rw [h2]
      exact b2 1 _ rfl
    · have h3 := hP k q h2
      exact h3.kept (hk1 q.1 h3.lt (hne k q h1 h2))
  · rcases key i x hi with ⟨h1, h2⟩ | ⟨h1, h2⟩
    · rcases key j y hj with ⟨h3, h4⟩ | ⟨h3, h4⟩
      · omega
      · rw [h2] at e
        exact absurd e.symm (hne j y h3 h4)
    · rcases key j y hj with ⟨h3, h4⟩ | ⟨h3, h4⟩
      · rw [h4] at e
        exact absurd e (hne i x h1 h2)
      · exact hD.1 i j x y h2 h4 e
  · rcases key k q hk with ⟨h1, h2⟩ | ⟨h1, h2⟩
    · rw [h2]
      exact hAa
    · exact hD.2 k q h2
end FILL
def PlW (X : bkX) (h : Nat) : va_W := ((h, .inr (5, [.ref (h + 1), .ref (h + 3), .ref (h + 5)])) :: ((RWf X (h + 1) 12 (rfill 12 zF (-1)) ++ RWf X (h + 3) 12 zF) ++ RWf X (h + 5) 12 zF))
set_option maxHeartbeats 4000000 in
set_option maxRecDepth 100000 in
theorem kC_X5 (l : Launch) {X : bkX} (h : Nat) : cN l yX5_init wsX5_init ({ frames := 2, cells := 6, slots := 39, locals := 33 } : Room) X [.ref h] h (.inr (5, [.null, .null, .null])) 6 (PlW X h) 6 39 := by
  refine Met.ofW (cc := cX5_init) (maxL := 1) (ret := none) (by decide) rfl ?_
  intro p e s m args below meth c s₁ B hml hv
  obtain ⟨ha, hz, hP, hK⟩ := hv
  have hx := B.exec
  have hb := B.bytes
  have hr := B.returns
  have hts := atoms_spec (ws := wsX5_init) B.pre
  have hown : s.vm.findClass RX5 = some m.cls := findClass_of_methodNamed B.named
  have hlocks := B.notSynchronized
  have hin : meth.name = "<init>" := (name_of_methodNamed B.named B.method).1
  have hS : va_S (nA h) s.heap s.heap [] := va_S.rf
  have hA : ∀ q : Nat, s.heap.size ≤ q → nA h q := fun q hq => by show h ≤ q; omega
  have hl := lv_entry ([.ref h]) (n := 1) (Nat.le_of_ble_eq_true rfl)
  refine W.eq ((congrArg (fun z => entryFrame m z 1) ha).trans (lg_entry_eq m _ 1)) ?_
  generalize (lg_sl ([.ref h]) ++ List.replicate (1 - (lg_sl ([.ref h])).length) Slot.unset).toArray = ls at hl ⊢
  have hl : lv_has ls 1 [(0, .ref h)] := hl
  have hD : va_D (nA h) [(h, .inr (5, [.null, .null, .null]))] := nD1 (Nat.le_refl h)
  refine lv_aload_n hx hb dX5_init_0 rfl (lv_at hl 0 rfl) ?_
  refine W.objInit hx hb hown (hts (.methodLink RX5 3 objectInit) (by decide +kernel)) (hts (.instanceMethod objectInit) (by decide +kernel)) (hts (.code objectInit ⟨#[0xb1]⟩ 1 none) (by decide +kernel)) rfl (by rw [hml]; exact hl.1) rfl dX5_init_1 (Nat.le_of_ble_eq_true rfl) (Nat.le_of_ble_eq_true rfl) ?_
  refine W.eq (g2 := F0 m 4 ls []) rfl ?_
  refine lv_aload_n hx hb dX5_init_4 rfl (lv_at hl 0 rfl) ?_
  refine n_new (ci := 6) (C := RX6) (T := TX6) (N := 1) (fs := [.null]) (z := h + 1) hx hb hts (show ∀ w ∈ wsX60, w ∈ wsX5_init from iC5_6) tyX6 tyX6_ok hown (hts (.classLink RX5 9 RX6) (by decide +kernel)) (hts (.instantiable RX6 1) (by decide +kernel)) (hts (.initialized RX6) (by decide +kernel)) hK hP hD hS hA hz rfl (fun j hj => by rcases (show j = 0 by omega) with rfl <;> rfl) (Nat.le_of_ble_eq_true rfl) (Nat.le_of_ble_eq_true rfl) dX5_init_5 (fun H hP hD hS hz => ?_)
  refine lv_dup hx hb dX5_init_8 rfl ?_
  refine lv_bipush (v := nI 12) hx hb dX5_init_9 (by decide) ?_
  refine n_call (ws := [(h, .inr (5, [.null, .null, .null]))]) (h := h + 1) (e0 := .inr (6, [.null])) (As := [.int (nI 12)]) (rest := [.ref (h + 1), .ref h]) ⟨hx, hb, hml, hown, hts⟩ (kC_X6 l (h + 1) 12 (by decide) (by decide)) (cwI 1 hts gX5_init_X6_init rfl rfl rfl (hts (.initialized RX6) (by decide +kernel)) (hts (.methodLink RX5 11 yX6_init) (by decide +kernel)) (hts (.instanceMethod yX6_init) (by decide +kernel)) rfl (by decide +kernel) ⟨Nat.le_of_ble_eq_true rfl, Nat.le_of_ble_eq_true rfl⟩) hK hP hD hS hA hz rfl hl.1 rfl (Nat.le_of_ble_eq_true rfl) dX5_init_11 ⟨Nat.le_of_ble_eq_true rfl, Nat.le_of_ble_eq_true rfl⟩ (fun H locs hP hD hS hz => ?_)
  rw [List.cons_append, List.nil_append] at hP hD
  refine n_putF (ws := ((h, .inr (5, [.null, .null, .null])) :: RWf X (h + 1) 12 zF)) (C := RX5) (T := TX5) (N := 3) (ty := .object "BakeTurns$Row") (fs := [.null, .null, .null]) hx hb hts (show ∀ w ∈ wsX50, w ∈ wsX5_init from iC5_5) tyX5 tyX5_ok nmX5 hown hK hP hD hS 0 rfl rfl 0 (by decide) (hts (.fieldLink RX5 14 (TX5 0).1 (TX5 0).2.1 (TX5 0).2.2.1) (by decide +kernel)) rfl hin rfl (by decide +kernel) rfl rfl (Nat.le_of_ble_eq_true rfl) dX5_init_14 (fun H locs hP hD hS hz2 => ?_)
  rw [List.set_cons_zero] at hP hD
  have hP : va_P (xD X) vwCl (((h, .inr (5, [.ref (h + 1), .null, .null])) :: RWf X (h + 1) 12 zF)) H := hP
  have hD : va_D (nA h) (((h, .inr (5, [.ref (h + 1), .null, .null])) :: RWf X (h + 1) 12 zF)) := hD
  have hz : H.size = h + 3 := hz2.trans hz
  refine lv_aload_n hx hb dX5_init_17 rfl (lv_at hl 0 rfl) ?_
  refine n_new (ci := 6) (C := RX6) (T := TX6) (N := 1) (fs := [.null]) (z := h + 3) hx hb hts (show ∀ w ∈ wsX60, w ∈ wsX5_init from iC5_6) tyX6 tyX6_ok hown (hts (.classLink RX5 9 RX6) (by decide +kernel)) (hts (.instantiable RX6 1) (by decide +kernel)) (hts (.initialized RX6) (by decide +kernel)) hK hP hD hS hA hz rfl (fun j hj => by rcases (show j = 0 by omega) with rfl <;> rfl) (Nat.le_of_ble_eq_true rfl) (Nat.le_of_ble_eq_true rfl) dX5_init_18 (fun H hP hD hS hz => ?_)
  refine lv_dup hx hb dX5_init_21 rfl ?_
  refine lv_bipush (v := nI 12) hx hb dX5_init_22 (by decide) ?_
  refine n_call (ws := ((h, .inr (5, [.ref (h + 1), .null, .null])) :: RWf X (h + 1) 12 zF)) (h := h + 3) (e0 := .inr (6, [.null])) (As := [.int (nI 12)]) (rest := [.ref (h + 3), .ref h]) ⟨hx, hb, hml, hown, hts⟩ (kC_X6 l (h + 3) 12 (by decide) (by decide)) (cwI 1 hts gX5_init_X6_init rfl rfl rfl (hts (.initialized RX6) (by decide +kernel)) (hts (.methodLink RX5 11 yX6_init) (by decide +kernel)) (hts (.instanceMethod yX6_init) (by decide +kernel)) rfl (by decide +kernel) ⟨Nat.le_of_ble_eq_true rfl, Nat.le_of_ble_eq_true rfl⟩) hK hP hD hS hA hz rfl hl.1 rfl (Nat.le_of_ble_eq_true rfl) dX5_init_24 ⟨Nat.le_of_ble_eq_true rfl, Nat.le_of_ble_eq_true rfl⟩ (fun H locs hP hD hS hz => ?_)
  rw [List.cons_append] at hP hD
  refine n_putF (ws := ((h, .inr (5, [.ref (h + 1), .null, .null])) :: (RWf X (h + 1) 12 zF ++ RWf X (h + 3) 12 zF))) (C := RX5) (T := TX5) (N := 3) (ty := .object "BakeTurns$Row") (fs := [.ref (h + 1), .null, .null]) hx hb hts (show ∀ w ∈ wsX50, w ∈ wsX5_init from iC5_5) tyX5 tyX5_ok nmX5 hown hK hP hD hS 0 rfl rfl 1 (by decide) (hts (.fieldLink RX5 20 (TX5 1).1 (TX5 1).2.1 (TX5 1).2.2.1) (by decide +kernel)) rfl hin rfl (by decide +kernel) rfl rfl (Nat.le_of_ble_eq_true rfl) dX5_init_27 (fun H locs hP hD hS hz2 => ?_)
  rw [List.set_cons_zero] at hP hD
  have hP : va_P (xD X) vwCl (((h, .inr (5, [.ref (h + 1), .ref (h + 3), .null])) :: (RWf X (h + 1) 12 zF ++ RWf X (h + 3) 12 zF))) H := hP
  have hD : va_D (nA h) (((h, .inr (5, [.ref (h + 1), .ref (h + 3), .null])) :: (RWf X (h + 1) 12 zF ++ RWf X (h + 3) 12 zF))) := hD
  have hz : H.size = h + 5 := hz2.trans hz
  refine lv_aload_n hx hb dX5_init_30 rfl (lv_at hl 0 rfl) ?_
  refine n_new (ci := 6) (C := RX6) (T := TX6) (N := 1) (fs := [.null]) (z := h + 5) hx hb hts (show ∀ w ∈ wsX60, w ∈ wsX5_init from iC5_6) tyX6 tyX6_ok hown (hts (.classLink RX5 9 RX6) (by decide +kernel)) (hts (.instantiable RX6 1) (by decide +kernel)) (hts (.initialized RX6) (by decide +kernel)) hK hP hD hS hA hz rfl (fun j hj => by rcases (show j = 0 by omega) with rfl <;> rfl) (Nat.le_of_ble_eq_true rfl) (Nat.le_of_ble_eq_true rfl) dX5_init_31 (fun H hP hD hS hz => ?_)
  refine lv_dup hx hb dX5_init_34 rfl ?_
  refine lv_bipush (v := nI 12) hx hb dX5_init_35 (by decide) ?_
  refine n_call (ws := ((h, .inr (5, [.ref (h + 1), .ref (h + 3), .null])) :: (RWf X (h + 1) 12 zF ++ RWf X (h + 3) 12 zF))) (h := h + 5) (e0 := .inr (6, [.null])) (As := [.int (nI 12)]) (rest := [.ref (h + 5), .ref h]) ⟨hx, hb, hml, hown, hts⟩ (kC_X6 l (h + 5) 12 (by decide) (by decide)) (cwI 1 hts gX5_init_X6_init rfl rfl rfl (hts (.initialized RX6) (by decide +kernel)) (hts (.methodLink RX5 11 yX6_init) (by decide +kernel)) (hts (.instanceMethod yX6_init) (by decide +kernel)) rfl (by decide +kernel) ⟨Nat.le_of_ble_eq_true rfl, Nat.le_of_ble_eq_true rfl⟩) hK hP hD hS hA hz rfl hl.1 rfl (Nat.le_of_ble_eq_true rfl) dX5_init_37 ⟨Nat.le_of_ble_eq_true rfl, Nat.le_of_ble_eq_true rfl⟩ (fun H locs hP hD hS hz => ?_)
  rw [List.cons_append] at hP hD
  refine n_putF (ws := ((h, .inr (5, [.ref (h + 1), .ref (h + 3), .null])) :: ((RWf X (h + 1) 12 zF ++ RWf X (h + 3) 12 zF) ++ RWf X (h + 5) 12 zF))) (C := RX5) (T := TX5) (N := 3) (ty := .object "BakeTurns$Row") (fs := [.ref (h + 1), .ref (h + 3), .null]) hx hb hts (show ∀ w ∈ wsX50, w ∈ wsX5_init from iC5_5) tyX5 tyX5_ok nmX5 hown hK hP hD hS 0 rfl rfl 2 (by decide) (hts (.fieldLink RX5 23 (TX5 2).1 (TX5 2).2.1 (TX5 2).2.2.1) (by decide +kernel)) rfl hin rfl (by decide +kernel) rfl rfl (Nat.le_of_ble_eq_true rfl) dX5_init_40 (fun H locs hP hD hS hz2 => ?_)
  rw [List.set_cons_zero] at hP hD
  have hP : va_P (xD X) vwCl (((h, .inr (5, [.ref (h + 1), .ref (h + 3), .ref (h + 5)])) :: ((RWf X (h + 1) 12 zF ++ RWf X (h + 3) 12 zF) ++ RWf X (h + 5) 12 zF))) H := hP
  have hD : va_D (nA h) (((h, .inr (5, [.ref (h + 1), .ref (h + 3), .ref (h + 5)])) :: ((RWf X (h + 1) 12 zF ++ RWf X (h + 3) 12 zF) ++ RWf X (h + 5) 12 zF))) := hD
  have hz : H.size = h + 7 := hz2.trans hz
  refine lv_aload_n hx hb dX5_init_43 rfl (lv_at hl 0 rfl) ?_
  refine va_get (C := RX5) (T := TX5) (N := 3) (ci := 5) (fs := [.ref (h + 1), .ref (h + 3), .ref (h + 5)]) (v := .ref (h + 1)) hx hb hts (show ∀ w ∈ wsX50, w ∈ wsX5_init from iC5_5) hown hK.1 hP 0 rfl rfl 0 (by decide) (hts (.fieldLink RX5 14 (TX5 0).1 (TX5 0).2.1 (TX5 0).2.2.1) (by decide +kernel)) (fun _ h => h) rfl dX5_init_44 ?_
  refine lv_iconst (v := -1) hx hb dX5_init_47 (by decide) ?_
  refine n_fill (ws := [(h, .inr (5, [.ref (h + 1), .ref (h + 3), .ref (h + 5)]))]) (w2 := RWf X (h + 3) 12 zF ++ RWf X (h + 5) 12 zF) (a := h + 1) (n := 12) (f := zF) (v := -1) (sz := h + 7) l ⟨hx, hb, hml, hown, hts⟩ (by decide) (cwV 1 hts gX5_init_X6_fill rfl rfl rfl (by decide +kernel) ⟨Nat.le_of_ble_eq_true rfl, Nat.le_of_ble_eq_true rfl⟩) hK (show va_P (xD X) vwCl (([(h, .inr (5, [.ref (h + 1), .ref (h + 3), .ref (h + 5)]))] ++ RWf X (h + 1) 12 zF) ++ (RWf X (h + 3) 12 zF ++ RWf X (h + 5) 12 zF)) H from hP) (show va_D (nA h) (([(h, .inr (5, [.ref (h + 1), .ref (h + 3), .ref (h + 5)]))] ++ RWf X (h + 1) 12 zF) ++ (RWf X (h + 3) 12 zF ++ RWf X (h + 5) 12 zF)) from hD) hS (by omega) hl.1 dX5_init_48 ⟨Nat.le_of_ble_eq_true rfl, Nat.le_of_ble_eq_true rfl⟩ (fun H locs hP hD hS hz => ?_)
  have hP : va_P (xD X) vwCl (((h, .inr (5, [.ref (h + 1), .ref (h + 3), .ref (h + 5)])) :: ((RWf X (h + 1) 12 (rfill 12 zF (-1)) ++ RWf X (h + 3) 12 zF) ++ RWf X (h + 5) 12 zF))) H := hP
  have hD : va_D (nA h) (((h, .inr (5, [.ref (h + 1), .ref (h + 3), .ref (h + 5)])) :: ((RWf X (h + 1) 12 (rfill 12 zF (-1)) ++ RWf X (h + 3) 12 zF) ++ RWf X (h + 5) 12 zF))) := hD
  have hz : H.size = h + 7 := by omega
  refine W.widen (k := 6) (n := 39) (Nat.le_of_ble_eq_true rfl) (Nat.le_of_ble_eq_true rfl) ?_
  exact n_vret hx hb hr hlocks hP hD hS hz dX5_init_51
def SW (X : bkX) (h : Nat) : va_W := ((h, .inr (7, [.ref (h + 1), .ref (h + 12), .ref (h + 25), .ref (h + 42), .ref (h + 49), .int 0, .int 0, .int 0, .int 0, .int 0, .int 0, .int 0, .int 0, .int 0])) :: ((((KW X (h + 1) ++ HoW X (h + 12)) ++ DoW X (h + 25)) ++ PlW X (h + 42)) ++ RWf X (h + 49) 16 zF))
set_option maxHeartbeats 4000000 in
set_option maxRecDepth 100000 in
theorem kC_X7 (l : Launch) {X : bkX} (h : Nat) : cN l yX7_init wsX7_init ({ frames := 3, cells := 50, slots := 301, locals := 53 } : Room) X [.ref h] h (.inr (7, [.null, .null, .null, .null, .null, .int 0, .int 0, .int 0, .int 0, .int 0, .int 0, .int 0, .int 0, .int 0])) 50 (SW X h) 50 301 := by
  refine Met.ofW (cc := cX7_init) (maxL := 1) (ret := none) (by decide) rfl ?_
  intro p e s m args below meth c s₁ B hml hv
  obtain ⟨ha, hz, hP, hK⟩ := hv
  have hx := B.exec
  have hb := B.bytes
  have hr := B.returns
  have hts := atoms_spec (ws := wsX7_init) B.pre
  have hown : s.vm.findClass RX7 = some m.cls := findClass_of_methodNamed B.named
  have hlocks := B.notSynchronized
  have hin : meth.name = "<init>" := (name_of_methodNamed B.named B.method).1
  have hS : va_S (nA h) s.heap s.heap [] := va_S.rf
  have hA : ∀ q : Nat, s.heap.size ≤ q → nA h q := fun q hq => by show h ≤ q; omega
  have hl := lv_entry ([.ref h]) (n := 1) (Nat.le_of_ble_eq_true rfl)
  refine W.eq ((congrArg (fun z => entryFrame m z 1) ha).trans (lg_entry_eq m _ 1)) ?_
  generalize (lg_sl ([.ref h]) ++ List.replicate (1 - (lg_sl ([.ref h])).length) Slot.unset).toArray = ls at hl ⊢
  have hl : lv_has ls 1 [(0, .ref h)] := hl
  have hD : va_D (nA h) [(h, .inr (7, [.null, .null, .null, .null, .null, .int 0, .int 0, .int 0, .int 0, .int 0, .int 0, .int 0, .int 0, .int 0]))] := nD1 (Nat.le_refl h)
  refine lv_aload_n hx hb dX7_init_0 rfl (lv_at hl 0 rfl) ?_
  refine W.objInit hx hb hown (hts (.methodLink RX7 3 objectInit) (by decide +kernel)) (hts (.instanceMethod objectInit) (by decide +kernel)) (hts (.code objectInit ⟨#[0xb1]⟩ 1 none) (by decide +kernel)) rfl (by rw [hml]; exact hl.1) rfl dX7_init_1 (Nat.le_of_ble_eq_true rfl) (Nat.le_of_ble_eq_true rfl) ?_
  refine W.eq (g2 := F0 m 4 ls []) rfl ?_
  refine lv_aload_n hx hb dX7_init_4 rfl (lv_at hl 0 rfl) ?_
  refine n_new (ci := 4) (C := RX4) (T := TX4) (N := 6) (fs := [.int 0, .null, .null, .null, .null, .null]) (z := h + 1) hx hb hts (show ∀ w ∈ wsX40, w ∈ wsX7_init from iC7_4) tyX4 tyX4_ok hown (hts (.classLink RX7 9 RX4) (by decide +kernel)) (hts (.instantiable RX4 6) (by decide +kernel)) (hts (.initialized RX4) (by decide +kernel)) hK hP hD hS hA hz rfl (fun j hj => by rcases (show j = 0 ∨ j = 1 ∨ j = 2 ∨ j = 3 ∨ j = 4 ∨ j = 5 by omega) with rfl | rfl | rfl | rfl | rfl | rfl <;> rfl) (Nat.le_of_ble_eq_true rfl) (Nat.le_of_ble_eq_true rfl) dX7_init_5 (fun H hP hD hS hz => ?_)
  refine lv_dup hx hb dX7_init_8 rfl ?_
  refine n_callN (ws := [(h, .inr (7, [.null, .null, .null, .null, .null, .int 0, .int 0, .int 0, .int 0, .int 0, .int 0, .int 0, .int 0, .int 0]))]) (h := h + 1) (e0 := .inr (4, [.int 0, .null, .null, .null, .null, .null])) (As := []) (rest := [.ref (h + 1), .ref h]) ⟨hx, hb, hml, hown, hts⟩ (kC_X4 l (h + 1)) (cwN 0 hts gX7_init_X4_init_n11 rfl rfl rfl (hts (.initialized RX4) (by decide +kernel)) hK.2.2.1 (hts (.instanceMethod yX4_init) (by decide +kernel)) rfl (by decide +kernel) ⟨Nat.le_of_ble_eq_true rfl, Nat.le_of_ble_eq_true rfl⟩) hK hP hD hS hA hz rfl hl.1 rfl (Nat.le_of_ble_eq_true rfl) dX7_init_9 ⟨Nat.le_of_ble_eq_true rfl, Nat.le_of_ble_eq_true rfl⟩ (fun H locs hP hD hS hz => ?_)
  rw [List.cons_append, List.nil_append] at hP hD
  refine n_putF (ws := ((h, .inr (7, [.null, .null, .null, .null, .null, .int 0, .int 0, .int 0, .int 0, .int 0, .int 0, .int 0, .int 0, .int 0])) :: KW X (h + 1))) (C := RX7) (T := TX7) (N := 14) (ty := .object "BakeTurns$Kinds") (fs := [.null, .null, .null, .null, .null, .int 0, .int 0, .int 0, .int 0, .int 0, .int 0, .int 0, .int 0, .int 0]) hx hb hts (show ∀ w ∈ wsX70, w ∈ wsX7_init from iC7_7) tyX7 tyX7_ok nmX7 hown hK hP hD hS 0 rfl rfl 0 (by decide) (hts (.fieldLink RX7 12 (TX7 0).1 (TX7 0).2.1 (TX7 0).2.2.1) (by decide +kernel)) rfl hin rfl (by decide +kernel) rfl rfl (Nat.le_of_ble_eq_true rfl) dX7_init_12 (fun H locs hP hD hS hz2 => ?_)
  rw [List.set_cons_zero] at hP hD
  have hP : va_P (xD X) vwCl (((h, .inr (7, [.ref (h + 1), .null, .null, .null, .null, .int 0, .int 0, .int 0, .int 0, .int 0, .int 0, .int 0, .int 0, .int 0])) :: KW X (h + 1))) H := hP
  have hD : va_D (nA h) (((h, .inr (7, [.ref (h + 1), .null, .null, .null, .null, .int 0, .int 0, .int 0, .int 0, .int 0, .int 0, .int 0, .int 0, .int 0])) :: KW X (h + 1))) := hD
  have hz : H.size = h + 12 := hz2.trans hz
  refine lv_aload_n hx hb dX7_init_15 rfl (lv_at hl 0 rfl) ?_
  refine n_new (ci := 3) (C := RX3) (T := TX3) (N := 7) (fs := [.int 0, .null, .null, .null, .null, .null, .null]) (z := h + 12) hx hb hts (show ∀ w ∈ wsX30, w ∈ wsX7_init from iC7_3) tyX3 tyX3_ok hown (hts (.classLink RX7 18 RX3) (by decide +kernel)) (hts (.instantiable RX3 7) (by decide +kernel)) (hts (.initialized RX3) (by decide +kernel)) hK hP hD hS hA hz rfl (fun j hj => by rcases (show j = 0 ∨ j = 1 ∨ j = 2 ∨ j = 3 ∨ j = 4 ∨ j = 5 ∨ j = 6 by omega) with rfl | rfl | rfl | rfl | rfl | rfl | rfl <;> rfl) (Nat.le_of_ble_eq_true rfl) (Nat.le_of_ble_eq_true rfl) dX7_init_16 (fun H hP hD hS hz => ?_)
  refine lv_dup hx hb dX7_init_19 rfl ?_
  refine n_callN (ws := ((h, .inr (7, [.ref (h + 1), .null, .null, .null, .null, .int 0, .int 0, .int 0, .int 0, .int 0, .int 0, .int 0, .int 0, .int 0])) :: KW X (h + 1))) (h := h + 12) (e0 := .inr (3, [.int 0, .null, .null, .null, .null, .null, .null])) (As := []) (rest := [.ref (h + 12), .ref h]) ⟨hx, hb, hml, hown, hts⟩ (kC_X3 l (h + 12)) (cwN 0 hts gX7_init_X3_init_n20 rfl rfl rfl (hts (.initialized RX3) (by decide +kernel)) hK.2.2.2.1 (hts (.instanceMethod yX3_init) (by decide +kernel)) rfl (by decide +kernel) ⟨Nat.le_of_ble_eq_true rfl, Nat.le_of_ble_eq_true rfl⟩) hK hP hD hS hA hz rfl hl.1 rfl (Nat.le_of_ble_eq_true rfl) dX7_init_20 ⟨Nat.le_of_ble_eq_true rfl, Nat.le_of_ble_eq_true rfl⟩ (fun H locs hP hD hS hz => ?_)
  rw [List.cons_append] at hP hD
  refine n_putF (ws := ((h, .inr (7, [.ref (h + 1), .null, .null, .null, .null, .int 0, .int 0, .int 0, .int 0, .int 0, .int 0, .int 0, .int 0, .int 0])) :: (KW X (h + 1) ++ HoW X (h + 12)))) (C := RX7) (T := TX7) (N := 14) (ty := .object "BakeTurns$Houses") (fs := [.ref (h + 1), .null, .null, .null, .null, .int 0, .int 0, .int 0, .int 0, .int 0, .int 0, .int 0, .int 0, .int 0]) hx hb hts (show ∀ w ∈ wsX70, w ∈ wsX7_init from iC7_7) tyX7 tyX7_ok nmX7 hown hK hP hD hS 0 rfl rfl 1 (by decide) (hts (.fieldLink RX7 21 (TX7 1).1 (TX7 1).2.1 (TX7 1).2.2.1) (by decide +kernel)) rfl hin rfl (by decide +kernel) rfl rfl (Nat.le_of_ble_eq_true rfl) dX7_init_23 (fun H locs hP hD hS hz2 => ?_)
  rw [List.set_cons_zero] at hP hD
  have hP : va_P (xD X) vwCl (((h, .inr (7, [.ref (h + 1), .ref (h + 12), .null, .null, .null, .int 0, .int 0, .int 0, .int 0, .int 0, .int 0, .int 0, .int 0, .int 0])) :: (KW X (h + 1) ++ HoW X (h + 12)))) H := hP
  have hD : va_D (nA h) (((h, .inr (7, [.ref (h + 1), .ref (h + 12), .null, .null, .null, .int 0, .int 0, .int 0, .int 0, .int 0, .int 0, .int 0, .int 0, .int 0])) :: (KW X (h + 1) ++ HoW X (h + 12)))) := hD
  have hz : H.size = h + 25 := hz2.trans hz
  refine lv_aload_n hx hb dX7_init_26 rfl (lv_at hl 0 rfl) ?_
  refine n_new (ci := 1) (C := RX1) (T := TX1) (N := 9) (fs := [.int 0, .null, .null, .null, .null, .null, .null, .null, .null]) (z := h + 25) hx hb hts (show ∀ w ∈ wsX10, w ∈ wsX7_init from iC7_1) tyX1 tyX1_ok hown (hts (.classLink RX7 25 RX1) (by decide +kernel)) (hts (.instantiable RX1 9) (by decide +kernel)) (hts (.initialized RX1) (by decide +kernel)) hK hP hD hS hA hz rfl (fun j hj => by rcases (show j = 0 ∨ j = 1 ∨ j = 2 ∨ j = 3 ∨ j = 4 ∨ j = 5 ∨ j = 6 ∨ j = 7 ∨ j = 8 by omega) with rfl | rfl | rfl | rfl | rfl | rfl | rfl | rfl | rfl <;> rfl) (Nat.le_of_ble_eq_true rfl) (Nat.le_of_ble_eq_true rfl) dX7_init_27 (fun H hP hD hS hz => ?_)
  refine lv_dup hx hb dX7_init_30 rfl ?_
  refine n_callN (ws := ((h, .inr (7, [.ref (h + 1), .ref (h + 12), .null, .null, .null, .int 0, .int 0, .int 0, .int 0, .int 0, .int 0, .int 0, .int 0, .int 0])) :: (KW X (h + 1) ++ HoW X (h + 12)))) (h := h + 25) (e0 := .inr (1, [.int 0, .null, .null, .null, .null, .null, .null, .null, .null])) (As := []) (rest := [.ref (h + 25), .ref h]) ⟨hx, hb, hml, hown, hts⟩ (kC_X1 l (h + 25)) (cwN 0 hts gX7_init_X1_init_n27 rfl rfl rfl (hts (.initialized RX1) (by decide +kernel)) hK.2.2.2.2.1 (hts (.instanceMethod yX1_init) (by decide +kernel)) rfl (by decide +kernel) ⟨Nat.le_of_ble_eq_true rfl, Nat.le_of_ble_eq_true rfl⟩) hK hP hD hS hA hz rfl hl.1 rfl (Nat.le_of_ble_eq_true rfl) dX7_init_31 ⟨Nat.le_of_ble_eq_true rfl, Nat.le_of_ble_eq_true rfl⟩ (fun H locs hP hD hS hz => ?_)
  rw [List.cons_append] at hP hD
  refine n_putF (ws := ((h, .inr (7, [.ref (h + 1), .ref (h + 12), .null, .null, .null, .int 0, .int 0, .int 0, .int 0, .int 0, .int 0, .int 0, .int 0, .int 0])) :: ((KW X (h + 1) ++ HoW X (h + 12)) ++ DoW X (h + 25)))) (C := RX7) (T := TX7) (N := 14) (ty := .object "BakeTurns$Doughs") (fs := [.ref (h + 1), .ref (h + 12), .null, .null, .null, .int 0, .int 0, .int 0, .int 0, .int 0, .int 0, .int 0, .int 0, .int 0]) hx hb hts (show ∀ w ∈ wsX70, w ∈ wsX7_init from iC7_7) tyX7 tyX7_ok nmX7 hown hK hP hD hS 0 rfl rfl 2 (by decide) (hts (.fieldLink RX7 28 (TX7 2).1 (TX7 2).2.1 (TX7 2).2.2.1) (by decide +kernel)) rfl hin rfl (by decide +kernel) rfl rfl (Nat.le_of_ble_eq_true rfl) dX7_init_34 (fun H locs hP hD hS hz2 => ?_)
  rw [List.set_cons_zero] at hP hD
  have hP : va_P (xD X) vwCl (((h, .inr (7, [.ref (h + 1), .ref (h + 12), .ref (h + 25), .null, .null, .int 0, .int 0, .int 0, .int 0, .int 0, .int 0, .int 0, .int 0, .int 0])) :: ((KW X (h + 1) ++ HoW X (h + 12)) ++ DoW X (h + 25)))) H := hP
  have hD : va_D (nA h) (((h, .inr (7, [.ref (h + 1), .ref (h + 12), .ref (h + 25), .null, .null, .int 0, .int 0, .int 0, .int 0, .int 0, .int 0, .int 0, .int 0, .int 0])) :: ((KW X (h + 1) ++ HoW X (h + 12)) ++ DoW X (h + 25)))) := hD
  have hz : H.size = h + 42 := hz2.trans hz
  refine lv_aload_n hx hb dX7_init_37 rfl (lv_at hl 0 rfl) ?_
  refine n_new (ci := 5) (C := RX5) (T := TX5) (N := 3) (fs := [.null, .null, .null]) (z := h + 42) hx hb hts (show ∀ w ∈ wsX50, w ∈ wsX7_init from iC7_5) tyX5 tyX5_ok hown (hts (.classLink RX7 32 RX5) (by decide +kernel)) (hts (.instantiable RX5 3) (by decide +kernel)) (hts (.initialized RX5) (by decide +kernel)) hK hP hD hS hA hz rfl (fun j hj => by rcases (show j = 0 ∨ j = 1 ∨ j = 2 by omega) with rfl | rfl | rfl <;> rfl) (Nat.le_of_ble_eq_true rfl) (Nat.le_of_ble_eq_true rfl) dX7_init_38 (fun H hP hD hS hz => ?_)
  refine lv_dup hx hb dX7_init_41 rfl ?_
  refine n_call (ws := ((h, .inr (7, [.ref (h + 1), .ref (h + 12), .ref (h + 25), .null, .null, .int 0, .int 0, .int 0, .int 0, .int 0, .int 0, .int 0, .int 0, .int 0])) :: ((KW X (h + 1) ++ HoW X (h + 12)) ++ DoW X (h + 25)))) (h := h + 42) (e0 := .inr (5, [.null, .null, .null])) (As := []) (rest := [.ref (h + 42), .ref h]) ⟨hx, hb, hml, hown, hts⟩ (kC_X5 l (h + 42)) (cwI 0 hts gX7_init_X5_init rfl rfl rfl (hts (.initialized RX5) (by decide +kernel)) (hts (.methodLink RX7 34 yX5_init) (by decide +kernel)) (hts (.instanceMethod yX5_init) (by decide +kernel)) rfl (by decide +kernel) ⟨Nat.le_of_ble_eq_true rfl, Nat.le_of_ble_eq_true rfl⟩) hK hP hD hS hA hz rfl hl.1 rfl (Nat.le_of_ble_eq_true rfl) dX7_init_42 ⟨Nat.le_of_ble_eq_true rfl, Nat.le_of_ble_eq_true rfl⟩ (fun H locs hP hD hS hz => ?_)
  rw [List.cons_append] at hP hD
  refine n_putF (ws := ((h, .inr (7, [.ref (h + 1), .ref (h + 12), .ref (h + 25), .null, .null, .int 0, .int 0, .int 0, .int 0, .int 0, .int 0, .int 0, .int 0, .int 0])) :: (((KW X (h + 1) ++ HoW X (h + 12)) ++ DoW X (h + 25)) ++ PlW X (h + 42)))) (C := RX7) (T := TX7) (N := 14) (ty := .object "BakeTurns$Places") (fs := [.ref (h + 1), .ref (h + 12), .ref (h + 25), .null, .null, .int 0, .int 0, .int 0, .int 0, .int 0, .int 0, .int 0, .int 0, .int 0]) hx hb hts (show ∀ w ∈ wsX70, w ∈ wsX7_init from iC7_7) tyX7 tyX7_ok nmX7 hown hK hP hD hS 0 rfl rfl 3 (by decide) (hts (.fieldLink RX7 35 (TX7 3).1 (TX7 3).2.1 (TX7 3).2.2.1) (by decide +kernel)) rfl hin rfl (by decide +kernel) rfl rfl (Nat.le_of_ble_eq_true rfl) dX7_init_45 (fun H locs hP hD hS hz2 => ?_)
  rw [List.set_cons_zero] at hP hD
  have hP : va_P (xD X) vwCl (((h, .inr (7, [.ref (h + 1), .ref (h + 12), .ref (h + 25), .ref (h + 42), .null, .int 0, .int 0, .int 0, .int 0, .int 0, .int 0, .int 0, .int 0, .int 0])) :: (((KW X (h + 1) ++ HoW X (h + 12)) ++ DoW X (h + 25)) ++ PlW X (h + 42)))) H := hP
  have hD : va_D (nA h) (((h, .inr (7, [.ref (h + 1), .ref (h + 12), .ref (h + 25), .ref (h + 42), .null, .int 0, .int 0, .int 0, .int 0, .int 0, .int 0, .int 0, .int 0, .int 0])) :: (((KW X (h + 1) ++ HoW X (h + 12)) ++ DoW X (h + 25)) ++ PlW X (h + 42)))) := hD
  have hz : H.size = h + 49 := hz2.trans hz
  refine lv_aload_n hx hb dX7_init_48 rfl (lv_at hl 0 rfl) ?_
  refine n_new (ci := 6) (C := RX6) (T := TX6) (N := 1) (fs := [.null]) (z := h + 49) hx hb hts (show ∀ w ∈ wsX60, w ∈ wsX7_init from iC7_6) tyX6 tyX6_ok hown (hts (.classLink RX7 39 RX6) (by decide +kernel)) (hts (.instantiable RX6 1) (by decide +kernel)) (hts (.initialized RX6) (by decide +kernel)) hK hP hD hS hA hz rfl (fun j hj => by rcases (show j = 0 by omega) with rfl <;> rfl) (Nat.le_of_ble_eq_true rfl) (Nat.le_of_ble_eq_true rfl) dX7_init_49 (fun H hP hD hS hz => ?_)
  refine lv_dup hx hb dX7_init_52 rfl ?_
  refine lv_bipush (v := nI 16) hx hb dX7_init_53 (by decide) ?_
  refine n_call (ws := ((h, .inr (7, [.ref (h + 1), .ref (h + 12), .ref (h + 25), .ref (h + 42), .null, .int 0, .int 0, .int 0, .int 0, .int 0, .int 0, .int 0, .int 0, .int 0])) :: (((KW X (h + 1) ++ HoW X (h + 12)) ++ DoW X (h + 25)) ++ PlW X (h + 42)))) (h := h + 49) (e0 := .inr (6, [.null])) (As := [.int (nI 16)]) (rest := [.ref (h + 49), .ref h]) ⟨hx, hb, hml, hown, hts⟩ (kC_X6 l (h + 49) 16 (by decide) (by decide)) (cwI 1 hts gX7_init_X6_init rfl rfl rfl (hts (.initialized RX6) (by decide +kernel)) (hts (.methodLink RX7 41 yX6_init) (by decide +kernel)) (hts (.instanceMethod yX6_init) (by decide +kernel)) rfl (by decide +kernel) ⟨Nat.le_of_ble_eq_true rfl, Nat.le_of_ble_eq_true rfl⟩) hK hP hD hS hA hz rfl hl.1 rfl (Nat.le_of_ble_eq_true rfl) dX7_init_55 ⟨Nat.le_of_ble_eq_true rfl, Nat.le_of_ble_eq_true rfl⟩ (fun H locs hP hD hS hz => ?_)
  rw [List.cons_append] at hP hD
  refine n_putF (ws := ((h, .inr (7, [.ref (h + 1), .ref (h + 12), .ref (h + 25), .ref (h + 42), .null, .int 0, .int 0, .int 0, .int 0, .int 0, .int 0, .int 0, .int 0, .int 0])) :: ((((KW X (h + 1) ++ HoW X (h + 12)) ++ DoW X (h + 25)) ++ PlW X (h + 42)) ++ RWf X (h + 49) 16 zF))) (C := RX7) (T := TX7) (N := 14) (ty := .object "BakeTurns$Row") (fs := [.ref (h + 1), .ref (h + 12), .ref (h + 25), .ref (h + 42), .null, .int 0, .int 0, .int 0, .int 0, .int 0, .int 0, .int 0, .int 0, .int 0]) hx hb hts (show ∀ w ∈ wsX70, w ∈ wsX7_init from iC7_7) tyX7 tyX7_ok nmX7 hown hK hP hD hS 0 rfl rfl 4 (by decide) (hts (.fieldLink RX7 44 (TX7 4).1 (TX7 4).2.1 (TX7 4).2.2.1) (by decide +kernel)) rfl hin rfl (by decide +kernel) rfl rfl (Nat.le_of_ble_eq_true rfl) dX7_init_58 (fun H locs hP hD hS hz2 => ?_)
  rw [List.set_cons_zero] at hP hD
  have hP : va_P (xD X) vwCl (((h, .inr (7, [.ref (h + 1), .ref (h + 12), .ref (h + 25), .ref (h + 42), .ref (h + 49), .int 0, .int 0, .int 0, .int 0, .int 0, .int 0, .int 0, .int 0, .int 0])) :: ((((KW X (h + 1) ++ HoW X (h + 12)) ++ DoW X (h + 25)) ++ PlW X (h + 42)) ++ RWf X (h + 49) 16 zF))) H := hP
  have hD : va_D (nA h) (((h, .inr (7, [.ref (h + 1), .ref (h + 12), .ref (h + 25), .ref (h + 42), .ref (h + 49), .int 0, .int 0, .int 0, .int 0, .int 0, .int 0, .int 0, .int 0, .int 0])) :: ((((KW X (h + 1) ++ HoW X (h + 12)) ++ DoW X (h + 25)) ++ PlW X (h + 42)) ++ RWf X (h + 49) 16 zF))) := hD
  have hz : H.size = h + 51 := hz2.trans hz
  refine W.widen (k := 50) (n := 301) (Nat.le_of_ble_eq_true rfl) (Nat.le_of_ble_eq_true rfl) ?_
  exact n_vret hx hb hr hlocks hP hD hS hz dX7_init_61
def CmW (X : bkX) (h : Nat) : va_W := ((h, .inr (0, [.ref (h + 1), .ref (h + 3), .int 0, .int 0, .int 0, .int (-1)])) :: (RWf X (h + 1) 150 zF ++ RWf X (h + 3) 5 zF))
set_option maxHeartbeats 4000000 in
set_option maxRecDepth 100000 in
theorem kC_X0 (l : Launch) {X : bkX} (h : Nat) : cN l yX0_init wsX0_init ({ frames := 2, cells := 4, slots := 157, locals := 33 } : Room) X [.ref h] h (.inr (0, [.null, .null, .int 0, .int 0, .int 0, .int 0])) 4 (CmW X h) 4 157 := by
  refine Met.ofW (cc := cX0_init) (maxL := 1) (ret := none) (by decide) rfl ?_
  intro p e s m args below meth c s₁ B hml hv
  obtain ⟨ha, hz, hP, hK⟩ := hv
  have hx := B.exec
  have hb := B.bytes
  have hr := B.returns
  have hts := atoms_spec (ws := wsX0_init) B.pre
  have hown : s.vm.findClass RX0 = some m.cls := findClass_of_methodNamed B.named
  have hlocks := B.notSynchronized
  have hin : meth.name = "<init>" := (name_of_methodNamed B.named B.method).1
  have hS : va_S (nA h) s.heap s.heap [] := va_S.rf
  have hA : ∀ q : Nat, s.heap.size ≤ q → nA h q := fun q hq => by show h ≤ q; omega
  have hl := lv_entry ([.ref h]) (n := 1) (Nat.le_of_ble_eq_true rfl)
  refine W.eq ((congrArg (fun z => entryFrame m z 1) ha).trans (lg_entry_eq m _ 1)) ?_
  generalize (lg_sl ([.ref h]) ++ List.replicate (1 - (lg_sl ([.ref h])).length) Slot.unset).toArray = ls at hl ⊢
  have hl : lv_has ls 1 [(0, .ref h)] := hl
  have hD : va_D (nA h) [(h, .inr (0, [.null, .null, .int 0, .int 0, .int 0, .int 0]))] := nD1 (Nat.le_refl h)
  refine lv_aload_n hx hb dX0_init_0 rfl (lv_at hl 0 rfl) ?_
  refine W.objInit hx hb hown (hts (.methodLink RX0 3 objectInit) (by decide +kernel)) (hts (.instanceMethod objectInit) (by decide +kernel)) (hts (.code objectInit ⟨#[0xb1]⟩ 1 none) (by decide +kernel)) rfl (by rw [hml]; exact hl.1) rfl dX0_init_1 (Nat.le_of_ble_eq_true rfl) (Nat.le_of_ble_eq_true rfl) ?_
  refine W.eq (g2 := F0 m 4 ls []) rfl ?_
  refine lv_aload_n hx hb dX0_init_4 rfl (lv_at hl 0 rfl) ?_
  refine n_new (ci := 6) (C := RX6) (T := TX6) (N := 1) (fs := [.null]) (z := h + 1) hx hb hts (show ∀ w ∈ wsX60, w ∈ wsX0_init from iC0_6) tyX6 tyX6_ok hown (hts (.classLink RX0 9 RX6) (by decide +kernel)) (hts (.instantiable RX6 1) (by decide +kernel)) (hts (.initialized RX6) (by decide +kernel)) hK hP hD hS hA hz rfl (fun j hj => by rcases (show j = 0 by omega) with rfl <;> rfl) (Nat.le_of_ble_eq_true rfl) (Nat.le_of_ble_eq_true rfl) dX0_init_5 (fun H hP hD hS hz => ?_)
  refine lv_dup hx hb dX0_init_8 rfl ?_
  refine lv_sipush (v := nI 150) hx hb dX0_init_9 (by decide) ?_
  refine n_call (ws := [(h, .inr (0, [.null, .null, .int 0, .int 0, .int 0, .int 0]))]) (h := h + 1) (e0 := .inr (6, [.null])) (As := [.int (nI 150)]) (rest := [.ref (h + 1), .ref h]) ⟨hx, hb, hml, hown, hts⟩ (kC_X6 l (h + 1) 150 (by decide) (by decide)) (cwI 1 hts gX0_init_X6_init rfl rfl rfl (hts (.initialized RX6) (by decide +kernel)) (hts (.methodLink RX0 11 yX6_init) (by decide +kernel)) (hts (.instanceMethod yX6_init) (by decide +kernel)) rfl (by decide +kernel) ⟨Nat.le_of_ble_eq_true rfl, Nat.le_of_ble_eq_true rfl⟩) hK hP hD hS hA hz rfl hl.1 rfl (Nat.le_of_ble_eq_true rfl) dX0_init_12 ⟨Nat.le_of_ble_eq_true rfl, Nat.le_of_ble_eq_true rfl⟩ (fun H locs hP hD hS hz => ?_)
  rw [List.cons_append, List.nil_append] at hP hD
  refine n_putF (ws := ((h, .inr (0, [.null, .null, .int 0, .int 0, .int 0, .int 0])) :: RWf X (h + 1) 150 zF)) (C := RX0) (T := TX0) (N := 6) (ty := .object "BakeTurns$Row") (fs := [.null, .null, .int 0, .int 0, .int 0, .int 0]) hx hb hts (show ∀ w ∈ wsX00, w ∈ wsX0_init from iC0_0) tyX0 tyX0_ok nmX0 hown hK hP hD hS 0 rfl rfl 0 (by decide) (hts (.fieldLink RX0 14 (TX0 0).1 (TX0 0).2.1 (TX0 0).2.2.1) (by decide +kernel)) rfl hin rfl (by decide +kernel) rfl rfl (Nat.le_of_ble_eq_true rfl) dX0_init_15 (fun H locs hP hD hS hz2 => ?_)
  rw [List.set_cons_zero] at hP hD
  have hP : va_P (xD X) vwCl (((h, .inr (0, [.ref (h + 1), .null, .int 0, .int 0, .int 0, .int 0])) :: RWf X (h + 1) 150 zF)) H := hP
  have hD : va_D (nA h) (((h, .inr (0, [.ref (h + 1), .null, .int 0, .int 0, .int 0, .int 0])) :: RWf X (h + 1) 150 zF)) := hD
  have hz : H.size = h + 3 := hz2.trans hz
  refine lv_aload_n hx hb dX0_init_18 rfl (lv_at hl 0 rfl) ?_
  refine n_new (ci := 6) (C := RX6) (T := TX6) (N := 1) (fs := [.null]) (z := h + 3) hx hb hts (show ∀ w ∈ wsX60, w ∈ wsX0_init from iC0_6) tyX6 tyX6_ok hown (hts (.classLink RX0 9 RX6) (by decide +kernel)) (hts (.instantiable RX6 1) (by decide +kernel)) (hts (.initialized RX6) (by decide +kernel)) hK hP hD hS hA hz rfl (fun j hj => by rcases (show j = 0 by omega) with rfl <;> rfl) (Nat.le_of_ble_eq_true rfl) (Nat.le_of_ble_eq_true rfl) dX0_init_19 (fun H hP hD hS hz => ?_)
  refine lv_dup hx hb dX0_init_22 rfl ?_
  refine lv_iconst (v := nI 5) hx hb dX0_init_23 (by decide) ?_
  refine n_call (ws := ((h, .inr (0, [.ref (h + 1), .null, .int 0, .int 0, .int 0, .int 0])) :: RWf X (h + 1) 150 zF)) (h := h + 3) (e0 := .inr (6, [.null])) (As := [.int (nI 5)]) (rest := [.ref (h + 3), .ref h]) ⟨hx, hb, hml, hown, hts⟩ (kC_X6 l (h + 3) 5 (by decide) (by decide)) (cwI 1 hts gX0_init_X6_init rfl rfl rfl (hts (.initialized RX6) (by decide +kernel)) (hts (.methodLink RX0 11 yX6_init) (by decide +kernel)) (hts (.instanceMethod yX6_init) (by decide +kernel)) rfl (by decide +kernel) ⟨Nat.le_of_ble_eq_true rfl, Nat.le_of_ble_eq_true rfl⟩) hK hP hD hS hA hz rfl hl.1 rfl (Nat.le_of_ble_eq_true rfl) dX0_init_24 ⟨Nat.le_of_ble_eq_true rfl, Nat.le_of_ble_eq_true rfl⟩ (fun H locs hP hD hS hz => ?_)
  rw [List.cons_append] at hP hD
  refine n_putF (ws := ((h, .inr (0, [.ref (h + 1), .null, .int 0, .int 0, .int 0, .int 0])) :: (RWf X (h + 1) 150 zF ++ RWf X (h + 3) 5 zF))) (C := RX0) (T := TX0) (N := 6) (ty := .object "BakeTurns$Row") (fs := [.ref (h + 1), .null, .int 0, .int 0, .int 0, .int 0]) hx hb hts (show ∀ w ∈ wsX00, w ∈ wsX0_init from iC0_0) tyX0 tyX0_ok nmX0 hown hK hP hD hS 0 rfl rfl 1 (by decide) (hts (.fieldLink RX0 20 (TX0 1).1 (TX0 1).2.1 (TX0 1).2.2.1) (by decide +kernel)) rfl hin rfl (by decide +kernel) rfl rfl (Nat.le_of_ble_eq_true rfl) dX0_init_27 (fun H locs hP hD hS hz2 => ?_)
  rw [List.set_cons_zero] at hP hD
  have hP : va_P (xD X) vwCl (((h, .inr (0, [.ref (h + 1), .ref (h + 3), .int 0, .int 0, .int 0, .int 0])) :: (RWf X (h + 1) 150 zF ++ RWf X (h + 3) 5 zF))) H := hP
  have hD : va_D (nA h) (((h, .inr (0, [.ref (h + 1), .ref (h + 3), .int 0, .int 0, .int 0, .int 0])) :: (RWf X (h + 1) 150 zF ++ RWf X (h + 3) 5 zF))) := hD
  have hz : H.size = h + 5 := hz2.trans hz
  refine lv_aload_n hx hb dX0_init_30 rfl (lv_at hl 0 rfl) ?_
  refine lv_iconst (v := -1) hx hb dX0_init_31 (by decide) ?_
  refine n_put (ws := ((h, .inr (0, [.ref (h + 1), .ref (h + 3), .int 0, .int 0, .int 0, .int 0])) :: (RWf X (h + 1) 150 zF ++ RWf X (h + 3) 5 zF))) (C := RX0) (T := TX0) (N := 6) (ty := .int) (fs := [.ref (h + 1), .ref (h + 3), .int 0, .int 0, .int 0, .int 0]) hx hb hts (show ∀ w ∈ wsX00, w ∈ wsX0_init from iC0_0) tyX0 tyX0_ok nmX0 hown hK hP hD hS 0 rfl rfl 5 (by decide) (hts (.fieldLink RX0 23 (TX0 5).1 (TX0 5).2.1 (TX0 5).2.2.1) (by decide +kernel)) rfl (by decide +kernel) rfl rfl (Nat.le_of_ble_eq_true rfl) dX0_init_32 (fun H locs hP hD hS hz2 => ?_)
  have hP : va_P (xD X) vwCl (((h, .inr (0, [.ref (h + 1), .ref (h + 3), .int 0, .int 0, .int 0, .int (-1)])) :: (RWf X (h + 1) 150 zF ++ RWf X (h + 3) 5 zF))) H := hP
  have hD : va_D (nA h) (((h, .inr (0, [.ref (h + 1), .ref (h + 3), .int 0, .int 0, .int 0, .int (-1)])) :: (RWf X (h + 1) 150 zF ++ RWf X (h + 3) 5 zF))) := hD
  have hz : H.size = h + 5 := by omega
  refine W.widen (k := 4) (n := 157) (Nat.le_of_ble_eq_true rfl) (Nat.le_of_ble_eq_true rfl) ?_
  exact n_vret hx hb hr hlocks hP hD hS hz dX0_init_35
