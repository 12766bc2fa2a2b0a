/-! a State's fields, its Rows' methods -/
theorem vp_in_of2 {i : Int32} {n : Nat} (hn : n < 2^31) (h1 : ¬ i < 0) (h2 : ¬ nI n ≤ i) : vp_in i n := by
  rcases pk_ix i hn with h | h | ⟨j, hj, rfl⟩
  · exact absurd h h1
  · exact absurd h h2
  · exact vp_in_nI hj hn
abbrev rmX6_at : Room := { frames := 0, cells := 0, slots := 0, locals := 0 }
abbrev rmX6_put : Room := { frames := 0, cells := 0, slots := 0, locals := 0 }
abbrev rmX6_increase : Room := { frames := 1, cells := 0, slots := 0, locals := 22 }
abbrev rmX6_fill : Room := { frames := 0, cells := 0, slots := 0, locals := 0 }
abbrev rmX6_copyFrom : Room := { frames := 1, cells := 0, slots := 0, locals := 60 }
theorem iX6_at_X6 : ∀ w ∈ wsX60, w ∈ wsX6_at := by decide +kernel
theorem iX6_put_X6 : ∀ w ∈ wsX60, w ∈ wsX6_put := by decide +kernel
theorem iX6_fill_X6 : ∀ w ∈ wsX60, w ∈ wsX6_fill := by decide +kernel
theorem iX6_copyFrom_X6 : ∀ w ∈ wsX60, w ∈ wsX6_copyFrom := by decide +kernel
set_option maxHeartbeats 4000000 in
set_option maxRecDepth 100000 in
theorem kR_at (l : Launch) {X : bkX} {b0 : Nat} {cr ca a n : Nat} (hR0 : RW X cr ca a n) (w : bkW) (i : Int32) : cI l yX6_at wsX6_at rmX6_at X b0 [.ref (xa X cr), .int i] w (rat n (w.1 a) i) w := by
  obtain ⟨⟨hcr, hca⟩, hn, heR, heA, -⟩ := hR0
  refine Met.ofW (cc := cX6_at) (maxL := 2) (ret := some .int) (by decide) rfl ?_
  intro p e s m args below meth c s₁ B hml hv
  obtain ⟨ha, hP, hK⟩ := hv
  have hx := B.exec
  have hb := B.bytes
  have hr := B.returns
  have hts := atoms_spec (ws := wsX6_at) B.pre
  have hown : s.vm.findClass RX6 = some m.cls := findClass_of_methodNamed B.named
  have hlocks := B.notSynchronized
  have hS : va_S (xF b0) s.heap s.heap [] := va_S.rf
  have hl := lv_entry ([.ref (xa X cr), .int i]) (n := 2) (Nat.le_of_ble_eq_true rfl)
  refine W.eq ((congrArg (fun z => entryFrame m z 2) ha).trans (lg_entry_eq m _ 2)) ?_
  generalize (lg_sl ([.ref (xa X cr), .int i]) ++ List.replicate (2 - (lg_sl ([.ref (xa X cr), .int i])).length) Slot.unset).toArray = ls at hl ⊢
  have hl : lv_has ls 2 [(0, .ref (xa X cr)), (1, .int i)] := hl
  have hk7 := hts (.fieldLink RX6 7 "BakeTurns$Row" "cells" "[I") (by decide +kernel)
  refine lv_iload_n hx hb dX6_at_0 rfl (lv_at hl 1 rfl) ?_
  refine lv_if_lt (tgt := 22) hx hb dX6_at_1 (by decide) (fun h1 => ?_) (fun h1 => ?_)
  · refine lv_iconst (v := 0) hx hb dX6_at_22 (by decide) ?_
    exact w_iret hx hb hr hlocks hP hK hS dX6_at_23 (by unfold rat; rw [if_pos h1]) rfl
  · refine lv_iload_n hx hb dX6_at_4 rfl (lv_at hl 1 rfl) ?_
    refine lv_aload_n hx hb dX6_at_5 rfl (lv_at hl 0 rfl) ?_
    refine w_get hx hb hts iX6_at_X6 hown hP hK hcr (heR w) rfl 0 (by decide) hk7 rfl dX6_at_6 ?_
    refine w_alen hx hb hP hK hca (heA w) dX6_at_9 ?_
    refine lv_icmp_ge (tgt := 22) hx hb dX6_at_10 (by decide) (fun h2 => ?_) (fun h2 => ?_)
    · refine lv_iconst (v := 0) hx hb dX6_at_22 (by decide) ?_
      exact w_iret hx hb hr hlocks hP hK hS dX6_at_23 (by unfold rat; rw [if_neg h1, if_pos h2]) rfl
    · refine lv_aload_n hx hb dX6_at_13 rfl (lv_at hl 0 rfl) ?_
      refine w_get hx hb hts iX6_at_X6 hown hP hK hcr (heR w) rfl 0 (by decide) hk7 rfl dX6_at_14 ?_
      refine lv_iload_n hx hb dX6_at_17 rfl (lv_at hl 1 rfl) ?_
      refine w_iald hx hb hP hK hca (heA w) (vp_in_of2 hn h1 h2) dX6_at_18 ?_
      refine lv_goto (tgt := 23) hx hb dX6_at_19 (by decide) ?_
      exact w_iret hx hb hr hlocks hP hK hS dX6_at_23 (by unfold rat; rw [if_neg h1, if_neg h2]) rfl
set_option maxHeartbeats 4000000 in
set_option maxRecDepth 100000 in
theorem kR_put (l : Launch) {X : bkX} {b0 : Nat} (hX : XO X b0) {cr ca a n : Nat} (hR0 : RW X cr ca a n) (w : bkW) (i v : Int32) : cV l yX6_put wsX6_put rmX6_put X b0 [.ref (xa X cr), .int i, .int v] w (ua w a (rput n (w.1 a) i v)) := by
  obtain ⟨⟨hcr, hca⟩, hn, heR, heA, heU⟩ := hR0
  have hself : ua w a (w.1 a) = w := Prod.ext (funext fun j => by show ur w.1 a (w.1 a) j = w.1 j; unfold ur; by_cases h : j = a <;> simp [h]) rfl
  refine Met.ofW (cc := cX6_put) (maxL := 3) (ret := none) (by decide) rfl ?_
  intro p e s m args below meth c s₁ B hml hv
  obtain ⟨ha, hP, hK⟩ := hv
  have hx := B.exec
  have hb := B.bytes
  have hr := B.returns
  have hts := atoms_spec (ws := wsX6_put) B.pre
  have hown : s.vm.findClass RX6 = some m.cls := findClass_of_methodNamed B.named
  have hlocks := B.notSynchronized
  have hS : va_S (xF b0) s.heap s.heap [] := va_S.rf
  have hl := lv_entry ([.ref (xa X cr), .int i, .int v]) (n := 3) (Nat.le_of_ble_eq_true rfl)
  refine W.eq ((congrArg (fun z => entryFrame m z 3) ha).trans (lg_entry_eq m _ 3)) ?_
  generalize (lg_sl ([.ref (xa X cr), .int i, .int v]) ++ List.replicate (3 - (lg_sl ([.ref (xa X cr), .int i, .int v])).length) Slot.unset).toArray = ls at hl ⊢
  have hl : lv_has ls 3 [(0, .ref (xa X cr)), (1, .int i), (2, .int v)] := hl
  have hk7 := hts (.fieldLink RX6 7 "BakeTurns$Row" "cells" "[I") (by decide +kernel)
  refine lv_iload_n hx hb dX6_put_0 rfl (lv_at hl 1 rfl) ?_
  refine lv_if_lt (tgt := 20) hx hb dX6_put_1 (by decide) (fun h1 => ?_) (fun h1 => ?_)
  · exact w_vret hx hb hr hlocks hP hK hS dX6_put_20 (by unfold rput; rw [if_pos h1, hself])
  · refine lv_iload_n hx hb dX6_put_4 rfl (lv_at hl 1 rfl) ?_
    refine lv_aload_n hx hb dX6_put_5 rfl (lv_at hl 0 rfl) ?_
    refine w_get hx hb hts iX6_put_X6 hown hP hK hcr (heR w) rfl 0 (by decide) hk7 rfl dX6_put_6 ?_
    refine w_alen hx hb hP hK hca (heA w) dX6_put_9 ?_
    refine lv_icmp_ge (tgt := 20) hx hb dX6_put_10 (by decide) (fun h2 => ?_) (fun h2 => ?_)
    · exact w_vret hx hb hr hlocks hP hK hS dX6_put_20 (by unfold rput; rw [if_neg h1, if_pos h2, hself])
    · refine lv_aload_n hx hb dX6_put_13 rfl (lv_at hl 0 rfl) ?_
      refine w_get hx hb hts iX6_put_X6 hown hP hK hcr (heR w) rfl 0 (by decide) hk7 rfl dX6_put_14 ?_
      refine lv_iload_n hx hb dX6_put_17 rfl (lv_at hl 1 rfl) ?_
      refine lv_iload_n hx hb dX6_put_18 rfl (lv_at hl 2 rfl) ?_
      refine w_iast hx hb hX hP hK hS hca (heA w) (vp_in_of2 hn h1 h2) (heU w _) dX6_put_19 (fun H locs hP hS => ?_)
      exact w_vret hx hb hr hlocks hP hK hS dX6_put_20 (by unfold rput; rw [if_neg h1, if_neg h2])
set_option maxHeartbeats 4000000 in
set_option maxRecDepth 100000 in
theorem kR_increase (l : Launch) {X : bkX} {b0 : Nat} (hX : XO X b0) {cr ca a n : Nat} (hR0 : RW X cr ca a n) (w : bkW) (i v : Int32) : cV l yX6_increase wsX6_increase rmX6_increase X b0 [.ref (xa X cr), .int i, .int v] w (ua w a (rinc n (w.1 a) i v)) := by
  obtain ⟨⟨hcr, hca⟩, hn, heR, heA, heU⟩ := id hR0
  refine Met.ofW (cc := cX6_increase) (maxL := 3) (ret := none) (by decide) rfl ?_
  intro p e s m args below meth c s₁ B hml hv
  obtain ⟨ha, hP, hK⟩ := hv
  have hx := B.exec
  have hb := B.bytes
  have hr := B.returns
  have hts := atoms_spec (ws := wsX6_increase) B.pre
  have hown : s.vm.findClass RX6 = some m.cls := findClass_of_methodNamed B.named
  have hlocks := B.notSynchronized
  have hS : va_S (xF b0) s.heap s.heap [] := va_S.rf
  have hl := lv_entry ([.ref (xa X cr), .int i, .int v]) (n := 3) (Nat.le_of_ble_eq_true rfl)
  refine W.eq ((congrArg (fun z => entryFrame m z 3) ha).trans (lg_entry_eq m _ 3)) ?_
  generalize (lg_sl ([.ref (xa X cr), .int i, .int v]) ++ List.replicate (3 - (lg_sl ([.ref (xa X cr), .int i, .int v])).length) Slot.unset).toArray = ls at hl ⊢
  have hl : lv_has ls 3 [(0, .ref (xa X cr)), (1, .int i), (2, .int v)] := hl
  refine lv_aload_n hx hb dX6_increase_0 rfl (lv_at hl 0 rfl) ?_
  refine lv_iload_n hx hb dX6_increase_1 rfl (lv_at hl 1 rfl) ?_
  refine lv_aload_n hx hb dX6_increase_2 rfl (lv_at hl 0 rfl) ?_
  refine lv_iload_n hx hb dX6_increase_3 rfl (lv_at hl 1 rfl) ?_
  refine w_ci ⟨hx, hb, hml, hown, hts⟩ hP hK hS (kR_at l hR0 w i) (cwV 1 hts gX6_increase_X6_at rfl rfl rfl (by decide +kernel) ⟨Nat.le_of_ble_eq_true rfl, Nat.le_of_ble_eq_true rfl⟩) (w_recv hP hK hcr (heR w) rfl) rfl hl.1 rfl (Nat.le_of_ble_eq_true rfl) dX6_increase_4 ⟨Nat.zero_le _, Nat.zero_le _⟩ (fun H locs hP hS => ?_)
  refine lv_iload_n hx hb dX6_increase_7 rfl (lv_at hl 2 rfl) ?_
  refine lv_iadd hx hb dX6_increase_8 ?_
  refine w_cv ⟨hx, hb, hml, hown, hts⟩ hP hK hS (kR_put l hX hR0 w i (rat n (w.1 a) i + v)) (cwV 2 hts gX6_increase_X6_put rfl rfl rfl (by decide +kernel) ⟨Nat.le_of_ble_eq_true rfl, Nat.le_of_ble_eq_true rfl⟩) (w_recv hP hK hcr (heR w) rfl) rfl hl.1 rfl (Nat.le_of_ble_eq_true rfl) dX6_increase_9 ⟨Nat.zero_le _, Nat.zero_le _⟩ (fun H locs hP hS => ?_)
  exact w_vret hx hb hr hlocks hP hK hS dX6_increase_12 rfl
set_option maxHeartbeats 4000000 in
set_option maxRecDepth 100000 in
theorem kR_fill (l : Launch) {X : bkX} {b0 : Nat} (hX : XO X b0) {cr ca a n : Nat} (hR0 : RW X cr ca a n) (w : bkW) (v : Int32) : cV l yX6_fill wsX6_fill rmX6_fill X b0 [.ref (xa X cr), .int v] w (ua w a (rfill n (w.1 a) v)) := by
  obtain ⟨⟨hcr, hca⟩, hn, heR, heA, heU⟩ := id hR0
  refine Met.ofW (cc := cX6_fill) (maxL := 3) (ret := none) (by decide) rfl ?_
  intro p e s m args below meth c s₁ B hml hv
  obtain ⟨ha, hP, hK⟩ := hv
  have hx := B.exec
  have hb := B.bytes
  have hr := B.returns
  have hts := atoms_spec (ws := wsX6_fill) B.pre
  have hown : s.vm.findClass RX6 = some m.cls := findClass_of_methodNamed B.named
  have hlocks := B.notSynchronized
  have hS : va_S (xF b0) s.heap s.heap [] := va_S.rf
  have hl := lv_entry ([.ref (xa X cr), .int v]) (n := 3) (Nat.le_of_ble_eq_true rfl)
  refine W.eq ((congrArg (fun z => entryFrame m z 3) ha).trans (lg_entry_eq m _ 3)) ?_
  generalize (lg_sl ([.ref (xa X cr), .int v]) ++ List.replicate (3 - (lg_sl ([.ref (xa X cr), .int v])).length) Slot.unset).toArray = ls at hl ⊢
  have hl : lv_has ls 3 [(0, .ref (xa X cr)), (1, .int v)] := hl
  have hk7 := hts (.fieldLink RX6 7 "BakeTurns$Row" "cells" "[I") (by decide +kernel)
  obtain ⟨Q, hQ⟩ : ∃ Q : State → Prop, Q = MQ below (va_Qv (fun (_ : Unit) => True) (fun _ t => WU X (ua w a (rfill n (w.1 a) v)) t) (xF b0)) args s 0 0 (xF b0) := ⟨_, rfl⟩
  rw [← hQ]
  generalize (headSpec wsX6_fill rmX6_fill).room = R
  have L2 : ∀ (d j : Nat) (H : Heap) (locs : List Loc) (ls : Array Slot), j + d = n → HW X (ua w a (fun t => if t < j then v else w.1 a t)) H → va_S (xF b0) s.heap H locs → lv_has ls 3 [(0, .ref (xa X cr)), (1, .int v), (2, .int (nI j))] → W p l e R s m args below meth c H locs 0 0 Q (F0 m 2 ls []) := by
    intro d
    induction d with
    | zero =>
      intro j H locs ls hj hP hS hl
      refine lv_iload_n hx hb dX6_fill_2 rfl (lv_at hl 2 rfl) ?_
      refine lv_aload_n hx hb dX6_fill_3 rfl (lv_at hl 0 rfl) ?_
      refine w_get hx hb hts iX6_fill_X6 hown hP hK hcr (heR _) rfl 0 (by decide) hk7 rfl dX6_fill_4 ?_
      refine w_alen hx hb hP hK hca (heA _) dX6_fill_7 ?_
      have hjn : j = n := by omega
      refine lv_icmp_ge (tgt := 24) hx hb dX6_fill_8 (by decide) (fun h2 => ?_) (fun h2 => ?_)
      · rw [hQ]
        exact w_vret hx hb hr hlocks hP hK hS dX6_fill_24 (by rw [hjn]; rfl)
      · exact absurd (by rw [hjn]; exact (nI_leI hn hn).mpr (Nat.le_refl _)) h2
    | succ d ih =>
      intro j H locs ls hj hP hS hl
      refine lv_iload_n hx hb dX6_fill_2 rfl (lv_at hl 2 rfl) ?_
      refine lv_aload_n hx hb dX6_fill_3 rfl (lv_at hl 0 rfl) ?_
      refine w_get hx hb hts iX6_fill_X6 hown hP hK hcr (heR _) rfl 0 (by decide) hk7 rfl dX6_fill_4 ?_
      refine w_alen hx hb hP hK hca (heA _) dX6_fill_7 ?_
      have hjn : j < n := by omega
      have hj31 : j < 2^31 := by omega
      refine lv_icmp_ge (tgt := 24) hx hb dX6_fill_8 (by decide) (fun h2 => ?_) (fun h2 => ?_)
      · exact absurd ((nI_leI hn hj31).mp h2) (by omega)
      · refine lv_aload_n hx hb dX6_fill_11 rfl (lv_at hl 0 rfl) ?_
        refine w_get hx hb hts iX6_fill_X6 hown hP hK hcr (heR _) rfl 0 (by decide) hk7 rfl dX6_fill_12 ?_
        refine lv_iload_n hx hb dX6_fill_15 rfl (lv_at hl 2 rfl) ?_
        refine lv_iload_n hx hb dX6_fill_16 rfl (lv_at hl 1 rfl) ?_
        refine w_iast (w' := ua w a (fun t => if t < j + 1 then v else w.1 a t)) hx hb hX hP hK hS hca (heA _) (vp_in_nI hjn hn) (fun i => ?_) dX6_fill_17 (fun H locs hP hS => ?_)
        · have e1 : upd ((ua w a (fun t => if t < j then v else w.1 a t)).1 a) (nI j).toNatClampNeg v = fun t => if t < j + 1 then v else w.1 a t := by
            funext t
            have e2 : (ua w a (fun t => if t < j then v else w.1 a t)).1 a = fun t => if t < j then v else w.1 a t := ur_s
            rw [e2, nI_clamp hj31]
            unfold upd
            by_cases h : t = j
            · rw [if_pos h, if_pos (by omega)]
            · rw [if_neg h]
              dsimp only
              by_cases h3 : t < j
              · rw [if_pos h3, if_pos (by omega)]
              · rw [if_neg h3, if_neg (by omega)]
          rw [e1, heU]
          have e3 : ua (ua w a (fun t => if t < j then v else w.1 a t)) a (fun t => if t < j + 1 then v else w.1 a t) = ua w a (fun t => if t < j + 1 then v else w.1 a t) := by
            unfold ua
            refine Prod.ext (funext fun q => ?_) rfl
            dsimp only
            by_cases h : q = a
            · subst h; rw [ur_s, ur_s]
            · rw [ur_n h, ur_n h, ur_n h]
          rw [e3]
        · refine lv_iinc (v := nI (j+1)) (lv' := [(2, .int (nI (j+1))), (0, .ref (xa X cr)), (1, .int v)]) hx hb dX6_fill_18 hl (k := 2) rfl (nI_1 j) (by decide) rfl (fun ls hl => ?_)
          refine lv_goto (tgt := 2) hx hb dX6_fill_21 (by decide) ?_
          exact ih (j+1) _ _ _ (by omega) hP hS (lv_sub hl [1, 2, 0] rfl)
  refine lv_iconst (v := 0) hx hb dX6_fill_0 (by decide) ?_
  refine lv_istore_n (lv' := [(2, .int 0), (0, .ref (xa X cr)), (1, .int v)]) hx hb dX6_fill_1 rfl hl (by decide) rfl (fun ls hl => ?_)
  have e0 : ua w a (fun t => if t < 0 then v else w.1 a t) = w := by
    unfold ua
    refine Prod.ext (funext fun q => ?_) rfl
    dsimp only
    by_cases h : q = a
    · subst h; rw [ur_s]; funext t; simp
    · rw [ur_n h]
  refine L2 n 0 _ _ _ (by omega) (by rw [e0]; exact hP) hS ?_
  rw [nI_0]
  exact lv_sub hl [1, 2, 0] rfl
