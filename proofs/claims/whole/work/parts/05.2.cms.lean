theorem vp_lt {x : Int32} {n : Nat} (hn : n < 2^31) (h : vp_in x n) : x.toNatClampNeg < n := by
  obtain ⟨j, hj, rfl⟩ := vp_in_of h hn
  rw [nI_clamp (by omega)]
  exact hj
theorem vp_eq {x : Int32} {n : Nat} (hn : n < 2^31) (h : vp_in x n) : nI x.toNatClampNeg = x := by
  obtain ⟨j, hj, rfl⟩ := vp_in_of h hn
  rw [nI_clamp (by omega)]
def m0_nameOf (a : Int32) : Nat := if a = 0 then 0 else if a = 1 then 1 else if a = 2 then 2 else if a = 3 then 3 else if a = 4 then 4 else if a = 5 then 5 else if a = 6 then 6 else 7
theorem m0_nameOf_lt (a : Int32) : m0_nameOf a < 8 := by
  unfold m0_nameOf
  repeat' split
  all_goals decide
abbrev rmX0_nameOf : Room := { frames := 0, cells := 0, slots := 0, locals := 0 }

set_option maxHeartbeats 4000000 in
set_option maxRecDepth 100000 in
theorem k0_nameOf (l : Launch) {X : bkX} {Y : bkY} {b0 : Nat} (a : Int32) (w : bkW) : cRS l yX0_nameOf wsX0_nameOf rmX0_nameOf X Y b0 [.int a] w (Y.1 (m0_nameOf a)) w := by
  refine Met.ofW (cc := cX0_nameOf) (maxL := 1) (ret := some (.object "java/lang/String")) (by decide) rfl ?_
  intro p e s m args below meth c s₁ B hml hv
  obtain ⟨ha, ⟨hP, hK⟩, hG⟩ := hv
  have hx := B.exec
  have hb := B.bytes
  have hr := B.returns
  have hts := atoms_spec (ws := wsX0_nameOf) B.pre
  have hown : s.vm.findClass RX0 = some m.cls := findClass_of_methodNamed B.named
  have hlocks := B.notSynchronized
  have hS : va_S (xF b0) s.heap s.heap [] := va_S.rf
  have hl := lv_entry ([.int a]) (n := 1) (Nat.le_of_ble_eq_true rfl)
  refine W.eq ((congrArg (fun z => entryFrame m z 1) ha).trans (lg_entry_eq m _ 1)) ?_
  generalize (lg_sl ([.int a]) ++ List.replicate (1 - (lg_sl ([.int a])).length) Slot.unset).toArray = ls at hl ⊢
  have hl : lv_has ls 1 [(0, .int a)] := hl
  obtain ⟨-, ⟨k0, k1, k2, k3, k4, k5, k6, k7⟩, -⟩ := id hG
  unfold m0_nameOf
  refine lv_iload_n hx hb dX0_nameOf_0 rfl (lv_at hl 0 rfl) ?_
  by_cases h0 : a = 0
  · rw [if_pos h0]
    refine lv_tableIn (off := 43) (tgt := 44) hx hb dX0_nameOf_1 (by rw [h0]; decide) (by rw [h0]; decide) (by rw [h0]; rfl) (by decide) ?_
    refine va_ldcS hx hb hown k0 dX0_nameOf_44 ?_
    exact W.aret hx hb hr (Or.inl ⟨_, rfl⟩) (Or.inr ⟨_, rfl⟩) (fun t ht hW => ⟨⟨(), _, rfl, trivial, rfl, by show HW X w t.heap; rw [ht]; exact hP, va_K.moved hW.alike hK⟩, hS.F ht⟩) hS.2.2 dX0_nameOf_46 hlocks
  rw [if_neg h0]
  by_cases h1 : a = 1
  · rw [if_pos h1]
    refine lv_tableIn (off := 46) (tgt := 47) hx hb dX0_nameOf_1 (by rw [h1]; decide) (by rw [h1]; decide) (by rw [h1]; rfl) (by decide) ?_
    refine va_ldcS hx hb hown k1 dX0_nameOf_47 ?_
    exact W.aret hx hb hr (Or.inl ⟨_, rfl⟩) (Or.inr ⟨_, rfl⟩) (fun t ht hW => ⟨⟨(), _, rfl, trivial, rfl, by show HW X w t.heap; rw [ht]; exact hP, va_K.moved hW.alike hK⟩, hS.F ht⟩) hS.2.2 dX0_nameOf_49 hlocks
  rw [if_neg h1]
  by_cases h2 : a = 2
  · rw [if_pos h2]
    refine lv_tableIn (off := 49) (tgt := 50) hx hb dX0_nameOf_1 (by rw [h2]; decide) (by rw [h2]; decide) (by rw [h2]; rfl) (by decide) ?_
    refine va_ldcS hx hb hown k2 dX0_nameOf_50 ?_
    exact W.aret hx hb hr (Or.inl ⟨_, rfl⟩) (Or.inr ⟨_, rfl⟩) (fun t ht hW => ⟨⟨(), _, rfl, trivial, rfl, by show HW X w t.heap; rw [ht]; exact hP, va_K.moved hW.alike hK⟩, hS.F ht⟩) hS.2.2 dX0_nameOf_52 hlocks
  rw [if_neg h2]
  by_cases h3 : a = 3
  · rw [if_pos h3]
    refine lv_tableIn (off := 52) (tgt := 53) hx hb dX0_nameOf_1 (by rw [h3]; decide) (by rw [h3]; decide) (by rw [h3]; rfl) (by decide) ?_
    refine va_ldcS hx hb hown k3 dX0_nameOf_53 ?_
    exact W.aret hx hb hr (Or.inl ⟨_, rfl⟩) (Or.inr ⟨_, rfl⟩) (fun t ht hW => ⟨⟨(), _, rfl, trivial, rfl, by show HW X w t.heap; rw [ht]; exact hP, va_K.moved hW.alike hK⟩, hS.F ht⟩) hS.2.2 dX0_nameOf_55 hlocks
  rw [if_neg h3]
  by_cases h4 : a = 4
  · rw [if_pos h4]
    refine lv_tableIn (off := 55) (tgt := 56) hx hb dX0_nameOf_1 (by rw [h4]; decide) (by rw [h4]; decide) (by rw [h4]; rfl) (by decide) ?_
    refine va_ldcS hx hb hown k4 dX0_nameOf_56 ?_
    exact W.aret hx hb hr (Or.inl ⟨_, rfl⟩) (Or.inr ⟨_, rfl⟩) (fun t ht hW => ⟨⟨(), _, rfl, trivial, rfl, by show HW X w t.heap; rw [ht]; exact hP, va_K.moved hW.alike hK⟩, hS.F ht⟩) hS.2.2 dX0_nameOf_58 hlocks
  rw [if_neg h4]
  by_cases h5 : a = 5
  · rw [if_pos h5]
    refine lv_tableIn (off := 58) (tgt := 59) hx hb dX0_nameOf_1 (by rw [h5]; decide) (by rw [h5]; decide) (by rw [h5]; rfl) (by decide) ?_
    refine va_ldcS hx hb hown k5 dX0_nameOf_59 ?_
    exact W.aret hx hb hr (Or.inl ⟨_, rfl⟩) (Or.inr ⟨_, rfl⟩) (fun t ht hW => ⟨⟨(), _, rfl, trivial, rfl, by show HW X w t.heap; rw [ht]; exact hP, va_K.moved hW.alike hK⟩, hS.F ht⟩) hS.2.2 dX0_nameOf_61 hlocks
  rw [if_neg h5]
  by_cases h6 : a = 6
  · rw [if_pos h6]
    refine lv_tableIn (off := 61) (tgt := 62) hx hb dX0_nameOf_1 (by rw [h6]; decide) (by rw [h6]; decide) (by rw [h6]; rfl) (by decide) ?_
    refine va_ldcS hx hb hown k6 dX0_nameOf_62 ?_
    exact W.aret hx hb hr (Or.inl ⟨_, rfl⟩) (Or.inr ⟨_, rfl⟩) (fun t ht hW => ⟨⟨(), _, rfl, trivial, rfl, by show HW X w t.heap; rw [ht]; exact hP, va_K.moved hW.alike hK⟩, hS.F ht⟩) hS.2.2 dX0_nameOf_64 hlocks
  rw [if_neg h6]
  have hdf : a.toInt < 0 ∨ 6 < a.toInt := by
    have g0 := ne_i (z := 0) h0 (by decide)
    have g1 := ne_i (z := 1) h1 (by decide)
    have g2 := ne_i (z := 2) h2 (by decide)
    have g3 := ne_i (z := 3) h3 (by decide)
    have g4 := ne_i (z := 4) h4 (by decide)
    have g5 := ne_i (z := 5) h5 (by decide)
    have g6 := ne_i (z := 6) h6 (by decide)
    omega
  refine lv_tableOut (tgt := 65) hx hb dX0_nameOf_1 hdf (by decide) ?_
  refine va_ldcS hx hb hown k7 dX0_nameOf_65 ?_
  exact W.aret hx hb hr (Or.inl ⟨_, rfl⟩) (Or.inr ⟨_, rfl⟩) (fun t ht hW => ⟨⟨(), _, rfl, trivial, rfl, by show HW X w t.heap; rw [ht]; exact hP, va_K.moved hW.alike hK⟩, hS.F ht⟩) hS.2.2 dX0_nameOf_67 hlocks
def m0_stands_L15 (N : Nat) (si : Nat) : Nat → (Int32) → (Int32) → (bkA) → Option (Int32)
  | 0, _, _, _ => none
  | n+1, x3, x4, c0 =>
    if (nI (skL.getD si 0)) ≤ x4 then
      some 1
    else
      ck x4 (skL.getD si 0) <|
      if (rat 150 (c0 0) (x3 + x4)) = (skC si x4.toNatClampNeg) then
        lt_ (x4 + 1) fun x8 =>
        m0_stands_L15 N si n x3 x8 c0
      else
        some 0
def m0_stands (N : Nat) (c0 : bkA) (si : Nat) (a2 : Int32) (a3 : Int32) : Option (Int32) :=
  if (nI (skL.getD si 0)) = (a3 - a2) then
    m0_stands_L15 N si N a2 0 c0
  else
    some 0
def m0_wordBetween_L2 (N : Nat) : Nat → (Int32) → (Int32) → (Int32) → (bkA) → Option (Int32)
  | 0, _, _, _, _ => none
  | n+1, x2, x3, x4, c0 =>
    if 8 ≤ x4 then
      some (-1)
    else
      ob1 (m0_stands N c0 (m0_nameOf x4) x2 x3) fun x6 =>
      if x6 = 0 then
        lt_ (x4 + 1) fun x9 =>
        m0_wordBetween_L2 N n x2 x3 x9 c0
      else
        some x4
def m0_wordBetween (N : Nat) (c0 : bkA) (a1 : Int32) (a2 : Int32) : Option (Int32) :=
  m0_wordBetween_L2 N N a1 a2 0 c0
def m0_readWord_L5 (N : Nat) : Nat → (Int32) → (bkA) → Option (bkA)
  | 0, _, _ => none
  | n+1, x3, c4 =>
    if (c4 2 0) ≤ (c4 2 1) then
      some c4
    else
      lt1 (m0_byteAtCursor c4) fun x7 =>
      lt1 (m0_isLetter x7) fun x9 =>
      if x9 = 0 then
        some c4
      else
        lt_ (ur c4 2 (upd (c4 2) 1 ((c4 2 1) + 1))) fun c12 =>
        m0_readWord_L5 N n x3 c12
def m0_readWord (N : Nat) (c0 : bkA) : Option (Int32 × bkA) :=
  lt_ (c0 2 1) fun x1 =>
  ob1 (m0_readWord_L5 N N x1 c0) fun c13 =>
  ob1 (m0_wordBetween N c13 x1 (c13 2 1)) fun x15 =>
  lt_ (ur c13 2 (upd (c13 2) 2 x15)) fun c17 =>
  if (c17 2 2) = (-1) then
    lt2 (m0_failAt c17 x1) fun x19 c20 =>
    if x19 = 0 then
      some (0, c20)
    else
      some (1, c20)
  else
    some (1, c17)
def m0_readNext_L34 (N : Nat) : Nat → (Int32) → (Int32) → (bkA) → Option (Int32 × bkA)
  | 0, _, _, _ => none
  | n+1, x11, x12, c13 =>
    if x11 ≤ x12 then
      ob1 (m0_skipSpaces N c13) fun c15 =>
      lt1 (m0_byteAtCursor c15) fun x17 =>
      if x17 = 59 then
        lt_ (ur c15 2 (upd (c15 2) 1 ((c15 2 1) + 1))) fun c20 =>
        some (1, c20)
      else
        lt2 (m0_failAt c15 (c15 2 1)) fun x21 c22 =>
        ckp (x21 = 0 ∨ x21 = 1) <|
        some (x21, c22)
    else
      ob2 (m0_readNumber N c13 x12) fun x25 c26 =>
      if x25 = 0 then
        some (0, c26)
      else
        lt_ (x12 + 1) fun x29 =>
        m0_readNext_L34 N n x11 x29 c26
def m0_readNext (N : Nat) (c0 : bkA) : Option (Int32 × bkA) :=
  ob1 (m0_skipSpaces N c0) fun c1 =>
  if (c1 2 0) ≤ (c1 2 1) then
    some (0, c1)
  else
    ob2 (m0_readWord N c1) fun x4 c5 =>
    if x4 = 0 then
      some (0, c5)
    else
      lt1 (m0_numbersOf (c5 2 2)) fun x8 =>
      m0_readNext_L34 N N x8 0 c5
def m0_findFault_L6 (N : Nat) : Nat → (Int32) → (bkA) → Option (Int32 × bkA)
  | 0, _, _ => none
  | n+1, x4, c5 =>
    if 150 ≤ x4 then
      some (c5 2 3, c5)
    else
      ob2 (m0_readNext N c5) fun x7 c8 =>
      if x7 = 0 then
        some (c8 2 3, c8)
      else
        lt_ (x4 + 1) fun x11 =>
        m0_findFault_L6 N n x11 c8
def m0_findFault (N : Nat) (c0 : bkA) : Option (Int32 × bkA) :=
  lt1 (m0_rewind c0) fun c1 =>
  m0_findFault_L6 N N 0 c1
abbrev rmX0_stands : Room := { frames := 4, cells := 0, slots := 0, locals := 85 }
theorem iX0_stands_X0 : ∀ w ∈ wsX00, w ∈ wsX0_stands := by decide +kernel
set_option maxHeartbeats 4000000 in
set_option maxRecDepth 100000 in
theorem k0_stands (l : Launch) {X : bkX} {Y : bkY} {b0 : Nat} (hX : XO X b0) {si : Nat} (hsi : si < 8) (w : bkW) {N : Nat} {c0 : bkA} {a2 : Int32} {a3 : Int32} {res9 : Int32} (hf : m0_stands N c0 si a2 a3 = some res9) : cIS l yX0_stands wsX0_stands rmX0_stands X Y b0 [.ref (xa X 309), .ref (Y.1 si), .int a2, .int a3] (pcm w c0) res9 (pcm w c0) := by
  refine Met.ofW (cc := cX0_stands) (maxL := 5) (ret := (some .boolean)) (by decide) rfl ?_
  intro p e s m args below meth c s₁ B hml hv
  obtain ⟨ha, ⟨hP, hK⟩, hG⟩ := hv
  have hx := B.exec
  have hb := B.bytes
  have hr := B.returns
  have hts := atoms_spec (ws := wsX0_stands) B.pre
  have hown : s.vm.findClass RX0 = some m.cls := findClass_of_methodNamed B.named
  have hlocks := B.notSynchronized
  obtain ⟨R, hR⟩ : ∃ R, R = (headSpec wsX0_stands rmX0_stands).room := ⟨_, rfl⟩
  rw [← hR]
  have hR1 : R.frames = 4 := by rw [hR]; rfl
  have hR2 : R.locals = 85 := by rw [hR]; rfl
  obtain ⟨Q, hQ⟩ : ∃ Q : State → Prop, Q = MQ below (va_Qi (fun r' (_ : Unit) => r' = res9) (fun _ t => WU X (pcm w c0) t) (xF b0)) args s 0 0 (xF b0) := ⟨_, rfl⟩
  rw [← hQ]
  have hS : va_S (xF b0) s.heap s.heap [] := va_S.rf
  have hl := lv_entry ([.ref (xa X 309), .ref (Y.1 si), .int a2, .int a3]) (n := 5) (Nat.le_of_ble_eq_true rfl)
  refine W.eq ((congrArg (fun z => entryFrame m z 5) ha).trans (lg_entry_eq m _ 5)) ?_
  generalize (lg_sl ([.ref (xa X 309), .ref (Y.1 si), .int a2, .int a3]) ++ List.replicate (5 - (lg_sl ([.ref (xa X 309), .ref (Y.1 si), .int a2, .int a3])).length) Slot.unset).toArray = ls at hl ⊢
  have hl : lv_has ls 5 [(0, .ref (xa X 309)), (1, .ref (Y.1 si)), (2, .int a2), (3, .int a3)] := hl
  have hc_89 := (cwV 0 hts gX0_stands_J0_length_8abf5 rfl rfl rfl (by decide +kernel) ⟨by rw [hR1]; exact Nat.le_of_ble_eq_true rfl, by rw [hR2]; exact Nat.le_of_ble_eq_true rfl⟩ : CallW R s args RX0 RJ0 89 yJ0_length_8abf5 cJ0_length_8abf5 1 (some .int) wsJ0_length_8abf5 rmJ0_length 0 0 0)
  have hk_f14 := hts (.fieldLink RX0 14 "BakeTurns$Commands" "text" "LBakeTurns$Row;") (by decide +kernel)
  have hc_37 := (cwV 1 hts gX0_stands_X6_at rfl rfl rfl (by decide +kernel) ⟨by rw [hR1]; exact Nat.le_of_ble_eq_true rfl, by rw [hR2]; exact Nat.le_of_ble_eq_true rfl⟩ : CallW R s args RX0 RX6 37 yX6_at cX6_at 2 (some .int) wsX6_at rmX6_at 0 0 1)
  have hc_93 := (cwV 1 hts gX0_stands_J0_charAt_5068e rfl rfl rfl (by decide +kernel) ⟨by rw [hR1]; exact Nat.le_of_ble_eq_true rfl, by rw [hR2]; exact Nat.le_of_ble_eq_true rfl⟩ : CallW R s args RX0 RJ0 93 yJ0_charAt_5068e cJ0_charAt_5068e 2 (some .char) wsJ0_charAt_5068e rmJ0_charAt 0 0 1)
  unfold m0_stands at hf
  refine lv_aload_n hx hb dX0_stands_0 rfl (lv_at hl 1 rfl) ?_
  refine w_ciS ⟨hx, hb, hml, hown, hts⟩ hP hK hG hS (kJ_length l hsi _) hc_89 (vk_recv hG.1 hsi hS) rfl hl.1 rfl (Nat.le_of_ble_eq_true rfl) dX0_stands_1 ⟨Nat.zero_le _, Nat.zero_le _⟩ (fun H locs hP hS => ?_)
  refine lv_iload_n hx hb dX0_stands_4 rfl (lv_at hl 3 rfl) ?_
  refine lv_iload_n hx hb dX0_stands_5 rfl (lv_at hl 2 rfl) ?_
  refine lv_isub hx hb dX0_stands_6 ?_
  refine lv_icmp_eq (tgt := 12) hx hb dX0_stands_7 (by decide) (fun h1 => ?_) (fun h1 => ?_)
  · rw [if_pos h1] at hf
    refine lv_iconst (v := 0) hx hb dX0_stands_12 (by decide) ?_
    refine lv_istore (lv' := [(4, .int 0), (0, .ref (xa X 309)), (1, .ref (Y.1 si)), (2, .int a2), (3, .int a3)]) hx hb dX0_stands_13 hl (by decide) rfl (fun ls hl => ?_)
    have L15 : ∀ (n : Nat) (x3 : Int32) (x4 : Int32)  (H : Heap) (locs : List Loc) (ls : Array Slot), m0_stands_L15 N si n x3 x4 c0 = some res9 → HW X (pcm w c0) H → va_S (xF b0) s.heap H locs → lv_has ls 5 [(0, .ref (xa X 309)), (1, .ref (Y.1 si)), (2, .int x3), (4, .int x4)] → W p l e R s m args below meth c H locs 0 0 Q (F0 m 15 ls []) := by
      intro n; induction n with
      | zero => intro x3 x4 H locs ls hf; rw [m0_stands_L15] at hf; cases hf
      | succ n ih =>
        intro x3 x4 H locs ls hf hP hS hl
        rw [m0_stands_L15] at hf
        refine lv_iload hx hb dX0_stands_15 (lv_at hl 3 rfl) ?_
        refine lv_aload_n hx hb dX0_stands_17 rfl (lv_at hl 1 rfl) ?_
        refine w_ciS ⟨hx, hb, hml, hown, hts⟩ hP hK hG hS (kJ_length l hsi _) hc_89 (vk_recv hG.1 hsi hS) rfl hl.1 rfl (Nat.le_of_ble_eq_true rfl) dX0_stands_18 ⟨Nat.zero_le _, Nat.zero_le _⟩ (fun H locs hP hS => ?_)
        refine lv_icmp_ge (tgt := 52) hx hb dX0_stands_21 (by decide) (fun h5 => ?_) (fun h5 => ?_)
        · rw [if_pos h5] at hf
          refine lv_iconst (v := 1) hx hb dX0_stands_52 (by decide) ?_
          have hf := Option.some.inj hf
          obtain rfl := hf
          rw [hQ]
          exact w_zret hx hb hr hlocks hP hK hS dX0_stands_53 (by decide) rfl rfl
        · rw [if_neg h5] at hf
          refine lv_aload_n hx hb dX0_stands_24 rfl (lv_at hl 0 rfl) ?_
          refine w_get hx hb hts iX0_stands_X0 hown hP hK (by decide) emb_cm rfl 0 (by decide) hk_f14 rfl dX0_stands_25 ?_
          refine lv_iload_n hx hb dX0_stands_28 rfl (lv_at hl 2 rfl) ?_
          refine lv_iload hx hb dX0_stands_29 (lv_at hl 3 rfl) ?_
          refine lv_iadd hx hb dX0_stands_31 ?_
          refine cm_at (j := 0) (n := 150) RW_tx ⟨hx, hb, hml, hown, hts⟩ hP hK hS (by decide) hc_37 hl.1 (Nat.le_of_ble_eq_true rfl) dX0_stands_32 (fun H locs hP hS => ?_)
          refine lv_aload_n hx hb dX0_stands_35 rfl (lv_at hl 1 rfl) ?_
          refine lv_iload hx hb dX0_stands_36 (lv_at hl 3 rfl) ?_
          obtain ⟨hin6, hf⟩ := ck_e hf
          refine w_ciS ⟨hx, hb, hml, hown, hts⟩ hP hK hG hS (kJ_charAt l hsi (k := x4.toNatClampNeg) (vp_lt (skc_ok _ hsi).1 hin6) _) hc_93 (vk_recv hG.1 hsi hS) (rest := [.int (rat 150 (c0 0) (x3 + x4))]) rfl hl.1 (by rw [vp_eq (skc_ok _ hsi).1 hin6]; rfl) (Nat.le_of_ble_eq_true rfl) dX0_stands_38 ⟨Nat.zero_le _, Nat.zero_le _⟩ (fun H locs hP hS => ?_)
          refine lv_icmp_eq (tgt := 46) hx hb dX0_stands_41 (by decide) (fun h7 => ?_) (fun h7 => ?_)
          · rw [if_pos h7] at hf
            obtain ⟨x8, ex8⟩ : ∃ y : Int32, y = x4 + 1 := ⟨_, rfl⟩
            replace hf := ltn_s ex8 hf
            refine lv_iinc (v := x8) (lv' := [(4, .int x8), (0, .ref (xa X 309)), (1, .ref (Y.1 si)), (2, .int x3)]) hx hb dX0_stands_46 hl (k := 3) rfl (by rw [ex8]; rfl) (by decide) rfl (fun ls hl => ?_)
            refine lv_goto (tgt := 15) hx hb dX0_stands_49 (by decide) ?_
            exact ih x3 x8  _ _ _ hf hP hS (lv_sub hl [1, 2, 3, 0] rfl)
          · rw [if_neg h7] at hf
            refine lv_iconst (v := 0) hx hb dX0_stands_44 (by decide) ?_
            have hf := Option.some.inj hf
            obtain rfl := hf
            rw [hQ]
            exact w_zret hx hb hr hlocks hP hK hS dX0_stands_45 (by decide) rfl rfl
    exact L15 N a2 0  _ _ _ hf hP hS (lv_sub hl [1, 2, 3, 0] rfl)
  · rw [if_neg h1] at hf
    refine lv_iconst (v := 0) hx hb dX0_stands_10 (by decide) ?_
    have hf := Option.some.inj hf
    obtain rfl := hf
    rw [hQ]
    exact w_zret hx hb hr hlocks hP hK hS dX0_stands_11 (by decide) rfl rfl
abbrev rmX0_wordBetween : Room := { frames := 5, cells := 0, slots := 0, locals := 109 }
set_option maxHeartbeats 4000000 in
set_option maxRecDepth 100000 in
theorem k0_wordBetween (l : Launch) {X : bkX} {Y : bkY} {b0 : Nat} (hX : XO X b0) (w : bkW) {N : Nat} {c0 : bkA} {a1 : Int32} {a2 : Int32} {res9 : Int32} (hf : m0_wordBetween N c0 a1 a2 = some res9) : cIS l yX0_wordBetween wsX0_wordBetween rmX0_wordBetween X Y b0 [.ref (xa X 309), .int a1, .int a2] (pcm w c0) res9 (pcm w c0) := by
  refine Met.ofW (cc := cX0_wordBetween) (maxL := 4) (ret := (some .int)) (by decide) rfl ?_
  intro p e s m args below meth c s₁ B hml hv
  obtain ⟨ha, ⟨hP, hK⟩, hG⟩ := hv
  have hx := B.exec
  have hb := B.bytes
  have hr := B.returns
  have hts := atoms_spec (ws := wsX0_wordBetween) B.pre
  have hown : s.vm.findClass RX0 = some m.cls := findClass_of_methodNamed B.named
  have hlocks := B.notSynchronized
  obtain ⟨R, hR⟩ : ∃ R, R = (headSpec wsX0_wordBetween rmX0_wordBetween).room := ⟨_, rfl⟩
  rw [← hR]
  have hR1 : R.frames = 5 := by rw [hR]; rfl
  have hR2 : R.locals = 109 := by rw [hR]; rfl
  obtain ⟨Q, hQ⟩ : ∃ Q : State → Prop, Q = MQ below (va_Qi (fun r' (_ : Unit) => r' = res9) (fun _ t => WU X (pcm w c0) t) (xF b0)) args s 0 0 (xF b0) := ⟨_, rfl⟩
  rw [← hQ]
  have hS : va_S (xF b0) s.heap s.heap [] := va_S.rf
  have hl := lv_entry ([.ref (xa X 309), .int a1, .int a2]) (n := 4) (Nat.le_of_ble_eq_true rfl)
  refine W.eq ((congrArg (fun z => entryFrame m z 4) ha).trans (lg_entry_eq m _ 4)) ?_
  generalize (lg_sl ([.ref (xa X 309), .int a1, .int a2]) ++ List.replicate (4 - (lg_sl ([.ref (xa X 309), .int a1, .int a2])).length) Slot.unset).toArray = ls at hl ⊢
  have hl : lv_has ls 4 [(0, .ref (xa X 309)), (1, .int a1), (2, .int a2)] := hl
  have hc_81 := (cwS 1 hts gX0_wordBetween_X0_nameOf rfl rfl rfl (by decide +kernel) ⟨by rw [hR1]; exact Nat.le_of_ble_eq_true rfl, by rw [hR2]; exact Nat.le_of_ble_eq_true rfl⟩ : CallB R s args RX0 81 yX0_nameOf cX0_nameOf 1 (some (.object "java/lang/String")) wsX0_nameOf rmX0_nameOf 0 0 1 ∧ (Cond.static yX0_nameOf).before args s = true)
  have hc_85 := (cwV 3 hts gX0_wordBetween_X0_stands rfl rfl rfl (by decide +kernel) ⟨by rw [hR1]; exact Nat.le_of_ble_eq_true rfl, by rw [hR2]; exact Nat.le_of_ble_eq_true rfl⟩ : CallW R s args RX0 RX0 85 yX0_stands cX0_stands 5 (some .boolean) wsX0_stands rmX0_stands 0 0 3)
  unfold m0_wordBetween at hf
  refine lv_iconst (v := 0) hx hb dX0_wordBetween_0 (by decide) ?_
  refine lv_istore_n (lv' := [(3, .int 0), (0, .ref (xa X 309)), (1, .int a1), (2, .int a2)]) hx hb dX0_wordBetween_1 rfl hl (by decide) rfl (fun ls hl => ?_)
  have L2 : ∀ (n : Nat) (x2 : Int32) (x3 : Int32) (x4 : Int32)  (H : Heap) (locs : List Loc) (ls : Array Slot), m0_wordBetween_L2 N n x2 x3 x4 c0 = some res9 → HW X (pcm w c0) H → va_S (xF b0) s.heap H locs → lv_has ls 4 [(0, .ref (xa X 309)), (1, .int x2), (2, .int x3), (3, .int x4)] → W p l e R s m args below meth c H locs 0 0 Q (F0 m 2 ls []) := by
    intro n; induction n with
    | zero => intro x2 x3 x4 H locs ls hf; rw [m0_wordBetween_L2] at hf; cases hf
    | succ n ih =>
      intro x2 x3 x4 H locs ls hf hP hS hl
      rw [m0_wordBetween_L2] at hf
      refine lv_iload_n hx hb dX0_wordBetween_2 rfl (lv_at hl 3 rfl) ?_
      refine lv_bipush (v := 8) hx hb dX0_wordBetween_3 (by decide) ?_
      refine lv_icmp_ge (tgt := 29) hx hb dX0_wordBetween_5 (by decide) (fun h5 => ?_) (fun h5 => ?_)
      · rw [if_pos h5] at hf
        refine lv_iconst (v := (-1)) hx hb dX0_wordBetween_29 (by decide) ?_
        have hf := Option.some.inj hf
        obtain rfl := hf
        rw [hQ]
        exact w_iret hx hb hr hlocks hP hK hS dX0_wordBetween_30 rfl rfl
      · rw [if_neg h5] at hf
        refine lv_aload_n hx hb dX0_wordBetween_8 rfl (lv_at hl 0 rfl) ?_
        refine lv_iload_n hx hb dX0_wordBetween_9 rfl (lv_at hl 3 rfl) ?_
        refine w_csrS ⟨hx, hb, hml, hown, hts⟩ hP hK hG hS (k0_nameOf l x4 _) hc_81 rfl hl.1 rfl (Nat.le_of_ble_eq_true rfl) dX0_wordBetween_10 ⟨Nat.zero_le _, Nat.zero_le _⟩ (fun H locs hP hS => ?_)
        refine lv_iload_n hx hb dX0_wordBetween_13 rfl (lv_at hl 1 rfl) ?_
        refine lv_iload_n hx hb dX0_wordBetween_14 rfl (lv_at hl 2 rfl) ?_
        obtain ⟨x6, hc7, hf⟩ := ob1_e hf
        refine w_ciS ⟨hx, hb, hml, hown, hts⟩ hP hK hG hS (k0_stands l hX (m0_nameOf_lt _) w hc7) hc_85 (w_recv hP hK (by decide) emb_cm rfl) rfl hl.1 rfl (Nat.le_of_ble_eq_true rfl) dX0_wordBetween_15 ⟨Nat.zero_le _, Nat.zero_le _⟩ (fun H locs hP hS => ?_)
        refine lv_if_eq (tgt := 23) hx hb dX0_wordBetween_18 (by decide) (fun h8 => ?_) (fun h8 => ?_)
        · rw [if_pos h8] at hf
          obtain ⟨x9, ex9⟩ : ∃ y : Int32, y = x4 + 1 := ⟨_, rfl⟩
          replace hf := ltn_s ex9 hf
          refine lv_iinc (v := x9) (lv' := [(3, .int x9), (0, .ref (xa X 309)), (1, .int x2), (2, .int x3)]) hx hb dX0_wordBetween_23 hl (k := 3) rfl (by rw [ex9]; rfl) (by decide) rfl (fun ls hl => ?_)
          refine lv_goto (tgt := 2) hx hb dX0_wordBetween_26 (by decide) ?_
          exact ih x2 x3 x9  _ _ _ hf hP hS (lv_sub hl [1, 2, 3, 0] rfl)
        · rw [if_neg h8] at hf
          refine lv_iload_n hx hb dX0_wordBetween_21 rfl (lv_at hl 3 rfl) ?_
          have hf := Option.some.inj hf
          obtain rfl := hf
          rw [hQ]
          exact w_iret hx hb hr hlocks hP hK hS dX0_wordBetween_22 rfl rfl
  exact L2 N a1 a2 0  _ _ _ hf hP hS (lv_sub hl [1, 2, 3, 0] rfl)
abbrev rmX0_readWord : Room := { frames := 6, cells := 0, slots := 0, locals := 132 }
theorem iX0_readWord_X0 : ∀ w ∈ wsX00, w ∈ wsX0_readWord := by decide +kernel
set_option maxHeartbeats 4000000 in
set_option maxRecDepth 100000 in
theorem k0_readWord (l : Launch) {X : bkX} {Y : bkY} {b0 : Nat} (hX : XO X b0) (w : bkW) {N : Nat} {c0 : bkA} {res9 : Int32} {c9 : bkA} (hf : m0_readWord N c0 = some (res9, c9)) : cIS l yX0_readWord wsX0_readWord rmX0_readWord X Y b0 [.ref (xa X 309)] (pcm w c0) res9 (pcm w c9) := by
  refine Met.ofW (cc := cX0_readWord) (maxL := 2) (ret := (some .boolean)) (by decide) rfl ?_
  intro p e s m args below meth c s₁ B hml hv
  obtain ⟨ha, ⟨hP, hK⟩, hG⟩ := hv
  have hx := B.exec
  have hb := B.bytes
  have hr := B.returns
  have hts := atoms_spec (ws := wsX0_readWord) B.pre
  have hown : s.vm.findClass RX0 = some m.cls := findClass_of_methodNamed B.named
  have hlocks := B.notSynchronized
  obtain ⟨R, hR⟩ : ∃ R, R = (headSpec wsX0_readWord rmX0_readWord).room := ⟨_, rfl⟩
  rw [← hR]
  have hR1 : R.frames = 6 := by rw [hR]; rfl
  have hR2 : R.locals = 132 := by rw [hR]; rfl
  obtain ⟨Q, hQ⟩ : ∃ Q : State → Prop, Q = MQ below (va_Qi (fun r' (_ : Unit) => r' = res9) (fun _ t => WU X (pcm w c9) t) (xF b0)) args s 0 0 (xF b0) := ⟨_, rfl⟩
  rw [← hQ]
  have hS : va_S (xF b0) s.heap s.heap [] := va_S.rf
  have hl := lv_entry ([.ref (xa X 309)]) (n := 2) (Nat.le_of_ble_eq_true rfl)
  refine W.eq ((congrArg (fun z => entryFrame m z 2) ha).trans (lg_entry_eq m _ 2)) ?_
  generalize (lg_sl ([.ref (xa X 309)]) ++ List.replicate (2 - (lg_sl ([.ref (xa X 309)])).length) Slot.unset).toArray = ls at hl ⊢
  have hl : lv_has ls 2 [(0, .ref (xa X 309))] := hl
  have hk_f41 := hts (.fieldLink RX0 41 "BakeTurns$Commands" "cursor" "I") (by decide +kernel)
  have hk_f27 := hts (.fieldLink RX0 27 "BakeTurns$Commands" "length" "I") (by decide +kernel)
  have hc_64 := (cwV 0 hts gX0_readWord_X0_byteAtCursor rfl rfl rfl (by decide +kernel) ⟨by rw [hR1]; exact Nat.le_of_ble_eq_true rfl, by rw [hR2]; exact Nat.le_of_ble_eq_true rfl⟩ : CallW R s args RX0 RX0 64 yX0_byteAtCursor cX0_byteAtCursor 1 (some .int) wsX0_byteAtCursor rmX0_byteAtCursor 0 0 0)
  have hc_71 := (cwS 1 hts gX0_readWord_X0_isLetter rfl rfl rfl (by decide +kernel) ⟨by rw [hR1]; exact Nat.le_of_ble_eq_true rfl, by rw [hR2]; exact Nat.le_of_ble_eq_true rfl⟩ : CallB R s args RX0 71 yX0_isLetter cX0_isLetter 1 (some .boolean) wsX0_isLetter rmX0_isLetter 0 0 1 ∧ (Cond.static yX0_isLetter).before args s = true)
  have hc_74 := (cwV 2 hts gX0_readWord_X0_wordBetween rfl rfl rfl (by decide +kernel) ⟨by rw [hR1]; exact Nat.le_of_ble_eq_true rfl, by rw [hR2]; exact Nat.le_of_ble_eq_true rfl⟩ : CallW R s args RX0 RX0 74 yX0_wordBetween cX0_wordBetween 4 (some .int) wsX0_wordBetween rmX0_wordBetween 0 0 2)
  have hk_f34 := hts (.fieldLink RX0 34 "BakeTurns$Commands" "word" "I") (by decide +kernel)
  have hc_68 := (cwV 1 hts gX0_readWord_X0_failAt rfl rfl rfl (by decide +kernel) ⟨by rw [hR1]; exact Nat.le_of_ble_eq_true rfl, by rw [hR2]; exact Nat.le_of_ble_eq_true rfl⟩ : CallW R s args RX0 RX0 68 yX0_failAt cX0_failAt 2 (some .boolean) wsX0_failAt rmX0_failAt 0 0 1)
  unfold m0_readWord at hf
  refine lv_aload_n hx hb dX0_readWord_0 rfl (lv_at hl 0 rfl) ?_
  refine w_get hx hb hts iX0_readWord_X0 hown hP hK (by decide) emb_cm rfl 3 (by decide) hk_f41 rfl dX0_readWord_1 ?_
  refine lv_topi (fun x1 ex1 => ?_)
  replace hf := ltn_s ex1 hf
  refine lv_istore_n (lv' := [(1, .int x1), (0, .ref (xa X 309))]) hx hb dX0_readWord_4 rfl hl (by decide) rfl (fun ls hl => ?_)
  have L5 : ∀ (n : Nat) (x3 : Int32) (c4 : bkA) (oc5 : bkA) (H : Heap) (locs : List Loc) (ls : Array Slot), m0_readWord_L5 N n x3 c4 = some oc5 → HW X (pcm w c4) H → va_S (xF b0) s.heap H locs → lv_has ls 2 [(0, .ref (xa X 309)), (1, .int x3)] → (∀ (H1 : Heap) (locs1 : List Loc) (ls1 : Array Slot), HW X (pcm w oc5) H1 → va_S (xF b0) s.heap H1 locs1 → lv_has ls1 2 [(0, .ref (xa X 309)), (1, .int x3)] → W p l e R s m args below meth c H1 locs1 0 0 Q (F0 m 39 ls1 [])) → W p l e R s m args below meth c H locs 0 0 Q (F0 m 5 ls []) := by
    intro n; induction n with
    | zero => intro x3 c4 oc5 H locs ls hf; rw [m0_readWord_L5] at hf; cases hf
    | succ n ih =>
      intro x3 c4 oc5 H locs ls hf hP hS hl K
      rw [m0_readWord_L5] at hf
      refine lv_aload_n hx hb dX0_readWord_5 rfl (lv_at hl 0 rfl) ?_
      refine w_get hx hb hts iX0_readWord_X0 hown hP hK (by decide) emb_cm rfl 3 (by decide) hk_f41 rfl dX0_readWord_6 ?_
      refine lv_aload_n hx hb dX0_readWord_9 rfl (lv_at hl 0 rfl) ?_
      refine w_get hx hb hts iX0_readWord_X0 hown hP hK (by decide) emb_cm rfl 2 (by decide) hk_f27 rfl dX0_readWord_10 ?_
      refine lv_icmp_ge (tgt := 39) hx hb dX0_readWord_13 (by decide) (fun h6 => ?_) (fun h6 => ?_)
      · rw [if_pos h6] at hf
        have hf := Option.some.inj hf
        obtain rfl := hf
        exact K _ _ _ hP hS (lv_sub hl [0, 1] rfl)
      · rw [if_neg h6] at hf
        refine lv_aload_n hx hb dX0_readWord_16 rfl (lv_at hl 0 rfl) ?_
        obtain ⟨x7, hc8, hf⟩ := lt1_e hf
        refine w_ci ⟨hx, hb, hml, hown, hts⟩ hP hK hS (k0_byteAtCursor l hX w hc8) hc_64 (w_recv hP hK (by decide) emb_cm rfl) rfl hl.1 rfl (Nat.le_of_ble_eq_true rfl) dX0_readWord_17 ⟨Nat.zero_le _, Nat.zero_le _⟩ (fun H locs hP hS => ?_)
        obtain ⟨x9, hc10, hf⟩ := lt1_e hf
        refine w_csi ⟨hx, hb, hml, hown, hts⟩ hP hK hS (k0_isLetter l hX w hc10) hc_71 rfl hl.1 rfl (Nat.le_of_ble_eq_true rfl) dX0_readWord_20 ⟨Nat.zero_le _, Nat.zero_le _⟩ (fun H locs hP hS => ?_)
        refine lv_if_eq (tgt := 39) hx hb dX0_readWord_23 (by decide) (fun h11 => ?_) (fun h11 => ?_)
        · rw [if_pos h11] at hf
          have hf := Option.some.inj hf
          obtain rfl := hf
          exact K _ _ _ hP hS (lv_sub hl [0, 1] rfl)
        · rw [if_neg h11] at hf
          refine lv_aload_n hx hb dX0_readWord_26 rfl (lv_at hl 0 rfl) ?_
          refine lv_dup hx hb dX0_readWord_27 rfl ?_
          refine w_get hx hb hts iX0_readWord_X0 hown hP hK (by decide) emb_cm rfl 3 (by decide) hk_f41 rfl dX0_readWord_28 ?_
          refine lv_iconst (v := 1) hx hb dX0_readWord_31 (by decide) ?_
          refine lv_iadd hx hb dX0_readWord_32 ?_
          refine cm_put hx hb hts iX0_readWord_X0 hown hX hP hK hS 3 (by decide) hk_f41 rfl rfl (Nat.le_of_ble_eq_true rfl) (cm_es1 _) dX0_readWord_33 (fun c12 ec12 H locs hP hS => ?_)
          replace hf := ltn_s ec12 hf
          refine lv_goto (tgt := 5) hx hb dX0_readWord_36 (by decide) ?_
          exact ih x3 c12 oc5 _ _ _ hf hP hS (lv_sub hl [0, 1] rfl) K
  obtain ⟨c13, hc14, hf⟩ := ob1_e hf
  refine L5 N x1 c0 c13 _ _ _ hc14 hP hS (lv_sub hl [1, 0] rfl) (fun H locs ls hP hS hl => ?_)
  refine lv_aload_n hx hb dX0_readWord_39 rfl (lv_at hl 0 rfl) ?_
  refine lv_aload_n hx hb dX0_readWord_40 rfl (lv_at hl 0 rfl) ?_
  refine lv_iload_n hx hb dX0_readWord_41 rfl (lv_at hl 1 rfl) ?_
  refine lv_aload_n hx hb dX0_readWord_42 rfl (lv_at hl 0 rfl) ?_
  refine w_get hx hb hts iX0_readWord_X0 hown hP hK (by decide) emb_cm rfl 3 (by decide) hk_f41 rfl dX0_readWord_43 ?_
  obtain ⟨x15, hc16, hf⟩ := ob1_e hf
  refine w_ciS ⟨hx, hb, hml, hown, hts⟩ hP hK hG hS (k0_wordBetween l hX w hc16) hc_74 (w_recv hP hK (by decide) emb_cm rfl) rfl hl.1 rfl (Nat.le_of_ble_eq_true rfl) dX0_readWord_46 ⟨Nat.zero_le _, Nat.zero_le _⟩ (fun H locs hP hS => ?_)
  refine cm_put hx hb hts iX0_readWord_X0 hown hX hP hK hS 4 (by decide) hk_f34 rfl rfl (Nat.le_of_ble_eq_true rfl) (cm_es2 _) dX0_readWord_49 (fun c17 ec17 H locs hP hS => ?_)
  replace hf := ltn_s ec17 hf
  refine lv_aload_n hx hb dX0_readWord_52 rfl (lv_at hl 0 rfl) ?_
  refine w_get hx hb hts iX0_readWord_X0 hown hP hK (by decide) emb_cm rfl 4 (by decide) hk_f34 rfl dX0_readWord_53 ?_
  refine lv_iconst (v := (-1)) hx hb dX0_readWord_56 (by decide) ?_
  refine lv_icmp_ne (tgt := 68) hx hb dX0_readWord_57 (by decide) (fun h18 => ?_) (fun h18 => ?_)
  · rw [if_neg h18] at hf
    refine lv_iconst (v := 1) hx hb dX0_readWord_68 (by decide) ?_
    refine lv_goto (tgt := 73) hx hb dX0_readWord_69 (by decide) ?_
    have hf := Option.some.inj hf
    simp only [Prod.mk.injEq] at hf
    obtain ⟨rfl, rfl⟩ := hf
    rw [hQ]
    exact w_zret hx hb hr hlocks hP hK hS dX0_readWord_73 (by decide) rfl rfl
  · rw [if_pos h18] at hf
    refine lv_aload_n hx hb dX0_readWord_60 rfl (lv_at hl 0 rfl) ?_
    refine lv_iload_n hx hb dX0_readWord_61 rfl (lv_at hl 1 rfl) ?_
    obtain ⟨x19, c20, hc21, hf⟩ := lt2_e hf
    refine w_ci ⟨hx, hb, hml, hown, hts⟩ hP hK hS (k0_failAt l hX w hc21) hc_68 (w_recv hP hK (by decide) emb_cm rfl) rfl hl.1 rfl (Nat.le_of_ble_eq_true rfl) dX0_readWord_62 ⟨Nat.zero_le _, Nat.zero_le _⟩ (fun H locs hP hS => ?_)
    refine lv_if_eq (tgt := 72) hx hb dX0_readWord_65 (by decide) (fun h22 => ?_) (fun h22 => ?_)
    · rw [if_pos h22] at hf
      refine lv_iconst (v := 0) hx hb dX0_readWord_72 (by decide) ?_
      have hf := Option.some.inj hf
      simp only [Prod.mk.injEq] at hf
      obtain ⟨rfl, rfl⟩ := hf
      rw [hQ]
      exact w_zret hx hb hr hlocks hP hK hS dX0_readWord_73 (by decide) rfl rfl
    · rw [if_neg h22] at hf
      refine lv_iconst (v := 1) hx hb dX0_readWord_68 (by decide) ?_
      refine lv_goto (tgt := 73) hx hb dX0_readWord_69 (by decide) ?_
      have hf := Option.some.inj hf
      simp only [Prod.mk.injEq] at hf
      obtain ⟨rfl, rfl⟩ := hf
      rw [hQ]
      exact w_zret hx hb hr hlocks hP hK hS dX0_readWord_73 (by decide) rfl rfl
abbrev rmX0_readNext : Room := { frames := 7, cells := 0, slots := 0, locals := 153 }
theorem iX0_readNext_X0 : ∀ w ∈ wsX00, w ∈ wsX0_readNext := by decide +kernel
set_option maxHeartbeats 4000000 in
set_option maxRecDepth 100000 in
theorem k0_readNext (l : Launch) {X : bkX} {Y : bkY} {b0 : Nat} (hX : XO X b0) (w : bkW) {N : Nat} {c0 : bkA} {res9 : Int32} {c9 : bkA} (hf : m0_readNext N c0 = some (res9, c9)) : cIS l yX0_readNext wsX0_readNext rmX0_readNext X Y b0 [.ref (xa X 309)] (pcm w c0) res9 (pcm w c9) := by
  refine Met.ofW (cc := cX0_readNext) (maxL := 3) (ret := (some .boolean)) (by decide) rfl ?_
  intro p e s m args below meth c s₁ B hml hv
  obtain ⟨ha, ⟨hP, hK⟩, hG⟩ := hv
  have hx := B.exec
  have hb := B.bytes
  have hr := B.returns
  have hts := atoms_spec (ws := wsX0_readNext) B.pre
  have hown : s.vm.findClass RX0 = some m.cls := findClass_of_methodNamed B.named
  have hlocks := B.notSynchronized
  obtain ⟨R, hR⟩ : ∃ R, R = (headSpec wsX0_readNext rmX0_readNext).room := ⟨_, rfl⟩
  rw [← hR]
  have hR1 : R.frames = 7 := by rw [hR]; rfl
  have hR2 : R.locals = 153 := by rw [hR]; rfl
  obtain ⟨Q, hQ⟩ : ∃ Q : State → Prop, Q = MQ below (va_Qi (fun r' (_ : Unit) => r' = res9) (fun _ t => WU X (pcm w c9) t) (xF b0)) args s 0 0 (xF b0) := ⟨_, rfl⟩
  rw [← hQ]
  have hS : va_S (xF b0) s.heap s.heap [] := va_S.rf
  have hl := lv_entry ([.ref (xa X 309)]) (n := 3) (Nat.le_of_ble_eq_true rfl)
  refine W.eq ((congrArg (fun z => entryFrame m z 3) ha).trans (lg_entry_eq m _ 3)) ?_
  generalize (lg_sl ([.ref (xa X 309)]) ++ List.replicate (3 - (lg_sl ([.ref (xa X 309)])).length) Slot.unset).toArray = ls at hl ⊢
  have hl : lv_has ls 3 [(0, .ref (xa X 309))] := hl
  have hc_51 := (cwV 0 hts gX0_readNext_X0_skipSpaces rfl rfl rfl (by decide +kernel) ⟨by rw [hR1]; exact Nat.le_of_ble_eq_true rfl, by rw [hR2]; exact Nat.le_of_ble_eq_true rfl⟩ : CallW R s args RX0 RX0 51 yX0_skipSpaces cX0_skipSpaces 1 none wsX0_skipSpaces rmX0_skipSpaces 0 0 0)
  have hk_f41 := hts (.fieldLink RX0 41 "BakeTurns$Commands" "cursor" "I") (by decide +kernel)
  have hk_f27 := hts (.fieldLink RX0 27 "BakeTurns$Commands" "length" "I") (by decide +kernel)
  have hc_54 := (cwV 0 hts gX0_readNext_X0_readWord rfl rfl rfl (by decide +kernel) ⟨by rw [hR1]; exact Nat.le_of_ble_eq_true rfl, by rw [hR2]; exact Nat.le_of_ble_eq_true rfl⟩ : CallW R s args RX0 RX0 54 yX0_readWord cX0_readWord 2 (some .boolean) wsX0_readWord rmX0_readWord 0 0 0)
  have hk_f34 := hts (.fieldLink RX0 34 "BakeTurns$Commands" "word" "I") (by decide +kernel)
  have hc_57 := (cwS 1 hts gX0_readNext_X0_numbersOf rfl rfl rfl (by decide +kernel) ⟨by rw [hR1]; exact Nat.le_of_ble_eq_true rfl, by rw [hR2]; exact Nat.le_of_ble_eq_true rfl⟩ : CallB R s args RX0 57 yX0_numbersOf cX0_numbersOf 1 (some .int) wsX0_numbersOf rmX0_numbersOf 0 0 1 ∧ (Cond.static yX0_numbersOf).before args s = true)
  have hc_64 := (cwV 0 hts gX0_readNext_X0_byteAtCursor rfl rfl rfl (by decide +kernel) ⟨by rw [hR1]; exact Nat.le_of_ble_eq_true rfl, by rw [hR2]; exact Nat.le_of_ble_eq_true rfl⟩ : CallW R s args RX0 RX0 64 yX0_byteAtCursor cX0_byteAtCursor 1 (some .int) wsX0_byteAtCursor rmX0_byteAtCursor 0 0 0)
  have hc_68 := (cwV 1 hts gX0_readNext_X0_failAt rfl rfl rfl (by decide +kernel) ⟨by rw [hR1]; exact Nat.le_of_ble_eq_true rfl, by rw [hR2]; exact Nat.le_of_ble_eq_true rfl⟩ : CallW R s args RX0 RX0 68 yX0_failAt cX0_failAt 2 (some .boolean) wsX0_failAt rmX0_failAt 0 0 1)
  have hc_60 := (cwV 1 hts gX0_readNext_X0_readNumber rfl rfl rfl (by decide +kernel) ⟨by rw [hR1]; exact Nat.le_of_ble_eq_true rfl, by rw [hR2]; exact Nat.le_of_ble_eq_true rfl⟩ : CallW R s args RX0 RX0 60 yX0_readNumber cX0_readNumber 4 (some .boolean) wsX0_readNumber rmX0_readNumber 0 0 1)
  unfold m0_readNext at hf
  refine lv_aload_n hx hb dX0_readNext_0 rfl (lv_at hl 0 rfl) ?_
  obtain ⟨c1, hc2, hf⟩ := ob1_e hf
  refine w_cv ⟨hx, hb, hml, hown, hts⟩ hP hK hS (k0_skipSpaces l hX w hc2) hc_51 (w_recv hP hK (by decide) emb_cm rfl) rfl hl.1 rfl (Nat.le_of_ble_eq_true rfl) dX0_readNext_1 ⟨Nat.zero_le _, Nat.zero_le _⟩ (fun H locs hP hS => ?_)
  refine lv_aload_n hx hb dX0_readNext_4 rfl (lv_at hl 0 rfl) ?_
  refine w_get hx hb hts iX0_readNext_X0 hown hP hK (by decide) emb_cm rfl 3 (by decide) hk_f41 rfl dX0_readNext_5 ?_
  refine lv_aload_n hx hb dX0_readNext_8 rfl (lv_at hl 0 rfl) ?_
  refine w_get hx hb hts iX0_readNext_X0 hown hP hK (by decide) emb_cm rfl 2 (by decide) hk_f27 rfl dX0_readNext_9 ?_
  refine lv_icmp_ge (tgt := 22) hx hb dX0_readNext_12 (by decide) (fun h3 => ?_) (fun h3 => ?_)
  · rw [if_pos h3] at hf
    refine lv_iconst (v := 0) hx hb dX0_readNext_22 (by decide) ?_
    have hf := Option.some.inj hf
    simp only [Prod.mk.injEq] at hf
    obtain ⟨rfl, rfl⟩ := hf
    rw [hQ]
    exact w_zret hx hb hr hlocks hP hK hS dX0_readNext_23 (by decide) rfl rfl
  · rw [if_neg h3] at hf
    refine lv_aload_n hx hb dX0_readNext_15 rfl (lv_at hl 0 rfl) ?_
    obtain ⟨x4, c5, hc6, hf⟩ := ob2_e hf
    refine w_ciS ⟨hx, hb, hml, hown, hts⟩ hP hK hG hS (k0_readWord l hX w hc6) hc_54 (w_recv hP hK (by decide) emb_cm rfl) rfl hl.1 rfl (Nat.le_of_ble_eq_true rfl) dX0_readNext_16 ⟨Nat.zero_le _, Nat.zero_le _⟩ (fun H locs hP hS => ?_)
    refine lv_if_ne (tgt := 24) hx hb dX0_readNext_19 (by decide) (fun h7 => ?_) (fun h7 => ?_)
    · rw [if_neg h7] at hf
      refine lv_aload_n hx hb dX0_readNext_24 rfl (lv_at hl 0 rfl) ?_
      refine w_get hx hb hts iX0_readNext_X0 hown hP hK (by decide) emb_cm rfl 4 (by decide) hk_f34 rfl dX0_readNext_25 ?_
      obtain ⟨x8, hc9, hf⟩ := lt1_e hf
      refine w_csi ⟨hx, hb, hml, hown, hts⟩ hP hK hS (k0_numbersOf l hX w hc9) hc_57 rfl hl.1 rfl (Nat.le_of_ble_eq_true rfl) dX0_readNext_28 ⟨Nat.zero_le _, Nat.zero_le _⟩ (fun H locs hP hS => ?_)
      refine lv_istore_n (lv' := [(1, .int x8), (0, .ref (xa X 309))]) hx hb dX0_readNext_31 rfl hl (by decide) rfl (fun ls hl => ?_)
      refine lv_iconst (v := 0) hx hb dX0_readNext_32 (by decide) ?_
      refine lv_istore_n (lv' := [(2, .int 0), (1, .int x8), (0, .ref (xa X 309))]) hx hb dX0_readNext_33 rfl hl (by decide) rfl (fun ls hl => ?_)
      have L34 : ∀ (n : Nat) (x11 : Int32) (x12 : Int32) (c13 : bkA) (H : Heap) (locs : List Loc) (ls : Array Slot), m0_readNext_L34 N n x11 x12 c13 = some (res9, c9) → HW X (pcm w c13) H → va_S (xF b0) s.heap H locs → lv_has ls 3 [(0, .ref (xa X 309)), (1, .int x11), (2, .int x12)] → W p l e R s m args below meth c H locs 0 0 Q (F0 m 34 ls []) := by
        intro n; induction n with
        | zero => intro x11 x12 c13 H locs ls hf; rw [m0_readNext_L34] at hf; cases hf
        | succ n ih =>
          intro x11 x12 c13 H locs ls hf hP hS hl
          rw [m0_readNext_L34] at hf
          refine lv_iload_n hx hb dX0_readNext_34 rfl (lv_at hl 2 rfl) ?_
          refine lv_iload_n hx hb dX0_readNext_35 rfl (lv_at hl 1 rfl) ?_
          refine lv_icmp_ge (tgt := 55) hx hb dX0_readNext_36 (by decide) (fun h14 => ?_) (fun h14 => ?_)
          · rw [if_pos h14] at hf
            refine lv_aload_n hx hb dX0_readNext_55 rfl (lv_at hl 0 rfl) ?_
            obtain ⟨c15, hc16, hf⟩ := ob1_e hf
            refine w_cv ⟨hx, hb, hml, hown, hts⟩ hP hK hS (k0_skipSpaces l hX w hc16) hc_51 (w_recv hP hK (by decide) emb_cm rfl) rfl hl.1 rfl (Nat.le_of_ble_eq_true rfl) dX0_readNext_56 ⟨Nat.zero_le _, Nat.zero_le _⟩ (fun H locs hP hS => ?_)
            refine lv_aload_n hx hb dX0_readNext_59 rfl (lv_at hl 0 rfl) ?_
            obtain ⟨x17, hc18, hf⟩ := lt1_e hf
            refine w_ci ⟨hx, hb, hml, hown, hts⟩ hP hK hS (k0_byteAtCursor l hX w hc18) hc_64 (w_recv hP hK (by decide) emb_cm rfl) rfl hl.1 rfl (Nat.le_of_ble_eq_true rfl) dX0_readNext_60 ⟨Nat.zero_le _, Nat.zero_le _⟩ (fun H locs hP hS => ?_)
            refine lv_bipush (v := 59) hx hb dX0_readNext_63 (by decide) ?_
            refine lv_icmp_eq (tgt := 77) hx hb dX0_readNext_65 (by decide) (fun h19 => ?_) (fun h19 => ?_)
            · rw [if_pos h19] at hf
              refine lv_aload_n hx hb dX0_readNext_77 rfl (lv_at hl 0 rfl) ?_
              refine lv_dup hx hb dX0_readNext_78 rfl ?_
              refine w_get hx hb hts iX0_readNext_X0 hown hP hK (by decide) emb_cm rfl 3 (by decide) hk_f41 rfl dX0_readNext_79 ?_
              refine lv_iconst (v := 1) hx hb dX0_readNext_82 (by decide) ?_
              refine lv_iadd hx hb dX0_readNext_83 ?_
              refine cm_put hx hb hts iX0_readNext_X0 hown hX hP hK hS 3 (by decide) hk_f41 rfl rfl (Nat.le_of_ble_eq_true rfl) (cm_es1 _) dX0_readNext_84 (fun c20 ec20 H locs hP hS => ?_)
              replace hf := ltn_s ec20 hf
              refine lv_iconst (v := 1) hx hb dX0_readNext_87 (by decide) ?_
              have hf := Option.some.inj hf
              simp only [Prod.mk.injEq] at hf
              obtain ⟨rfl, rfl⟩ := hf
              rw [hQ]
              exact w_zret hx hb hr hlocks hP hK hS dX0_readNext_88 (by decide) rfl rfl
            · rw [if_neg h19] at hf
              refine lv_aload_n hx hb dX0_readNext_68 rfl (lv_at hl 0 rfl) ?_
              refine lv_aload_n hx hb dX0_readNext_69 rfl (lv_at hl 0 rfl) ?_
              refine w_get hx hb hts iX0_readNext_X0 hown hP hK (by decide) emb_cm rfl 3 (by decide) hk_f41 rfl dX0_readNext_70 ?_
              obtain ⟨x21, c22, hc23, hf⟩ := lt2_e hf
              refine w_ci ⟨hx, hb, hml, hown, hts⟩ hP hK hS (k0_failAt l hX w hc23) hc_68 (w_recv hP hK (by decide) emb_cm rfl) rfl hl.1 rfl (Nat.le_of_ble_eq_true rfl) dX0_readNext_73 ⟨Nat.zero_le _, Nat.zero_le _⟩ (fun H locs hP hS => ?_)
              obtain ⟨hb24, hf⟩ := ckp_e hf
              have hf := Option.some.inj hf
              simp only [Prod.mk.injEq] at hf
              obtain ⟨rfl, rfl⟩ := hf
              rw [hQ]
              exact w_zret hx hb hr hlocks hP hK hS dX0_readNext_76 hb24 rfl rfl
          · rw [if_neg h14] at hf
            refine lv_aload_n hx hb dX0_readNext_39 rfl (lv_at hl 0 rfl) ?_
            refine lv_iload_n hx hb dX0_readNext_40 rfl (lv_at hl 2 rfl) ?_
            obtain ⟨x25, c26, hc27, hf⟩ := ob2_e hf
            refine w_ci ⟨hx, hb, hml, hown, hts⟩ hP hK hS (k0_readNumber l hX w hc27) hc_60 (w_recv hP hK (by decide) emb_cm rfl) rfl hl.1 rfl (Nat.le_of_ble_eq_true rfl) dX0_readNext_41 ⟨Nat.zero_le _, Nat.zero_le _⟩ (fun H locs hP hS => ?_)
            refine lv_if_ne (tgt := 49) hx hb dX0_readNext_44 (by decide) (fun h28 => ?_) (fun h28 => ?_)
            · rw [if_neg h28] at hf
              obtain ⟨x29, ex29⟩ : ∃ y : Int32, y = x12 + 1 := ⟨_, rfl⟩
              replace hf := ltn_s ex29 hf
              refine lv_iinc (v := x29) (lv' := [(2, .int x29), (0, .ref (xa X 309)), (1, .int x11)]) hx hb dX0_readNext_49 hl (k := 2) rfl (by rw [ex29]; rfl) (by decide) rfl (fun ls hl => ?_)
              refine lv_goto (tgt := 34) hx hb dX0_readNext_52 (by decide) ?_
              exact ih x11 x29 c26  _ _ _ hf hP hS (lv_sub hl [1, 2, 0] rfl)
            · rw [if_pos h28] at hf
              refine lv_iconst (v := 0) hx hb dX0_readNext_47 (by decide) ?_
              have hf := Option.some.inj hf
              simp only [Prod.mk.injEq] at hf
              obtain ⟨rfl, rfl⟩ := hf
              rw [hQ]
              exact w_zret hx hb hr hlocks hP hK hS dX0_readNext_48 (by decide) rfl rfl
      exact L34 N x8 0 c5 _ _ _ hf hP hS (lv_sub hl [2, 1, 0] rfl)
    · rw [if_pos h7] at hf
      refine lv_iconst (v := 0) hx hb dX0_readNext_22 (by decide) ?_
      have hf := Option.some.inj hf
      simp only [Prod.mk.injEq] at hf
      obtain ⟨rfl, rfl⟩ := hf
      rw [hQ]
      exact w_zret hx hb hr hlocks hP hK hS dX0_readNext_23 (by decide) rfl rfl
abbrev rmX0_findFault : Room := { frames := 8, cells := 0, slots := 0, locals := 175 }
theorem iX0_findFault_X0 : ∀ w ∈ wsX00, w ∈ wsX0_findFault := by decide +kernel
set_option maxHeartbeats 4000000 in
set_option maxRecDepth 100000 in
theorem k0_findFault (l : Launch) {X : bkX} {Y : bkY} {b0 : Nat} (hX : XO X b0) (w : bkW) {N : Nat} {c0 : bkA} {res9 : Int32} {c9 : bkA} (hf : m0_findFault N c0 = some (res9, c9)) : cIS l yX0_findFault wsX0_findFault rmX0_findFault X Y b0 [.ref (xa X 309)] (pcm w c0) res9 (pcm w c9) := by
  refine Met.ofW (cc := cX0_findFault) (maxL := 2) (ret := (some .int)) (by decide) rfl ?_
  intro p e s m args below meth c s₁ B hml hv
  obtain ⟨ha, ⟨hP, hK⟩, hG⟩ := hv
  have hx := B.exec
  have hb := B.bytes
  have hr := B.returns
  have hts := atoms_spec (ws := wsX0_findFault) B.pre
  have hown : s.vm.findClass RX0 = some m.cls := findClass_of_methodNamed B.named
  have hlocks := B.notSynchronized
  obtain ⟨R, hR⟩ : ∃ R, R = (headSpec wsX0_findFault rmX0_findFault).room := ⟨_, rfl⟩
  rw [← hR]
  have hR1 : R.frames = 8 := by rw [hR]; rfl
  have hR2 : R.locals = 175 := by rw [hR]; rfl
  obtain ⟨Q, hQ⟩ : ∃ Q : State → Prop, Q = MQ below (va_Qi (fun r' (_ : Unit) => r' = res9) (fun _ t => WU X (pcm w c9) t) (xF b0)) args s 0 0 (xF b0) := ⟨_, rfl⟩
  rw [← hQ]
  have hS : va_S (xF b0) s.heap s.heap [] := va_S.rf
  have hl := lv_entry ([.ref (xa X 309)]) (n := 2) (Nat.le_of_ble_eq_true rfl)
  refine W.eq ((congrArg (fun z => entryFrame m z 2) ha).trans (lg_entry_eq m _ 2)) ?_
  generalize (lg_sl ([.ref (xa X 309)]) ++ List.replicate (2 - (lg_sl ([.ref (xa X 309)])).length) Slot.unset).toArray = ls at hl ⊢
  have hl : lv_has ls 2 [(0, .ref (xa X 309))] := hl
  have hc_44 := (cwV 0 hts gX0_findFault_X0_rewind rfl rfl rfl (by decide +kernel) ⟨by rw [hR1]; exact Nat.le_of_ble_eq_true rfl, by rw [hR2]; exact Nat.le_of_ble_eq_true rfl⟩ : CallW R s args RX0 RX0 44 yX0_rewind cX0_rewind 1 none wsX0_rewind rmX0_rewind 0 0 0)
  have hk_f23 := hts (.fieldLink RX0 23 "BakeTurns$Commands" "fault" "I") (by decide +kernel)
  have hc_47 := (cwV 0 hts gX0_findFault_X0_readNext rfl rfl rfl (by decide +kernel) ⟨by rw [hR1]; exact Nat.le_of_ble_eq_true rfl, by rw [hR2]; exact Nat.le_of_ble_eq_true rfl⟩ : CallW R s args RX0 RX0 47 yX0_readNext cX0_readNext 3 (some .boolean) wsX0_readNext rmX0_readNext 0 0 0)
  unfold m0_findFault at hf
  refine lv_aload_n hx hb dX0_findFault_0 rfl (lv_at hl 0 rfl) ?_
  obtain ⟨c1, hc2, hf⟩ := lt1_e hf
  refine w_cv ⟨hx, hb, hml, hown, hts⟩ hP hK hS (k0_rewind l hX w hc2) hc_44 (w_recv hP hK (by decide) emb_cm rfl) rfl hl.1 rfl (Nat.le_of_ble_eq_true rfl) dX0_findFault_1 ⟨Nat.zero_le _, Nat.zero_le _⟩ (fun H locs hP hS => ?_)
  refine lv_iconst (v := 0) hx hb dX0_findFault_4 (by decide) ?_
  refine lv_istore_n (lv' := [(1, .int 0), (0, .ref (xa X 309))]) hx hb dX0_findFault_5 rfl hl (by decide) rfl (fun ls hl => ?_)
  have L6 : ∀ (n : Nat) (x4 : Int32) (c5 : bkA) (H : Heap) (locs : List Loc) (ls : Array Slot), m0_findFault_L6 N n x4 c5 = some (res9, c9) → HW X (pcm w c5) H → va_S (xF b0) s.heap H locs → lv_has ls 2 [(0, .ref (xa X 309)), (1, .int x4)] → W p l e R s m args below meth c H locs 0 0 Q (F0 m 6 ls []) := by
    intro n; induction n with
    | zero => intro x4 c5 H locs ls hf; rw [m0_findFault_L6] at hf; cases hf
    | succ n ih =>
      intro x4 c5 H locs ls hf hP hS hl
      rw [m0_findFault_L6] at hf
      refine lv_iload_n hx hb dX0_findFault_6 rfl (lv_at hl 1 rfl) ?_
      refine lv_sipush (v := 150) hx hb dX0_findFault_7 (by decide) ?_
      refine lv_icmp_ge (tgt := 31) hx hb dX0_findFault_10 (by decide) (fun h6 => ?_) (fun h6 => ?_)
      · rw [if_pos h6] at hf
        refine lv_aload_n hx hb dX0_findFault_31 rfl (lv_at hl 0 rfl) ?_
        refine w_get hx hb hts iX0_findFault_X0 hown hP hK (by decide) emb_cm rfl 5 (by decide) hk_f23 rfl dX0_findFault_32 ?_
        have hf := Option.some.inj hf
        simp only [Prod.mk.injEq] at hf
        obtain ⟨rfl, rfl⟩ := hf
        rw [hQ]
        exact w_iret hx hb hr hlocks hP hK hS dX0_findFault_35 rfl rfl
      · rw [if_neg h6] at hf
        refine lv_aload_n hx hb dX0_findFault_13 rfl (lv_at hl 0 rfl) ?_
        obtain ⟨x7, c8, hc9, hf⟩ := ob2_e hf
        refine w_ciS ⟨hx, hb, hml, hown, hts⟩ hP hK hG hS (k0_readNext l hX w hc9) hc_47 (w_recv hP hK (by decide) emb_cm rfl) rfl hl.1 rfl (Nat.le_of_ble_eq_true rfl) dX0_findFault_14 ⟨Nat.zero_le _, Nat.zero_le _⟩ (fun H locs hP hS => ?_)
        refine lv_if_ne (tgt := 25) hx hb dX0_findFault_17 (by decide) (fun h10 => ?_) (fun h10 => ?_)
        · rw [if_neg h10] at hf
          obtain ⟨x11, ex11⟩ : ∃ y : Int32, y = x4 + 1 := ⟨_, rfl⟩
          replace hf := ltn_s ex11 hf
          refine lv_iinc (v := x11) (lv' := [(1, .int x11), (0, .ref (xa X 309))]) hx hb dX0_findFault_25 hl (k := 1) rfl (by rw [ex11]; rfl) (by decide) rfl (fun ls hl => ?_)
          refine lv_goto (tgt := 6) hx hb dX0_findFault_28 (by decide) ?_
          exact ih x11 c8  _ _ _ hf hP hS (lv_sub hl [1, 0] rfl)
        · rw [if_pos h10] at hf
          refine lv_aload_n hx hb dX0_findFault_20 rfl (lv_at hl 0 rfl) ?_
          refine w_get hx hb hts iX0_findFault_X0 hown hP hK (by decide) emb_cm rfl 5 (by decide) hk_f23 rfl dX0_findFault_21 ?_
          have hf := Option.some.inj hf
          simp only [Prod.mk.injEq] at hf
          obtain ⟨rfl, rfl⟩ := hf
          rw [hQ]
          exact w_iret hx hb hr hlocks hP hK hS dX0_findFault_24 rfl rfl
  exact L6 N 0 c1 _ _ _ hf hP hS (lv_sub hl [1, 0] rfl)
