/-! Row.copyFrom: one row's cells into another's of the same length -/
def rcp (n : Nat) (g f : Nat → Int32) : Nat → Int32 := fun t => if t < n then g t else f t
theorem va_cpy_rcp {n : Nat} (hn : n < 2^31) (g f : Nat → Int32) : va_cpy g f (0 : Int32).toNatClampNeg (0 : Int32).toNatClampNeg (nI n).toNatClampNeg = rcp n g f := by
  rw [nI_clamp hn]
  funext t
  unfold va_cpy rcp
  have e : (0 : Int32).toNatClampNeg = 0 := rfl
  rw [e]
  by_cases h : t < n
  · rw [if_pos (by omega), if_pos h]
    congr 1
    omega
  · rw [if_neg (by omega), if_neg h]
set_option maxHeartbeats 4000000 in
set_option maxRecDepth 100000 in
theorem kR_copyFrom (l : Launch) {X : bkX} {b0 : Nat} (hX : XO X b0) {cr ca a n cr2 ca2 a2 : Nat} (hR0 : RW X cr ca a n) (hR2 : RW X cr2 ca2 a2 n) (w : bkW) : cV l yX6_copyFrom wsX6_copyFrom rmX6_copyFrom X b0 [.ref (xa X cr), .ref (xa X cr2)] w (ua w a (rcp n (w.1 a2) (w.1 a))) := by
  obtain ⟨⟨hcr, hca⟩, hn, heR, heA, heU⟩ := id hR0
  obtain ⟨⟨hcr2, hca2⟩, -, heR2, heA2, -⟩ := id hR2
  refine Met.ofW (cc := cX6_copyFrom) (maxL := 2) (ret := none) (by decide) rfl ?_
  intro p e s m args below meth c s₁ B hml hv
  obtain ⟨ha, hP, hK⟩ := hv
  have hx := B.exec
  have hb := B.bytes
  have hr := B.returns
  have hts := atoms_spec (ws := wsX6_copyFrom) B.pre
  have hown : s.vm.findClass RX6 = some m.cls := findClass_of_methodNamed B.named
  have hlocks := B.notSynchronized
  have hS : va_S (xF b0) s.heap s.heap [] := va_S.rf
  have hl := lv_entry ([.ref (xa X cr), .ref (xa X cr2)]) (n := 2) (Nat.le_of_ble_eq_true rfl)
  refine W.eq ((congrArg (fun z => entryFrame m z 2) ha).trans (lg_entry_eq m _ 2)) ?_
  generalize (lg_sl ([.ref (xa X cr), .ref (xa X cr2)]) ++ List.replicate (2 - (lg_sl ([.ref (xa X cr), .ref (xa X cr2)])).length) Slot.unset).toArray = ls at hl ⊢
  have hl : lv_has ls 2 [(0, .ref (xa X cr)), (1, .ref (xa X cr2))] := hl
  have hk7 := hts (.fieldLink RX6 7 "BakeTurns$Row" "cells" "[I") (by decide +kernel)
  refine lv_aload_n hx hb dX6_copyFrom_0 rfl (lv_at hl 1 rfl) ?_
  refine lv_ifnull hx hb dX6_copyFrom_1 ?_
  refine lv_aload_n hx hb dX6_copyFrom_4 rfl (lv_at hl 1 rfl) ?_
  refine w_get hx hb hts iX6_copyFrom_X6 hown hP hK hcr2 (heR2 w) rfl 0 (by decide) hk7 rfl dX6_copyFrom_5 ?_
  refine lv_iconst (v := 0) hx hb dX6_copyFrom_8 (by decide) ?_
  refine lv_aload_n hx hb dX6_copyFrom_9 rfl (lv_at hl 0 rfl) ?_
  refine w_get hx hb hts iX6_copyFrom_X6 hown hP hK hcr (heR w) rfl 0 (by decide) hk7 rfl dX6_copyFrom_10 ?_
  refine lv_iconst (v := 0) hx hb dX6_copyFrom_13 (by decide) ?_
  refine lv_aload_n hx hb dX6_copyFrom_14 rfl (lv_at hl 1 rfl) ?_
  refine w_get hx hb hts iX6_copyFrom_X6 hown hP hK hcr2 (heR2 w) rfl 0 (by decide) hk7 rfl dX6_copyFrom_15 ?_
  refine w_alen hx hb hP hK hca2 (heA2 w) dX6_copyFrom_18 ?_
  refine lv_aload_n hx hb dX6_copyFrom_19 rfl (lv_at hl 0 rfl) ?_
  refine w_get hx hb hts iX6_copyFrom_X6 hown hP hK hcr (heR w) rfl 0 (by decide) hk7 rfl dX6_copyFrom_20 ?_
  refine w_alen hx hb hP hK hca (heA w) dX6_copyFrom_23 ?_
  refine va_mmin hx hb (by rw [hml]; exact hl.1.symm) hown (hts (.methodLink RX6 21 Lib.Math.min.name) (by decide +kernel)) (hts (.static Lib.Math.min.name) (by decide +kernel)) (hts (.initialized "java/lang/Math") (by decide +kernel)) (hts (.code Lib.Math.min.name Lib.Math.min.code 2 (some .int)) (by decide +kernel)) (Nat.le_of_ble_eq_true rfl) (Nat.le_of_ble_eq_true rfl) (Nat.zero_le _) (Nat.zero_le _) dX6_copyFrom_24 ?_
  rw [ite_self]
  refine va_copyi hx hb (by rw [hml]; exact hl.1.symm) hown (hts (.methodLink RX6 27 arraycopyName) (by decide +kernel)) (hts (.native arraycopyName) (by decide +kernel)) (hts (.static arraycopyName) (by decide +kernel)) (hts (.initialized "java/lang/System") (by decide +kernel)) hK hP (hX.D _) hS ca2 ca 0 0 (by rw [wl_get hca2, heA2]) (by rw [wl_get hca, heA]) rfl rfl rfl (by decide) (by decide) (nI_pos hn) (by rw [nI_clamp hn]; show (0:Int32).toNatClampNeg + n ≤ n; have e : (0 : Int32).toNatClampNeg = 0 := rfl; omega) (by rw [nI_clamp hn]; show (0:Int32).toNatClampNeg + n ≤ n; have e : (0 : Int32).toNatClampNeg = 0 := rfl; omega) (fun _ _ => rfl) (Nat.le_of_ble_eq_true rfl) (Nat.le_of_ble_eq_true rfl) dX6_copyFrom_27 (fun H locs h1 _ h3 => ?_)
  rw [va_cpy_rcp hn, wl_set hca, wl_congr fun j _ => heU w _ j] at h1
  exact w_vret hx hb hr hlocks h1 hK h3 dX6_copyFrom_30 rfl
