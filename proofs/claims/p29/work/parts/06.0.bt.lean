/-! BakeTurns' own world: now f, whatIf g, the saved States y, the text c, the stack's ints o -/
def pbt (w : bkW) (f g c : bkA) (y : Nat → bkA) (o : Nat → Int32) : bkW := (fun a => if a / 24 = 0 then f (a % 24) else if a / 24 = 1 then g (a % 24) else if a < 144 then y (a / 24 - 2) (a % 24) else if a < 147 then c (a - 144) else if a = 147 then o else w.1 a, w.2)
theorem pbt_f {w : bkW} {f g c z : bkA} {y : Nat → bkA} {o : Nat → Int32} : pk (pbt w f g c y o) 0 z = pbt w z g c y o := by
  unfold pk pbt
  refine Prod.ext (funext fun a => ?_) rfl
  dsimp only
  by_cases h : a / 24 = 0 <;> simp only [h, if_true, if_false]
theorem pbt_g {w : bkW} {f g c z : bkA} {y : Nat → bkA} {o : Nat → Int32} : pk (pbt w f g c y o) 1 z = pbt w f z c y o := by
  unfold pk pbt
  refine Prod.ext (funext fun a => ?_) rfl
  dsimp only
  by_cases h : a / 24 = 1
  · have h0 : ¬ a / 24 = 0 := by omega
    rw [if_pos h, if_neg h0, if_pos h]
  · simp only [h, if_false]
theorem pbt_y {w : bkW} {f g c z : bkA} {y : Nat → bkA} {o : Nat → Int32} {j : Nat} (hj : j < 4) : pk (pbt w f g c y o) (2+j) z = pbt w f g c (ur y j z) o := by
  unfold pk pbt
  refine Prod.ext (funext fun a => ?_) rfl
  dsimp only
  by_cases h : a / 24 = 2 + j
  · have e : a / 24 - 2 = j := by omega
    rw [if_pos h, if_neg (by omega), if_neg (by omega), if_pos (by omega), e, ur_s]
  · rw [if_neg h]
    by_cases h0 : a / 24 = 0
    · rw [if_pos h0, if_pos h0]
    · by_cases h1 : a / 24 = 1
      · rw [if_neg h0, if_neg h0, if_pos h1, if_pos h1]
      · rw [if_neg h0, if_neg h0, if_neg h1, if_neg h1, ur_n (by omega)]
theorem pbt_c {w : bkW} {f g c z : bkA} {y : Nat → bkA} {o : Nat → Int32} : pcm (pbt w f g c y o) z = pbt w f g z y o := by
  unfold pcm pbt
  refine Prod.ext (funext fun a => ?_) rfl
  dsimp only
  by_cases h : 144 ≤ a ∧ a < 147
  · rw [if_pos h, if_neg (by omega), if_neg (by omega), if_neg (by omega), if_pos h.2]
  · rw [if_neg h]
    by_cases h2 : a < 147
    · by_cases h0 : a / 24 = 0
      · rw [if_pos h0, if_pos h0]
      · by_cases h1 : a / 24 = 1
        · rw [if_neg h0, if_neg h0, if_pos h1, if_pos h1]
        · rw [if_neg h0, if_neg h0, if_neg h1, if_neg h1, if_pos (by omega), if_pos (by omega)]
    · have h0 : ¬ a / 24 = 0 := by omega
      have h1 : ¬ a / 24 = 1 := by omega
      have h3 : ¬ a < 144 := by omega
      simp only [h0, h1, h2, h3, if_false]
theorem ur_self {α : Type} {y : Nat → α} {j : Nat} : ur y j (y j) = y := by
  funext i
  unfold ur
  by_cases h : i = j
  · rw [if_pos h, h]
  · rw [if_neg h]
theorem HW_f {X : bkX} {w : bkW} {f g c : bkA} {y : Nat → bkA} {o : Nat → Int32} {H : Heap} (h : HW X (pbt w f g c y o) H) : HW X (pk (pbt w f g c y o) 0 f) H := by rw [pbt_f]; exact h
theorem HW_g {X : bkX} {w : bkW} {f g c : bkA} {y : Nat → bkA} {o : Nat → Int32} {H : Heap} (h : HW X (pbt w f g c y o) H) : HW X (pk (pbt w f g c y o) 1 g) H := by rw [pbt_g]; exact h
theorem HW_y {X : bkX} {w : bkW} {f g c : bkA} {y : Nat → bkA} {o : Nat → Int32} {H : Heap} {j : Nat} (hj : j < 4) (h : HW X (pbt w f g c y o) H) : HW X (pk (pbt w f g c y o) (2+j) (y j)) H := by rw [pbt_y hj, ur_self]; exact h
theorem HW_c {X : bkX} {w : bkW} {f g c : bkA} {y : Nat → bkA} {o : Nat → Int32} {H : Heap} (h : HW X (pbt w f g c y o) H) : HW X (pcm (pbt w f g c y o) c) H := by rw [pbt_c]; exact h
def hiF (X : bkX) (o : Nat → Int32) : List Value := [.ref (xa X 308), .int (o 0), .int (o 1)]
theorem emb_bt {X : bkX} {w : bkW} : emb X w 306 = .inr (8, [.ref (xa X (51*0+0)), .ref (xa X (51*1+0)), .ref (xa X 307), .ref (xa X 309)]) := rfl
theorem emb_hi {X : bkX} {w : bkW} {f g c : bkA} {y : Nat → bkA} {o : Nat → Int32} : emb X (pbt w f g c y o) 307 = .inr (2, hiF X o) := rfl
theorem emb_sv {X : bkX} {w : bkW} : emb X w 308 = .inl (xQ X, 4, .inr (.inr (.inr (.inr (fun j => some (xa X (51*(2+j)))))))) := rfl
theorem pbt_o {w : bkW} {f g c : bkA} {y : Nat → bkA} {o z : Nat → Int32} : ua (pbt w f g c y o) 147 z = pbt w f g c y z := by
  unfold ua pbt ur
  refine Prod.ext (funext fun a => ?_) rfl
  dsimp only
  by_cases h : a = 147 <;> simp [h]
theorem emb_hi_upd {X : bkX} {w : bkW} {f g c : bkA} {y : Nat → bkA} {o o' : Nat → Int32} (j : Nat) : vf_upd (emb X (pbt w f g c y o)) 307 (.inr (2, hiF X o')) j = emb X (pbt w f g c y o') j := by
  unfold vf_upd
  by_cases h : j = 307
  · subst h
    rfl
  · have e9 : pbt w f g c y o' = ua (pbt w f g c y o) 147 o' := pbt_o.symm
    rw [if_neg h, e9]
    unfold emb
    by_cases hi : j < 306
    · rw [if_pos hi, if_pos hi]
      refine embS_congr (by omega) fun a ha => ?_
      exact (ur_n (by omega)).symm
    · rw [if_neg hi, if_neg hi]
      have h2 : ¬ j - 306 = 1 := by omega
      unfold embX
      simp only [h2, if_false, ua, ur, Nat.reduceEqDiff]
theorem hi_es0 {X : bkX} {o : Nat → Int32} (v : Int32) : (hiF X o).set 1 (.int v) = hiF X (upd o 0 v) := by simp [hiF, upd]
theorem hi_es1 {X : bkX} {o : Nat → Int32} (v : Int32) : (hiF X o).set 2 (.int v) = hiF X (upd o 1 v) := by simp [hiF, upd]
/-- the saved State that a number of the stack means -/
theorem slot6 {j : Nat} (h : j < 4) : 2 + j < 6 := by omega
def slx (a b : Int32) : Int32 := (a + b) - (a + b) / 4 * 4
section HIW
variable {p : Program} {l : Launch} {e : Env} {R : Room} {s : State} {m : MethodId} {args : Array Value} {below : List Frame} {meth : Method} {c : Code} {H : Heap} {locs : List Loc} {Q : State → Prop}
variable {pc : Nat} {ls : Array Slot} {rest : List Value} {cc : ByteArray} {X : bkX} {w : bkW} {b0 : Nat} {H0 : Heap} {Ts : List Cond} {own : String} {index : Nat} {f g c0 : bkA} {y : Nat → bkA} {o o' : Nat → Int32} {v : Int32}
theorem hi_put (hexec : p.tables.exec = Jvm.exec) (hb : c.code = cc) (hts : ∀ w ∈ Ts, w.before args s = true) (hin : ∀ w ∈ u_ws RX2 TX2 3, w ∈ Ts) (hown : s.vm.findClass own = some m.cls) (hX : XO X b0) (hP : HW X (pbt w f g c0 y o) H) (hK : XK X s) (hS : va_S (xF b0) H0 H locs) (fld : Nat) (hfld : fld < 3) (hlink : (Cond.fieldLink own index (TX2 fld).1 (TX2 fld).2.1 (TX2 fld).2.2.1).before args s = true) (hfin : (TX2 fld).2.2.2 = false) (hd : parseFieldDescriptor (TX2 fld).2.2.1 = some .int) (hl : fld < (hiF X o).length) (hes : (hiF X o).set fld (.int v) = hiF X o') (hdg : decode cc pc = .ok (.putfield index, 3))
    (kk : ∀ o1, o1 = o' → ∀ (H1 : Heap) (locs1 : List Loc), HW X (pbt w f g c0 y o1) H1 → va_S (xF b0) H0 H1 locs1 → W p l e R s m args below meth c H1 locs1 0 0 Q (F0 m (pc + 3) ls rest)) : W p l e R s m args below meth c H locs 0 0 Q (F0 m pc ls (.int v :: .ref (xa X 307) :: rest)) :=
  w_put hexec hb hts hin tyX2 tyX2_ok nmX2 hown hX hP hK hS (by decide) emb_hi rfl fld hfld hlink hfin hd hl (fun j => by rw [hes]; exact emb_hi_upd j) hdg (fun H1 locs1 h1 h2 => kk _ rfl H1 locs1 h1 h2)
end HIW
abbrev rmX2_slotAt : Room := { frames := 0, cells := 0, slots := 0, locals := 0 }
theorem iX2_slotAt_X2 : ∀ w ∈ wsX20, w ∈ wsX2_slotAt := by decide +kernel
def cR (l : Launch) (y : MethodName) (ws : List Cond) (rm : Room) (X : bkX) (b0 : Nat) (as : List Value) (w : bkW) (r : Nat) (w' : bkW) : Prop := Met l y ws rm (va_Pc as (WU X w)) (va_Qr (fun (_ : Unit) => True) (fun _ a t => a = r ∧ WU X w' t) (xF b0)) 0 0 (xF b0)
set_option maxHeartbeats 4000000 in
set_option maxRecDepth 100000 in
theorem k2_slotAt (l : Launch) {X : bkX} {b0 : Nat} {f g c0 : bkA} {y : Nat → bkA} {o : Nat → Int32} {i : Int32} (hin : vp_in (slx (o 0) i) 4) (w : bkW) : cR l yX2_slotAt wsX2_slotAt rmX2_slotAt X b0 [.ref (xa X 307), .int i] (pbt w f g c0 y o) (xa X (51*(2+(slx (o 0) i).toNatClampNeg)+0)) (pbt w f g c0 y o) := by
  refine Met.ofW (cc := cX2_slotAt) (maxL := 3) (ret := some (.object "BakeTurns$State")) (by decide) rfl ?_
  intro p e s m args below meth c s₁ B hml hv
  obtain ⟨ha, hP, hK⟩ := hv
  have hx := B.exec
  have hb := B.bytes
  have hr := B.returns
  have hts := atoms_spec (ws := wsX2_slotAt) B.pre
  have hown : s.vm.findClass RX2 = some m.cls := findClass_of_methodNamed B.named
  have hlocks := B.notSynchronized
  have hS : va_S (xF b0) s.heap s.heap [] := va_S.rf
  have hl := lv_entry ([.ref (xa X 307), .int i]) (n := 3) (Nat.le_of_ble_eq_true rfl)
  refine W.eq ((congrArg (fun z => entryFrame m z 3) ha).trans (lg_entry_eq m _ 3)) ?_
  generalize (lg_sl ([.ref (xa X 307), .int i]) ++ List.replicate (3 - (lg_sl ([.ref (xa X 307), .int i])).length) Slot.unset).toArray = ls at hl ⊢
  have hl : lv_has ls 3 [(0, .ref (xa X 307)), (1, .int i)] := hl
  have hk30 := hts (.fieldLink RX2 30 "BakeTurns$History" "oldest" "I") (by decide +kernel)
  have hk11 := hts (.fieldLink RX2 11 "BakeTurns$History" "saved" "[LBakeTurns$State;") (by decide +kernel)
  refine lv_aload_n hx hb dX2_slotAt_0 rfl (lv_at hl 0 rfl) ?_
  refine w_get hx hb hts iX2_slotAt_X2 hown hP hK (by decide) emb_hi rfl 1 (by decide) hk30 rfl dX2_slotAt_1 ?_
  refine lv_iload_n hx hb dX2_slotAt_4 rfl (lv_at hl 1 rfl) ?_
  refine lv_iadd hx hb dX2_slotAt_5 ?_
  refine lv_iconst (v := 4) hx hb dX2_slotAt_6 (by decide) ?_
  refine lv_irem hx hb dX2_slotAt_7 (by decide) ?_
  have hsl : o 0 + i - (o 0 + i) / 4 * 4 = slx (o 0) i := rfl
  rw [hsl]
  generalize slx (o 0) i = x at hin ⊢
  refine lv_istore_n (lv' := [(2, .int x), (0, .ref (xa X 307)), (1, .int i)]) hx hb dX2_slotAt_8 rfl hl (by decide) rfl (fun ls hl => ?_)
  refine lv_iload_n hx hb dX2_slotAt_9 rfl (lv_at hl 0 rfl) ?_
  refine lv_if_lt (tgt := 31) hx hb dX2_slotAt_10 (by decide) (fun h => absurd (Or.inl h) hin) (fun _ => ?_)
  refine lv_iload_n hx hb dX2_slotAt_13 rfl (lv_at hl 0 rfl) ?_
  refine lv_aload_n hx hb dX2_slotAt_14 rfl (lv_at hl 1 rfl) ?_
  refine w_get hx hb hts iX2_slotAt_X2 hown hP hK (by decide) emb_hi rfl 0 (by decide) hk11 rfl dX2_slotAt_15 ?_
  refine va_alen (x := (4, .inr (.inr (.inr (.inr (fun j => some (xa X (51*(2+j)))))))) ) (v := 4) hx hb hK hP 308 1 (by rw [wl_get (by decide), emb_sv]) rfl rfl dX2_slotAt_18 ?_
  obtain ⟨j, hj, rfl⟩ := vp_in_of hin (by decide)
  refine lv_icmp_ge (tgt := 31) hx hb dX2_slotAt_19 (by decide) (fun h => absurd h (nI_ge hj (by decide))) (fun _ => ?_)
  refine lv_aload_n hx hb dX2_slotAt_22 rfl (lv_at hl 1 rfl) ?_
  refine w_get hx hb hts iX2_slotAt_X2 hown hP hK (by decide) emb_hi rfl 0 (by decide) hk11 rfl dX2_slotAt_23 ?_
  refine lv_iload_n hx hb dX2_slotAt_26 rfl (lv_at hl 0 rfl) ?_
  refine va_aldq (f := fun j => some (xa X (51*(2+j)))) hx hb hK hP 308 1 (by rw [wl_get (by decide), emb_sv]) rfl hin dX2_slotAt_27 ?_
  refine lv_goto (tgt := 32) hx hb dX2_slotAt_28 (by decide) ?_
  exact W.aret hx hb hr (Or.inl ⟨_, rfl⟩) (Or.inr ⟨_, rfl⟩) (fun t ht hW => ⟨⟨(), _, rfl, trivial, rfl, by show HW X _ t.heap; rw [ht]; exact hP, va_K.moved hW.alike hK⟩, hS.F ht⟩) hS.2.2 dX2_slotAt_32 hlocks
section HIW2
variable {p : Program} {l : Launch} {e : Env} {R : Room} {s : State} {m : MethodId} {args : Array Value} {below : List Frame} {meth : Method} {c : Code} {H : Heap} {locs : List Loc} {cells slots : Nat} {Q : State → Prop}
variable {pc : Nat} {ls : Array Slot} {rest : List Value} {cc : ByteArray} {X : bkX} {w : bkW} {b0 : Nat} {H0 : Heap} {Ts : List Cond} {own : String} {index nL : Nat} {f g c0 : bkA} {y : Nat → bkA} {o : Nat → Int32} {i : Int32}
theorem hi_slot (hin : vp_in (slx (o 0) i) 4) (S : CallFix p m c cc nL s args Ts own) (hP : HW X (pbt w f g c0 y o) H) (hK : XK X s) (hS : va_S (xF b0) H0 H locs) (cw : CallW R s args own RX2 index yX2_slotAt cX2_slotAt 3 (some (.object "BakeTurns$State")) wsX2_slotAt rmX2_slotAt 0 0 1) (hsz : ls.size = nL) (hrm : (rest.map fun v => v.category).sum ≤ 8) (hdg : decode cc pc = .ok (.invokevirtual index, 3)) (hroom : cells ≤ R.cells ∧ slots ≤ R.slots)
    (kk : ∀ (H1 : Heap) (locs1 : List Loc), HW X (pbt w f g c0 y o) H1 → va_S (xF b0) H0 H1 locs1 → W p l e R s m args below meth c H1 locs1 cells slots Q (F0 m (pc + 3) ls (.ref (xa X (51*(2+(slx (o 0) i).toNatClampNeg)+0)) :: rest))) : W p l e R s m args below meth c H locs cells slots Q (F0 m pc ls (.int i :: .ref (xa X 307) :: rest)) :=
  va_callr (va_runV (As := [.int i]) (rest := rest) S (k2_slotAt l (b0 := b0) hin w) cw ⟨w_blind, w_recv hP hK (by decide) emb_hi rfl, w_pre hP hK⟩ rfl rfl hsz rfl (by simpa using hrm) hdg hroom) hS (fun _ _ h => h) (fun _ h => h) (fun _ a t H1 locs1 ht hvm _ hB _ _ hS1 => by obtain ⟨rfl, hB⟩ := hB; exact kk H1 locs1 (by rw [← ht]; exact hB.1) hS1)
theorem hi_cpTo (l : Launch) (hX : XO X b0) {j : Nat} (hj : j < 4) : cV l yX7_copyFrom wsX7_copyFrom rmX7_copyFrom X b0 [.ref (xa X (51*(2+j)+0)), .ref (xa X (51*0+0))] (pbt w f g c0 y o) (pbt w f g c0 (ur y j f) o) := by
  have hM := k7_copyFrom l hX (k := 2+j) (k2 := 0) (by omega) (by decide) (by omega) (pbt w f g c0 y o) (f0 := y j) (g0 := f) rfl
  rw [pbt_f, pbt_y hj, pbt_y hj, ur_self] at hM
  exact hM
theorem hi_cpFrom (l : Launch) (hX : XO X b0) {j : Nat} (hj : j < 4) : cV l yX7_copyFrom wsX7_copyFrom rmX7_copyFrom X b0 [.ref (xa X (51*0+0)), .ref (xa X (51*(2+j)+0))] (pbt w f g c0 y o) (pbt w (y j) g c0 y o) := by
  have hM := k7_copyFrom l hX (k := 0) (k2 := 2+j) (by decide) (by omega) (by omega) (pbt w f g c0 y o) (f0 := f) (g0 := y j) rfl
  rw [pbt_y hj, ur_self, pbt_f, pbt_f] at hM
  exact hM
theorem bt_cpWhatIf (l : Launch) (hX : XO X b0) : cV l yX7_copyFrom wsX7_copyFrom rmX7_copyFrom X b0 [.ref (xa X (51*1+0)), .ref (xa X (51*0+0))] (pbt w f g c0 y o) (pbt w f f c0 y o) := by
  have hM := k7_copyFrom l hX (k := 1) (k2 := 0) (by decide) (by decide) (by decide) (pbt w f g c0 y o) (f0 := g) (g0 := f) rfl
  rw [pbt_f, pbt_g, pbt_g] at hM
  exact hM
end HIW2
