/-! refuse: what a call of the face throws -/
def exn (x : Int32) : String := if x = 1 then exA else if x = 2 then exB else exC
theorem HW.grown {X : bkX} {w : bkW} {H H1 : Heap} (h : HW X w H) (hq : ∀ q : Nat, q < H.size → H1[q]? = H[q]?) : HW X w H1 := fun k q hk => (h k q hk).kept (hq q.1 (h k q hk).lt)
abbrev xgD : List Cond := [Cond.declares (Bundle.initS "java/lang/RuntimeException"), Cond.declares (Bundle.initS "java/lang/Exception"), Cond.declares (Bundle.initS Bundle.tN)]
abbrev exN : List String := ["java/lang/RuntimeException", "java/lang/Exception"]
abbrev rmX8_refuse : Room := { frames := 6, cells := 1, slots := 6, locals := 82 }
set_option maxRecDepth 20000 in
theorem xg_A : ∀ w ∈ (vx_atS RX8 201 "java/lang/IndexOutOfBoundsException" exN).filter (fun w => !goodWord w), w ∈ Cond.castable "java/lang/IndexOutOfBoundsException" "java/lang/IndexOutOfBoundsException" :: xgD := by decide +kernel
set_option maxRecDepth 20000 in
theorem xo_A : ∀ w ∈ Cond.classLink RX8 197 "java/lang/IndexOutOfBoundsException" :: Cond.initialized "java/lang/IndexOutOfBoundsException" :: vx_atS RX8 201 "java/lang/IndexOutOfBoundsException" exN, vx_ot w = true := by decide +kernel
set_option maxRecDepth 20000 in
theorem xg_B : ∀ w ∈ (vx_atS RX8 208 "java/lang/IllegalArgumentException" exN).filter (fun w => !goodWord w), w ∈ Cond.castable "java/lang/IllegalArgumentException" "java/lang/IllegalArgumentException" :: xgD := by decide +kernel
set_option maxRecDepth 20000 in
theorem xo_B : ∀ w ∈ Cond.classLink RX8 204 "java/lang/IllegalArgumentException" :: Cond.initialized "java/lang/IllegalArgumentException" :: vx_atS RX8 208 "java/lang/IllegalArgumentException" exN, vx_ot w = true := by decide +kernel
set_option maxRecDepth 20000 in
theorem xg_C : ∀ w ∈ (vx_atS RX8 213 "java/lang/IllegalStateException" exN).filter (fun w => !goodWord w), w ∈ Cond.castable "java/lang/IllegalStateException" "java/lang/IllegalStateException" :: xgD := by decide +kernel
set_option maxRecDepth 20000 in
theorem xo_C : ∀ w ∈ Cond.classLink RX8 209 "java/lang/IllegalStateException" :: Cond.initialized "java/lang/IllegalStateException" :: vx_atS RX8 213 "java/lang/IllegalStateException" exN, vx_ot w = true := by decide +kernel
set_option maxHeartbeats 4000000 in
set_option maxRecDepth 100000 in
theorem k8_refuse (l : Launch) (hst : l.stackTraces = false) {X : bkX} {Y : bkY} {b0 : Nat} (x : Int32) (w : bkW) : vx_Met l yX8_refuse wsX8_refuse rmX8_refuse (va_Pc [.int x] (WS X Y b0 w)) (va_Qv (fun (_ : Unit) => ¬ (x = 1 ∨ x = 2 ∨ x = 3)) (fun _ t => WU X w t) (xF b0)) (vx_X (fun _ : Unit => x = 1 ∨ x = 2 ∨ x = 3) (fun E _ t => E = exn x ∧ WU X w t) (xF b0)) 1 6 (xF b0) := by
  refine vx_ofW (cc := cX8_refuse) (maxL := 1) (ret := none) (by decide) rfl ?_
  intro p e s m args below meth c s₁ B hml htab hv
  obtain ⟨ha, ⟨hP, hK⟩, hG⟩ := hv
  have hx := B.exec
  have hb := B.bytes
  have hr := B.returns
  have hts := atoms_spec (ws := wsX8_refuse) B.pre
  have hown : s.vm.findClass RX8 = some m.cls := findClass_of_methodNamed B.named
  have hlocks := B.notSynchronized
  have hS : va_S (xF b0) s.heap s.heap [] := va_S.rf
  have hl := lv_entry ([.int x]) (n := 1) (Nat.le_of_ble_eq_true rfl)
  refine W.eq ((congrArg (fun z => entryFrame m z 1) ha).trans (lg_entry_eq m _ 1)) ?_
  generalize (lg_sl ([.int x]) ++ List.replicate (1 - (lg_sl ([.int x])).length) Slot.unset).toArray = ls at hl ⊢
  have hl : lv_has ls 1 [(0, .int x)] := hl
  obtain ⟨-, -, ⟨k8, k9, k10⟩, -, -, gU, gN, ⟨⟨cA, cB, cC⟩, ⟨dA, dB, dC⟩, -⟩⟩ := id hG
  have hX9 : ∀ (E : String), E = exn x → (x = 1 ∨ x = 2 ∨ x = 3) → ∀ t : State, s.vm.Alike t.vm → s.heap.size ≤ t.heap.size → (∀ q : Nat, q < s.heap.size → t.heap[q]? = s.heap[q]?) → vx_X (fun _ : Unit => x = 1 ∨ x = 2 ∨ x = 3) (fun E _ t => E = exn x ∧ WU X w t) (xF b0) E s t := fun E hE hx3 t h1 h2 h3 => ⟨(), hx3, ⟨hE, hP.grown h3, va_K.moved h1 hK⟩, h2, fun q hq _ => h3 q hq⟩
  refine lv_iload_n hx hb dX8_refuse_0 rfl (lv_at hl 0 rfl) ?_
  by_cases h1 : x = 1
  · refine lv_tableIn (off := 27) (tgt := 28) hx hb dX8_refuse_1 (by rw [h1]; decide) (by rw [h1]; decide) (by rw [h1]; rfl) (by decide) ?_
    exact vx_throwS (names := exN) hx hb hst hown (by decide +kernel) (by decide +kernel) (hts (.classLink RX8 197 "java/lang/IndexOutOfBoundsException") (by decide +kernel)) (hts (.initialized "java/lang/IndexOutOfBoundsException") (by decide +kernel)) k8 (vx_hat (B := Cond.castable "java/lang/IndexOutOfBoundsException" "java/lang/IndexOutOfBoundsException" :: xgD) (fun w hw => hts w (List.mem_cons_of_mem _ (List.mem_append_left _ (List.mem_append_left _ (List.mem_append_right _ hw))))) xg_A (vx_c (cA.use rfl) (vx_c (dA.use rfl) (vx_c (dB.use rfl) (vx_c (dC.use rfl) vx_n))))) xo_A gU gN hS (by rw [hml]; exact hl.1) dX8_refuse_28 dX8_refuse_31 dX8_refuse_32 dX8_refuse_34 dX8_refuse_37 (fun z hz => (htab z hz).elim) (Nat.le_of_ble_eq_true rfl) (Nat.le_of_ble_eq_true rfl) (Nat.le_of_ble_eq_true rfl) (Nat.le_of_ble_eq_true rfl) hlocks (hX9 _ (by unfold exn; rw [if_pos h1]; rfl) (Or.inl h1)) hS.2.2 (Nat.le_of_ble_eq_true rfl) (Nat.le_of_ble_eq_true rfl)
  by_cases h2 : x = 2
  · refine lv_tableIn (off := 37) (tgt := 38) hx hb dX8_refuse_1 (by rw [h2]; decide) (by rw [h2]; decide) (by rw [h2]; rfl) (by decide) ?_
    exact vx_throwS (names := exN) hx hb hst hown (by decide +kernel) (by decide +kernel) (hts (.classLink RX8 204 "java/lang/IllegalArgumentException") (by decide +kernel)) (hts (.initialized "java/lang/IllegalArgumentException") (by decide +kernel)) k9 (vx_hat (B := Cond.castable "java/lang/IllegalArgumentException" "java/lang/IllegalArgumentException" :: xgD) (fun w hw => hts w (List.mem_cons_of_mem _ (List.mem_append_left _ (List.mem_append_right _ hw)))) xg_B (vx_c (cB.use rfl) (vx_c (dA.use rfl) (vx_c (dB.use rfl) (vx_c (dC.use rfl) vx_n))))) xo_B gU gN hS (by rw [hml]; exact hl.1) dX8_refuse_38 dX8_refuse_41 dX8_refuse_42 dX8_refuse_44 dX8_refuse_47 (fun z hz => (htab z hz).elim) (Nat.le_of_ble_eq_true rfl) (Nat.le_of_ble_eq_true rfl) (Nat.le_of_ble_eq_true rfl) (Nat.le_of_ble_eq_true rfl) hlocks (hX9 _ (by unfold exn; rw [if_neg h1, if_pos h2]; rfl) (Or.inr (Or.inl h2))) hS.2.2 (Nat.le_of_ble_eq_true rfl) (Nat.le_of_ble_eq_true rfl)
  by_cases h3 : x = 3
  · refine lv_tableIn (off := 47) (tgt := 48) hx hb dX8_refuse_1 (by rw [h3]; decide) (by rw [h3]; decide) (by rw [h3]; rfl) (by decide) ?_
    exact vx_throwS (names := exN) hx hb hst hown (by decide +kernel) (by decide +kernel) (hts (.classLink RX8 209 "java/lang/IllegalStateException") (by decide +kernel)) (hts (.initialized "java/lang/IllegalStateException") (by decide +kernel)) k10 (vx_hat (B := Cond.castable "java/lang/IllegalStateException" "java/lang/IllegalStateException" :: xgD) (fun w hw => hts w (List.mem_cons_of_mem _ (List.mem_append_right _ hw))) xg_C (vx_c (cC.use rfl) (vx_c (dA.use rfl) (vx_c (dB.use rfl) (vx_c (dC.use rfl) vx_n))))) xo_C gU gN hS (by rw [hml]; exact hl.1) dX8_refuse_48 dX8_refuse_51 dX8_refuse_52 dX8_refuse_54 dX8_refuse_57 (fun z hz => (htab z hz).elim) (Nat.le_of_ble_eq_true rfl) (Nat.le_of_ble_eq_true rfl) (Nat.le_of_ble_eq_true rfl) (Nat.le_of_ble_eq_true rfl) hlocks (hX9 _ (by unfold exn; rw [if_neg h1, if_neg h2]; rfl) (Or.inr (Or.inr h3))) hS.2.2 (Nat.le_of_ble_eq_true rfl) (Nat.le_of_ble_eq_true rfl)
  have hdf : x.toInt < 1 ∨ 3 < x.toInt := by
    have g1 := ne_i (z := 1) h1 (by decide)
    have g2 := ne_i (z := 2) h2 (by decide)
    have g3 := ne_i (z := 3) h3 (by decide)
    omega
  refine lv_tableOut (tgt := 58) hx hb dX8_refuse_1 hdf (by decide) ?_
  refine W.widen (k := 1) (n := 6) (Nat.le_of_ble_eq_true rfl) (Nat.le_of_ble_eq_true rfl) ?_
  refine vx_ret ?_
  exact W.vret hx hb hr (fun t ht hW => ⟨⟨(), rfl, (fun q => by rcases q with q | q | q; exact h1 q; exact h2 q; exact h3 q), by show HW X w t.heap; rw [ht]; exact hP, va_K.moved hW.alike hK⟩, hS.F ht⟩) hS.2.2 dX8_refuse_58 hlocks
def cX (l : Launch) (y : MethodName) (ws : List Cond) (rm : Room) (X : bkX) (Y : bkY) (b0 : Nat) (as : List Value) (w : bkW) (code r : Int32) (w' : bkW) : Prop := vx_Met l y ws rm (va_Pc as (WS X Y b0 w)) (va_Qi (fun r' (_ : Unit) => code = 0 ∧ r' = r) (fun _ t => WU X w' t) (xF b0)) (vx_X (fun _ : Unit => code ≠ 0) (fun E _ t => E = exn code ∧ WU X w' t) (xF b0)) 1 6 (xF b0)
section WREF
variable {p : Program} {l : Launch} {e : Env} {R : Room} {s : State} {m : MethodId} {args : Array Value} {below : List Frame} {meth : Method} {c : Code} {H : Heap} {locs : List Loc} {cells slots : Nat} {Q : State → Prop}
variable {pc : Nat} {ls : Array Slot} {rest st0 : List Value} {cc : ByteArray} {X : bkX} {Y : bkY} {w w' : bkW} {b0 : Nat} {Ts : List Cond} {own : String} {nL index : Nat} {x v r code : Int32}
theorem w_refuse (S : CallFix p m c cc nL s args Ts own) (hst : l.stackTraces = false) (hP : HW X w H) (hK : XK X s) (hG : SG Y b0 s) (hS : va_S (xF b0) s.heap H locs) (cw : CallB R s args own index yX8_refuse cX8_refuse 1 none wsX8_refuse rmX8_refuse 1 6 1 ∧ (Cond.static yX8_refuse).before args s = true) (hsz : ls.size = nL) (hrm : (rest.map fun v => v.category).sum ≤ 8) (hdg : decode cc pc = .ok (.invokestatic index, 3)) (hroom : cells + 1 ≤ R.cells ∧ slots + 6 ≤ R.slots)
    (kx : (x = 1 ∨ x = 2 ∨ x = 3) → ∀ (q9 : Addr) (ce : Cell) (H1 : Heap) (locs1 : List Loc), HW X w H1 → va_S (xF b0) s.heap H1 locs1 → H1[q9]? = some ce → ce.vm = .none → s.vm.findClass (exn x) = some ce.cls → vx_W p l e R s m args below meth c H1 locs1 (cells + 1) (slots + 6) Q (F0 m pc ls rest) q9)
    (kk : ¬ (x = 1 ∨ x = 2 ∨ x = 3) → ∀ (H1 : Heap) (locs1 : List Loc), HW X w H1 → va_S (xF b0) s.heap H1 locs1 → W p l e R s m args below meth c H1 locs1 (cells + 1) (slots + 6) Q (F0 m (pc + 3) ls rest)) : W p l e R s m args below meth c H locs cells slots Q (F0 m pc ls (.int x :: rest)) :=
  vx_callv (vx_runS (As := [.int x]) (rest := rest) S (k8_refuse l hst x w) cw ⟨w_blindS, w_preS hP hK hG hS⟩ rfl rfl hsz rfl (by simpa using hrm) hdg hroom) hS (fun _ _ h => h) (fun _ h => h) (fun _ _ h => h)
    (fun E ce q9 u t H1 locs1 ht hvm hpx hB _ _ hS1 hce hcv hcl => by
      obtain ⟨rfl, hB⟩ := hB
      exact kx hpx q9 ce H1 locs1 (by rw [← ht]; exact hB.1) hS1 hce hcv hcl)
    (fun u t H1 locs1 ht hvm hp hB _ _ hS1 => kk hp H1 locs1 (by rw [← ht]; exact hB.1) hS1)
theorem w_xout {q9 : Addr} {ce : Cell} (htab : ∀ z ∈ c.exceptionTable.toList, False) (hlocks : meth.locks = false) (hce : H[q9]? = some ce) (hcv : ce.vm = .none) (hcl : s.vm.findClass (exn x) = some ce.cls) (h3 : x = 1 ∨ x = 2 ∨ x = 3) (hP : HW X w H) (hK : XK X s) (hS : va_S (xF b0) s.heap H locs) : vx_W p l e R s m args below meth c H locs (0 + 1) (0 + 6) (vx_MQ below (va_Qi (fun r' (_ : Unit) => x = 0 ∧ r' = r) (fun _ t => WU X w t) (xF b0)) (vx_X (fun _ : Unit => x ≠ 0) (fun E _ t => E = exn x ∧ WU X w t) (xF b0)) args s 1 6 (xF b0)) (F0 m pc ls rest) q9 :=
  vx_out (fun z hz => (htab z hz).elim) hlocks hce hcv hcl (fun t ht hvm => ⟨(), (by rcases h3 with rfl | rfl | rfl <;> decide), ⟨rfl, by show HW X w t.heap; rw [ht]; exact hP, va_K.moved hvm hK⟩, hS.F ht⟩) hS.2.2 (Nat.le_of_ble_eq_true rfl) (Nat.le_of_ble_eq_true rfl)
theorem w_xiret {XC : String → State → State → Prop} (hexec : p.tables.exec = Jvm.exec) (hb : c.code = cc) (hr : meth.sig.returnType = some .int) (hlocks : meth.locks = false) (hP : HW X w H) (hK : XK X s) (hS : va_S (xF b0) s.heap H locs) (hdg : decode cc pc = .ok (.ireturn, 1)) (hc : code = 0) (hv : v = r) (hw : w = w') : W p l e R s m args below meth c H locs (0 + 1) (0 + 6) (vx_MQ below (va_Qi (fun r' (_ : Unit) => code = 0 ∧ r' = r) (fun _ t => WU X w' t) (xF b0)) XC args s 1 6 (xF b0)) (F0 m pc ls [.int v]) := by
  subst hv; subst hw
  exact vx_ret (W.iret hexec hb hr (fun t ht hW => ⟨⟨v, (), rfl, ⟨hc, rfl⟩, by show HW X w t.heap; rw [ht]; exact hP, va_K.moved hW.alike hK⟩, hS.F ht⟩) hS.2.2 hdg hlocks)
end WREF
