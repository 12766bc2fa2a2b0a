/-! the law's callers of the face: what is thrown is told by a number -/
theorem Met.ofWH {l : Launch} {y : MethodName} {ws ws' : List Cond} {rm : Room} {Pc : Array Value → State → Prop} {Qc : Array Value → State → Outcome → State → Prop} {mc ms : Nat} {free : Addr → Prop} {cc : ByteArray} {maxL : Nat} {ret : Option FieldType} {hh : List (Nat × Nat × Nat × Nat)}
    (hy : plainName y.cls = true) (hw : ws = Cond.codeWith y cc maxL ret hh :: ws')
    (body : ∀ p e s m args below meth c s₁, BodyLoose p l y (headSpec ws rm) cc maxL ret e s m args below meth c s₁ → c.maxLocals = maxL → Pc args s →
      W p l e (headSpec ws rm).room s m args below meth c s.heap [] 0 0 (MQ below Qc args s mc ms free) (entryFrame m args maxL)) : Met l y ws rm Pc Qc mc ms free := by
  refine MetFree.of_bodyS (code := cc) (maxLocals := maxL) (ret := ret) hy ?_ ?_
  · intro args s m h hn
    obtain ⟨m9, meth, c, hn9, h1, h2, h3, h4, -, h5, h6, -⟩ := Cond.codeWith_spec (atoms_spec (ws := ws) h _ (by rw [hw]; exact List.mem_cons_self))
    cases hn.symm.trans hn9
    exact ⟨meth, c, h1, h2, h3, h4, h5, h6⟩
  · intro p e s m args below meth c s₁ B hml hP _
    have hh0 : s₁.heap = s.heap := by rw [B.state]; rfl
    obtain ⟨t, a1, o, b1, b2, b3⟩ := body p e s m args below meth c s₁ B hml hP s₁ hh0 (Stand.of_body B)
    exact ⟨t, o, a1, b1, b2, ⟨b3.1, b3.2⟩⟩
theorem pbt_z {w : bkW} {f g c : bkA} {y : Nat → bkA} {o : Nat → Int32} {z : Nat → Int64} : (pbt (ul w 1 z) f g c y o).2 1 = z := by
  show ur w.2 1 z 1 = z
  exact ur_s
theorem pbt_out {w : bkW} {f g c : bkA} {y : Nat → bkA} {o : Nat → Int32} {z z1 : Nat → Int64} : ul (pbt (ul w 1 z) f g c y o) 1 z1 = pbt (ul w 1 z1) f g c y o := by
  unfold ul pbt
  refine Prod.ext rfl (funext fun a => ?_)
  dsimp only
  by_cases h : a = 1
  · subst h; rw [ur_s, ur_s]
  · rw [ur_n h, ur_n h, ur_n h]
abbrev rmL_addKind : Room := { frames := 8, cells := 1, slots := 6, locals := 170 }
set_option maxRecDepth 20000 in
theorem iL_addKind_tab : Cond.codeWith yL_addKind cL_addKind 8 (some .int) [(0, 16, 19, 13), (0, 16, 23, 15)] ∈ wsL_addKind := List.mem_cons_self
set_option maxHeartbeats 4000000 in
set_option maxRecDepth 100000 in
theorem kL_addKind (l : Launch) (hst : l.stackTraces = false) {X : bkX} {Y : bkY} {b0 : Nat} (hX : XO X b0) (w : bkW) {f0 : bkA} {g0 : bkA} {c0 : bkA} {y0 : Nat → bkA} {o0 : Nat → Int32} {a1 : Int32} {a2 : Int32} {a3 : Int32} {a4 : Int32} {a5 : Int32} {code9 res9 : Int32} {f9 : bkA} {y9 : Nat → bkA} {o9 : Nat → Int32} {z : Nat → Int64} (hf : m8_addKind f0 y0 o0 a1 a2 a3 a4 a5 = some (code9, res9, f9, y9, o9)) (hcd : code9 = 0 ∨ code9 = 2 ∨ code9 = 3) : Met l yL_addKind wsL_addKind rmL_addKind (va_Pc [.ref (xa X 306), .int a1, .int a2, .int a3, .int a4, .int a5, .ref (xa X 323)] (WS X Y b0 (pbt (ul w 1 z) f0 g0 c0 y0 o0))) (va_Qi (fun r' (_ : Unit) => r' = (if code9 = 0 then (0 : Int32) else if code9 = 2 then 1 else 2)) (fun _ t => WU X (pbt (ul w 1 (if code9 = 0 then vp_updL z 0 res9.toInt64 else z)) f9 g0 c0 y9 o9) t) (xF b0)) 1 6 (xF b0) := by
  refine Met.ofWH (cc := cL_addKind) (maxL := 8) (ret := some .int) (hh := [(0, 16, 19, 13), (0, 16, 23, 15)]) (by decide) rfl ?_
  intro p e s m args below meth c s₁ B hml hv
  obtain ⟨ha, ⟨hP, hK⟩, hG⟩ := hv
  have hx := B.exec
  have hb := B.bytes
  have hr := B.returns
  have hts := atoms_spec (ws := wsL_addKind) B.pre
  have htab := vx_table (x := yL_addKind) B (hts _ iL_addKind_tab)
  have hown : s.vm.findClass RL = some m.cls := findClass_of_methodNamed B.named
  have hlocks := B.notSynchronized
  obtain ⟨R, hR⟩ : ∃ R, R = (headSpec wsL_addKind rmL_addKind).room := ⟨_, rfl⟩
  rw [← hR]
  have hR1 : R.frames = 8 := by rw [hR]; rfl
  have hR2 : R.locals = 170 := by rw [hR]; rfl
  have hR3 : R.cells = 1 := by rw [hR]; rfl
  have hR4 : R.slots = 6 := by rw [hR]; rfl
  have hS : va_S (xF b0) s.heap s.heap [] := va_S.rf
  have hl := lv_entry ([.ref (xa X 306), .int a1, .int a2, .int a3, .int a4, .int a5, .ref (xa X 323)]) (n := 8) (Nat.le_of_ble_eq_true rfl)
  refine W.eq ((congrArg (fun z => entryFrame m z 8) ha).trans (lg_entry_eq m _ 8)) ?_
  generalize (lg_sl ([.ref (xa X 306), .int a1, .int a2, .int a3, .int a4, .int a5, .ref (xa X 323)]) ++ List.replicate (8 - (lg_sl ([.ref (xa X 306), .int a1, .int a2, .int a3, .int a4, .int a5, .ref (xa X 323)])).length) Slot.unset).toArray = ls at hl ⊢
  have hl : lv_has ls 8 [(0, .ref (xa X 306)), (1, .int a1), (2, .int a2), (3, .int a3), (4, .int a4), (5, .int a5), (6, .ref (xa X 323))] := hl
  obtain ⟨-, -, -, -, -, -, -, ⟨⟨cA, cB, cC⟩, -, n1, n2, n3, n4, n5, n6⟩⟩ := id hG
  refine lv_aload hx hb dL_addKind_0 (lv_at hl 6 rfl) ?_
  refine lv_iconst (v := 0) hx hb dL_addKind_2 (by decide) ?_
  refine lv_aload_n hx hb dL_addKind_3 rfl (lv_at hl 0 rfl) ?_
  refine lv_iload_n hx hb dL_addKind_4 rfl (lv_at hl 1 rfl) ?_
  refine lv_iload_n hx hb dL_addKind_5 rfl (lv_at hl 2 rfl) ?_
  refine lv_iload_n hx hb dL_addKind_6 rfl (lv_at hl 3 rfl) ?_
  refine lv_iload hx hb dL_addKind_7 (lv_at hl 4 rfl) ?_
  refine lv_iload hx hb dL_addKind_9 (lv_at hl 5 rfl) ?_
  refine vx_calli (vx_runV (As := [.int a1, .int a2, .int a3, .int a4, .int a5]) (rest := [.int 0, .ref (xa X 323)]) ⟨hx, hb, hml, hown, hts⟩ (k8_addKind l hst (Y := Y) hX (ul w 1 z) hf) (cwV 5 hts gL_addKind_X8_addKind rfl rfl rfl (by decide +kernel) ⟨by rw [hR1]; exact Nat.le_of_ble_eq_true rfl, by rw [hR2]; exact Nat.le_of_ble_eq_true rfl⟩) ⟨w_blindS, w_recv hP hK (by decide) emb_bt rfl, w_preS hP hK hG hS⟩ rfl rfl hl.1 rfl (Nat.le_of_ble_eq_true rfl) dL_addKind_11 ⟨by rw [hR3]; exact Nat.le_of_ble_eq_true rfl, by rw [hR4]; exact Nat.le_of_ble_eq_true rfl⟩) hS (fun _ _ h => h) (fun _ h => h) (fun _ _ h => h) (fun E ce q9 u t H1 locs1 ht hvm hpx hB _ _ hS1 hce hcv hcl => ?_) (fun r u t H1 locs1 ht hvm hp hB _ _ hS1 => ?_)
  · obtain ⟨rfl, hB⟩ := hB
    have hP1 : HW X (pbt (ul w 1 z) f9 g0 c0 y9 o9) H1 := by rw [← ht]; exact hB.1
    rcases hcd with rfl | rfl | rfl
    · exact absurd rfl hpx
    · refine vx_catch (E := exn 2) (name := "java/lang/IllegalArgumentException") hown [] ⟨0, 16, 19, 13⟩ [⟨0, 16, 23, 15⟩] (by rw [htab]; rfl) (fun z hz => nomatch hz) (by decide) (by decide) (hts (.classLink RL 13 "java/lang/IllegalArgumentException") (by decide +kernel)) (cB.use rfl) hce hcv hcl ?_
      refine lv_astore (lv' := [(7, .ref q9), (0, .ref (xa X 306)), (1, .int a1), (2, .int a2), (3, .int a3), (4, .int a4), (5, .int a5), (6, .ref (xa X 323))]) hx hb dL_addKind_19 hl (by decide) rfl (fun ls hl => ?_)
      refine lv_iconst (v := 1) hx hb dL_addKind_21 (by decide) ?_
      exact W.iret hx hb hr (fun t ht hW => ⟨⟨_, (), rfl, rfl, by show HW X _ t.heap; rw [ht]; exact hP1, va_K.moved hW.alike hK⟩, hS1.F ht⟩) hS1.2.2 dL_addKind_22 hlocks
    · refine vx_catch (E := exn 3) (name := "java/lang/IllegalStateException") hown [⟨0, 16, 19, 13⟩] ⟨0, 16, 23, 15⟩ [] (by rw [htab]; rfl) (fun z hz => by
        simp only [List.mem_cons, List.not_mem_nil, or_false] at hz
        subst hz
        exact Or.inr ⟨Nat.ne_of_gt (Nat.le_of_ble_eq_true rfl), "java/lang/IllegalArgumentException", hts (.classLink RL 13 "java/lang/IllegalArgumentException") (by decide +kernel), n3⟩) (by decide) (by decide) (hts (.classLink RL 15 "java/lang/IllegalStateException") (by decide +kernel)) (cC.use rfl) hce hcv hcl ?_
      refine lv_astore (lv' := [(7, .ref q9), (0, .ref (xa X 306)), (1, .int a1), (2, .int a2), (3, .int a3), (4, .int a4), (5, .int a5), (6, .ref (xa X 323))]) hx hb dL_addKind_23 hl (by decide) rfl (fun ls hl => ?_)
      refine lv_iconst (v := 2) hx hb dL_addKind_25 (by decide) ?_
      exact W.iret hx hb hr (fun t ht hW => ⟨⟨_, (), rfl, rfl, by show HW X _ t.heap; rw [ht]; exact hP1, va_K.moved hW.alike hK⟩, hS1.F ht⟩) hS1.2.2 dL_addKind_26 hlocks
  · obtain ⟨hc0, hrr⟩ := hp
    subst hc0
    subst hrr
    have hP1 : HW X (pbt (ul w 1 z) f9 g0 c0 y9 o9) H1 := by rw [← ht]; exact hB.1
    refine lv_i2l hx hb dL_addKind_14 rfl ?_
    refine ar_last (gl := z) hx hb hX AR_out pbt_z (fun z1 => pbt (ul w 1 z1) f9 g0 c0 y9 o9) (fun z1 => pbt_out) hP1 hK hS1 (vp_in_nI (n := 0) (by decide) (by decide)) dL_addKind_15 (fun z1 ez1 H locs hP hS => ?_)
    refine lv_goto (tgt := 27) hx hb dL_addKind_16 (by decide) ?_
    refine lv_iconst (v := 0) hx hb dL_addKind_27 (by decide) ?_
    rw [ez1] at hP
    exact W.iret hx hb hr (fun t ht hW => ⟨⟨_, (), rfl, rfl, by show HW X _ t.heap; rw [ht]; exact hP, va_K.moved hW.alike hK⟩, hS.F ht⟩) hS.2.2 dL_addKind_28 hlocks
abbrev rmL_addHouse : Room := { frames := 8, cells := 1, slots := 6, locals := 165 }
set_option maxRecDepth 20000 in
theorem iL_addHouse_tab : Cond.codeWith yL_addHouse cL_addHouse 3 (some .int) [(0, 8, 11, 15)] ∈ wsL_addHouse := List.mem_cons_self
set_option maxHeartbeats 4000000 in
set_option maxRecDepth 100000 in
theorem kL_addHouse (l : Launch) (hst : l.stackTraces = false) {X : bkX} {Y : bkY} {b0 : Nat} (hX : XO X b0) (w : bkW) {f0 : bkA} {g0 : bkA} {c0 : bkA} {y0 : Nat → bkA} {o0 : Nat → Int32} {code9 res9 : Int32} {f9 : bkA} {y9 : Nat → bkA} {o9 : Nat → Int32} {z : Nat → Int64} (hf : m8_addHouse f0 y0 o0 = some (code9, res9, f9, y9, o9)) (hcd : code9 = 0 ∨ code9 = 3) : Met l yL_addHouse wsL_addHouse rmL_addHouse (va_Pc [.ref (xa X 306), .ref (xa X 323)] (WS X Y b0 (pbt (ul w 1 z) f0 g0 c0 y0 o0))) (va_Qi (fun r' (_ : Unit) => r' = (if code9 = 0 then (0 : Int32) else 1)) (fun _ t => WU X (pbt (ul w 1 (if code9 = 0 then vp_updL z 0 res9.toInt64 else z)) f9 g0 c0 y9 o9) t) (xF b0)) 1 6 (xF b0) := by
  refine Met.ofWH (cc := cL_addHouse) (maxL := 3) (ret := some .int) (hh := [(0, 8, 11, 15)]) (by decide) rfl ?_
  intro p e s m args below meth c s₁ B hml hv
  obtain ⟨ha, ⟨hP, hK⟩, hG⟩ := hv
  have hx := B.exec
  have hb := B.bytes
  have hr := B.returns
  have hts := atoms_spec (ws := wsL_addHouse) B.pre
  have htab := vx_table (x := yL_addHouse) B (hts _ iL_addHouse_tab)
  have hown : s.vm.findClass RL = some m.cls := findClass_of_methodNamed B.named
  have hlocks := B.notSynchronized
  obtain ⟨R, hR⟩ : ∃ R, R = (headSpec wsL_addHouse rmL_addHouse).room := ⟨_, rfl⟩
  rw [← hR]
  have hR1 : R.frames = 8 := by rw [hR]; rfl
  have hR2 : R.locals = 165 := by rw [hR]; rfl
  have hR3 : R.cells = 1 := by rw [hR]; rfl
  have hR4 : R.slots = 6 := by rw [hR]; rfl
  have hS : va_S (xF b0) s.heap s.heap [] := va_S.rf
  have hl := lv_entry ([.ref (xa X 306), .ref (xa X 323)]) (n := 3) (Nat.le_of_ble_eq_true rfl)
  refine W.eq ((congrArg (fun z => entryFrame m z 3) ha).trans (lg_entry_eq m _ 3)) ?_
  generalize (lg_sl ([.ref (xa X 306), .ref (xa X 323)]) ++ List.replicate (3 - (lg_sl ([.ref (xa X 306), .ref (xa X 323)])).length) Slot.unset).toArray = ls at hl ⊢
  have hl : lv_has ls 3 [(0, .ref (xa X 306)), (1, .ref (xa X 323))] := hl
  obtain ⟨-, -, -, -, -, -, -, ⟨⟨cA, cB, cC⟩, -, n1, n2, n3, n4, n5, n6⟩⟩ := id hG
  refine lv_aload_n hx hb dL_addHouse_0 rfl (lv_at hl 1 rfl) ?_
  refine lv_iconst (v := 0) hx hb dL_addHouse_1 (by decide) ?_
  refine lv_aload_n hx hb dL_addHouse_2 rfl (lv_at hl 0 rfl) ?_
  refine vx_calli (vx_runV (As := []) (rest := [.int 0, .ref (xa X 323)]) ⟨hx, hb, hml, hown, hts⟩ (k8_addHouse l hst (Y := Y) hX (ul w 1 z) hf) (cwV 0 hts gL_addHouse_X8_addHouse rfl rfl rfl (by decide +kernel) ⟨by rw [hR1]; exact Nat.le_of_ble_eq_true rfl, by rw [hR2]; exact Nat.le_of_ble_eq_true rfl⟩) ⟨w_blindS, w_recv hP hK (by decide) emb_bt rfl, w_preS hP hK hG hS⟩ rfl rfl hl.1 rfl (Nat.le_of_ble_eq_true rfl) dL_addHouse_3 ⟨by rw [hR3]; exact Nat.le_of_ble_eq_true rfl, by rw [hR4]; exact Nat.le_of_ble_eq_true rfl⟩) hS (fun _ _ h => h) (fun _ h => h) (fun _ _ h => h) (fun E ce q9 u t H1 locs1 ht hvm hpx hB _ _ hS1 hce hcv hcl => ?_) (fun r u t H1 locs1 ht hvm hp hB _ _ hS1 => ?_)
  · obtain ⟨rfl, hB⟩ := hB
    have hP1 : HW X (pbt (ul w 1 z) f9 g0 c0 y9 o9) H1 := by rw [← ht]; exact hB.1
    rcases hcd with rfl | rfl
    · exact absurd rfl hpx
    · refine vx_catch (E := exn 3) (name := "java/lang/IllegalStateException") hown [] ⟨0, 8, 11, 15⟩ [] (by rw [htab]; rfl) (fun z hz => nomatch hz) (by decide) (by decide) (hts (.classLink RL 15 "java/lang/IllegalStateException") (by decide +kernel)) (cC.use rfl) hce hcv hcl ?_
      refine lv_astore_n (lv' := [(2, .ref q9), (0, .ref (xa X 306)), (1, .ref (xa X 323))]) hx hb dL_addHouse_11 rfl hl (by decide) rfl (fun ls hl => ?_)
      refine lv_iconst (v := 1) hx hb dL_addHouse_12 (by decide) ?_
      exact W.iret hx hb hr (fun t ht hW => ⟨⟨_, (), rfl, rfl, by show HW X _ t.heap; rw [ht]; exact hP1, va_K.moved hW.alike hK⟩, hS1.F ht⟩) hS1.2.2 dL_addHouse_13 hlocks
  · obtain ⟨hc0, hrr⟩ := hp
    subst hc0
    subst hrr
    have hP1 : HW X (pbt (ul w 1 z) f9 g0 c0 y9 o9) H1 := by rw [← ht]; exact hB.1
    refine lv_i2l hx hb dL_addHouse_6 rfl ?_
    refine ar_last (gl := z) hx hb hX AR_out pbt_z (fun z1 => pbt (ul w 1 z1) f9 g0 c0 y9 o9) (fun z1 => pbt_out) hP1 hK hS1 (vp_in_nI (n := 0) (by decide) (by decide)) dL_addHouse_7 (fun z1 ez1 H locs hP hS => ?_)
    refine lv_goto (tgt := 14) hx hb dL_addHouse_8 (by decide) ?_
    refine lv_iconst (v := 0) hx hb dL_addHouse_14 (by decide) ?_
    rw [ez1] at hP
    exact W.iret hx hb hr (fun t ht hW => ⟨⟨_, (), rfl, rfl, by show HW X _ t.heap; rw [ht]; exact hP, va_K.moved hW.alike hK⟩, hS.F ht⟩) hS.2.2 dL_addHouse_15 hlocks
abbrev rmL_addDough : Room := { frames := 8, cells := 1, slots := 6, locals := 168 }
set_option maxRecDepth 20000 in
theorem iL_addDough_tab : Cond.codeWith yL_addDough cL_addDough 6 (some .int) [(0, 12, 15, 25), (0, 12, 19, 13), (0, 12, 23, 15)] ∈ wsL_addDough := List.mem_cons_self
set_option maxHeartbeats 4000000 in
set_option maxRecDepth 100000 in
theorem kL_addDough (l : Launch) (hst : l.stackTraces = false) {X : bkX} {Y : bkY} {b0 : Nat} (hX : XO X b0) (w : bkW) {f0 : bkA} {g0 : bkA} {c0 : bkA} {y0 : Nat → bkA} {o0 : Nat → Int32} {a1 : Int32} {a2 : Int32} {a3 : Int32} {code9 res9 : Int32} {f9 : bkA} {y9 : Nat → bkA} {o9 : Nat → Int32} {z : Nat → Int64} (hf : m8_addDough f0 y0 o0 a1 a2 a3 = some (code9, res9, f9, y9, o9)) (hcd : code9 = 0 ∨ code9 = 1 ∨ code9 = 2 ∨ code9 = 3) : Met l yL_addDough wsL_addDough rmL_addDough (va_Pc [.ref (xa X 306), .int a1, .int a2, .int a3, .ref (xa X 323)] (WS X Y b0 (pbt (ul w 1 z) f0 g0 c0 y0 o0))) (va_Qi (fun r' (_ : Unit) => r' = (if code9 = 0 then (0 : Int32) else if code9 = 1 then 1 else if code9 = 2 then 2 else 3)) (fun _ t => WU X (pbt (ul w 1 (if code9 = 0 then vp_updL z 0 res9.toInt64 else z)) f9 g0 c0 y9 o9) t) (xF b0)) 1 6 (xF b0) := by
  refine Met.ofWH (cc := cL_addDough) (maxL := 6) (ret := some .int) (hh := [(0, 12, 15, 25), (0, 12, 19, 13), (0, 12, 23, 15)]) (by decide) rfl ?_
  intro p e s m args below meth c s₁ B hml hv
  obtain ⟨ha, ⟨hP, hK⟩, hG⟩ := hv
  have hx := B.exec
  have hb := B.bytes
  have hr := B.returns
  have hts := atoms_spec (ws := wsL_addDough) B.pre
  have htab := vx_table (x := yL_addDough) B (hts _ iL_addDough_tab)
  have hown : s.vm.findClass RL = some m.cls := findClass_of_methodNamed B.named
  have hlocks := B.notSynchronized
  obtain ⟨R, hR⟩ : ∃ R, R = (headSpec wsL_addDough rmL_addDough).room := ⟨_, rfl⟩
  rw [← hR]
  have hR1 : R.frames = 8 := by rw [hR]; rfl
  have hR2 : R.locals = 168 := by rw [hR]; rfl
  have hR3 : R.cells = 1 := by rw [hR]; rfl
  have hR4 : R.slots = 6 := by rw [hR]; rfl
  have hS : va_S (xF b0) s.heap s.heap [] := va_S.rf
  have hl := lv_entry ([.ref (xa X 306), .int a1, .int a2, .int a3, .ref (xa X 323)]) (n := 6) (Nat.le_of_ble_eq_true rfl)
  refine W.eq ((congrArg (fun z => entryFrame m z 6) ha).trans (lg_entry_eq m _ 6)) ?_
  generalize (lg_sl ([.ref (xa X 306), .int a1, .int a2, .int a3, .ref (xa X 323)]) ++ List.replicate (6 - (lg_sl ([.ref (xa X 306), .int a1, .int a2, .int a3, .ref (xa X 323)])).length) Slot.unset).toArray = ls at hl ⊢
  have hl : lv_has ls 6 [(0, .ref (xa X 306)), (1, .int a1), (2, .int a2), (3, .int a3), (4, .ref (xa X 323))] := hl
  obtain ⟨-, -, -, -, -, -, -, ⟨⟨cA, cB, cC⟩, -, n1, n2, n3, n4, n5, n6⟩⟩ := id hG
  refine lv_aload hx hb dL_addDough_0 (lv_at hl 4 rfl) ?_
  refine lv_iconst (v := 0) hx hb dL_addDough_2 (by decide) ?_
  refine lv_aload_n hx hb dL_addDough_3 rfl (lv_at hl 0 rfl) ?_
  refine lv_iload_n hx hb dL_addDough_4 rfl (lv_at hl 1 rfl) ?_
  refine lv_iload_n hx hb dL_addDough_5 rfl (lv_at hl 2 rfl) ?_
  refine lv_iload_n hx hb dL_addDough_6 rfl (lv_at hl 3 rfl) ?_
  refine vx_calli (vx_runV (As := [.int a1, .int a2, .int a3]) (rest := [.int 0, .ref (xa X 323)]) ⟨hx, hb, hml, hown, hts⟩ (k8_addDough l hst (Y := Y) hX (ul w 1 z) hf) (cwV 3 hts gL_addDough_X8_addDough rfl rfl rfl (by decide +kernel) ⟨by rw [hR1]; exact Nat.le_of_ble_eq_true rfl, by rw [hR2]; exact Nat.le_of_ble_eq_true rfl⟩) ⟨w_blindS, w_recv hP hK (by decide) emb_bt rfl, w_preS hP hK hG hS⟩ rfl rfl hl.1 rfl (Nat.le_of_ble_eq_true rfl) dL_addDough_7 ⟨by rw [hR3]; exact Nat.le_of_ble_eq_true rfl, by rw [hR4]; exact Nat.le_of_ble_eq_true rfl⟩) hS (fun _ _ h => h) (fun _ h => h) (fun _ _ h => h) (fun E ce q9 u t H1 locs1 ht hvm hpx hB _ _ hS1 hce hcv hcl => ?_) (fun r u t H1 locs1 ht hvm hp hB _ _ hS1 => ?_)
  · obtain ⟨rfl, hB⟩ := hB
    have hP1 : HW X (pbt (ul w 1 z) f9 g0 c0 y9 o9) H1 := by rw [← ht]; exact hB.1
    rcases hcd with rfl | rfl | rfl | rfl
    · exact absurd rfl hpx
    · refine vx_catch (E := exn 1) (name := "java/lang/IndexOutOfBoundsException") hown [] ⟨0, 12, 15, 25⟩ [⟨0, 12, 19, 13⟩, ⟨0, 12, 23, 15⟩] (by rw [htab]; rfl) (fun z hz => nomatch hz) (by decide) (by decide) (hts (.classLink RL 25 "java/lang/IndexOutOfBoundsException") (by decide +kernel)) (cA.use rfl) hce hcv hcl ?_
      refine lv_astore (lv' := [(5, .ref q9), (0, .ref (xa X 306)), (1, .int a1), (2, .int a2), (3, .int a3), (4, .ref (xa X 323))]) hx hb dL_addDough_15 hl (by decide) rfl (fun ls hl => ?_)
      refine lv_iconst (v := 1) hx hb dL_addDough_17 (by decide) ?_
      exact W.iret hx hb hr (fun t ht hW => ⟨⟨_, (), rfl, rfl, by show HW X _ t.heap; rw [ht]; exact hP1, va_K.moved hW.alike hK⟩, hS1.F ht⟩) hS1.2.2 dL_addDough_18 hlocks
    · refine vx_catch (E := exn 2) (name := "java/lang/IllegalArgumentException") hown [⟨0, 12, 15, 25⟩] ⟨0, 12, 19, 13⟩ [⟨0, 12, 23, 15⟩] (by rw [htab]; rfl) (fun z hz => by
        simp only [List.mem_cons, List.not_mem_nil, or_false] at hz
        subst hz
        exact Or.inr ⟨Nat.ne_of_gt (Nat.le_of_ble_eq_true rfl), "java/lang/IndexOutOfBoundsException", hts (.classLink RL 25 "java/lang/IndexOutOfBoundsException") (by decide +kernel), n1⟩) (by decide) (by decide) (hts (.classLink RL 13 "java/lang/IllegalArgumentException") (by decide +kernel)) (cB.use rfl) hce hcv hcl ?_
      refine lv_astore (lv' := [(5, .ref q9), (0, .ref (xa X 306)), (1, .int a1), (2, .int a2), (3, .int a3), (4, .ref (xa X 323))]) hx hb dL_addDough_19 hl (by decide) rfl (fun ls hl => ?_)
      refine lv_iconst (v := 2) hx hb dL_addDough_21 (by decide) ?_
      exact W.iret hx hb hr (fun t ht hW => ⟨⟨_, (), rfl, rfl, by show HW X _ t.heap; rw [ht]; exact hP1, va_K.moved hW.alike hK⟩, hS1.F ht⟩) hS1.2.2 dL_addDough_22 hlocks
    · refine vx_catch (E := exn 3) (name := "java/lang/IllegalStateException") hown [⟨0, 12, 15, 25⟩, ⟨0, 12, 19, 13⟩] ⟨0, 12, 23, 15⟩ [] (by rw [htab]; rfl) (fun z hz => by
        simp only [List.mem_cons, List.not_mem_nil, or_false] at hz
        rcases hz with rfl | rfl
        · exact Or.inr ⟨Nat.ne_of_gt (Nat.le_of_ble_eq_true rfl), "java/lang/IndexOutOfBoundsException", hts (.classLink RL 25 "java/lang/IndexOutOfBoundsException") (by decide +kernel), n2⟩
        · exact Or.inr ⟨Nat.ne_of_gt (Nat.le_of_ble_eq_true rfl), "java/lang/IllegalArgumentException", hts (.classLink RL 13 "java/lang/IllegalArgumentException") (by decide +kernel), n3⟩) (by decide) (by decide) (hts (.classLink RL 15 "java/lang/IllegalStateException") (by decide +kernel)) (cC.use rfl) hce hcv hcl ?_
      refine lv_astore (lv' := [(5, .ref q9), (0, .ref (xa X 306)), (1, .int a1), (2, .int a2), (3, .int a3), (4, .ref (xa X 323))]) hx hb dL_addDough_23 hl (by decide) rfl (fun ls hl => ?_)
      refine lv_iconst (v := 3) hx hb dL_addDough_25 (by decide) ?_
      exact W.iret hx hb hr (fun t ht hW => ⟨⟨_, (), rfl, rfl, by show HW X _ t.heap; rw [ht]; exact hP1, va_K.moved hW.alike hK⟩, hS1.F ht⟩) hS1.2.2 dL_addDough_26 hlocks
  · obtain ⟨hc0, hrr⟩ := hp
    subst hc0
    subst hrr
    have hP1 : HW X (pbt (ul w 1 z) f9 g0 c0 y9 o9) H1 := by rw [← ht]; exact hB.1
    refine lv_i2l hx hb dL_addDough_10 rfl ?_
    refine ar_last (gl := z) hx hb hX AR_out pbt_z (fun z1 => pbt (ul w 1 z1) f9 g0 c0 y9 o9) (fun z1 => pbt_out) hP1 hK hS1 (vp_in_nI (n := 0) (by decide) (by decide)) dL_addDough_11 (fun z1 ez1 H locs hP hS => ?_)
    refine lv_goto (tgt := 27) hx hb dL_addDough_12 (by decide) ?_
    refine lv_iconst (v := 0) hx hb dL_addDough_27 (by decide) ?_
    rw [ez1] at hP
    exact W.iret hx hb hr (fun t ht hW => ⟨⟨_, (), rfl, rfl, by show HW X _ t.heap; rw [ht]; exact hP, va_K.moved hW.alike hK⟩, hS.F ht⟩) hS.2.2 dL_addDough_28 hlocks
abbrev rmL_swap : Room := { frames := 8, cells := 1, slots := 6, locals := 167 }
set_option maxRecDepth 20000 in
theorem iL_swap_tab : Cond.codeWith yL_swap cL_swap 5 (some .int) [(0, 10, 13, 25), (0, 10, 17, 13), (0, 10, 21, 15)] ∈ wsL_swap := List.mem_cons_self
set_option maxHeartbeats 4000000 in
set_option maxRecDepth 100000 in
theorem kL_swap (l : Launch) (hst : l.stackTraces = false) {X : bkX} {Y : bkY} {b0 : Nat} (hX : XO X b0) (w : bkW) {N : Nat} {f0 : bkA} {g0 : bkA} {c0 : bkA} {y0 : Nat → bkA} {o0 : Nat → Int32} {a1 : Int32} {a2 : Int32} {code9 res9 : Int32} {f9 : bkA} {y9 : Nat → bkA} {o9 : Nat → Int32} {z : Nat → Int64} (hf : m8_swap N f0 y0 o0 a1 a2 = some (code9, res9, f9, y9, o9)) (hcd : code9 = 0 ∨ code9 = 1 ∨ code9 = 2 ∨ code9 = 3) : Met l yL_swap wsL_swap rmL_swap (va_Pc [.ref (xa X 306), .int a1, .int a2, .ref (xa X 323)] (WS X Y b0 (pbt (ul w 1 z) f0 g0 c0 y0 o0))) (va_Qi (fun r' (_ : Unit) => r' = (if code9 = 0 then (0 : Int32) else if code9 = 1 then 1 else if code9 = 2 then 2 else 3)) (fun _ t => WU X (pbt (ul w 1 (if code9 = 0 then vp_updL z 0 res9.toInt64 else z)) f9 g0 c0 y9 o9) t) (xF b0)) 1 6 (xF b0) := by
  refine Met.ofWH (cc := cL_swap) (maxL := 5) (ret := some .int) (hh := [(0, 10, 13, 25), (0, 10, 17, 13), (0, 10, 21, 15)]) (by decide) rfl ?_
  intro p e s m args below meth c s₁ B hml hv
  obtain ⟨ha, ⟨hP, hK⟩, hG⟩ := hv
  have hx := B.exec
  have hb := B.bytes
  have hr := B.returns
  have hts := atoms_spec (ws := wsL_swap) B.pre
  have htab := vx_table (x := yL_swap) B (hts _ iL_swap_tab)
  have hown : s.vm.findClass RL = some m.cls := findClass_of_methodNamed B.named
  have hlocks := B.notSynchronized
  obtain ⟨R, hR⟩ : ∃ R, R = (headSpec wsL_swap rmL_swap).room := ⟨_, rfl⟩
  rw [← hR]
  have hR1 : R.frames = 8 := by rw [hR]; rfl
  have hR2 : R.locals = 167 := by rw [hR]; rfl
  have hR3 : R.cells = 1 := by rw [hR]; rfl
  have hR4 : R.slots = 6 := by rw [hR]; rfl
  have hS : va_S (xF b0) s.heap s.heap [] := va_S.rf
  have hl := lv_entry ([.ref (xa X 306), .int a1, .int a2, .ref (xa X 323)]) (n := 5) (Nat.le_of_ble_eq_true rfl)
  refine W.eq ((congrArg (fun z => entryFrame m z 5) ha).trans (lg_entry_eq m _ 5)) ?_
  generalize (lg_sl ([.ref (xa X 306), .int a1, .int a2, .ref (xa X 323)]) ++ List.replicate (5 - (lg_sl ([.ref (xa X 306), .int a1, .int a2, .ref (xa X 323)])).length) Slot.unset).toArray = ls at hl ⊢
  have hl : lv_has ls 5 [(0, .ref (xa X 306)), (1, .int a1), (2, .int a2), (3, .ref (xa X 323))] := hl
  obtain ⟨-, -, -, -, -, -, -, ⟨⟨cA, cB, cC⟩, -, n1, n2, n3, n4, n5, n6⟩⟩ := id hG
  refine lv_aload_n hx hb dL_swap_0 rfl (lv_at hl 3 rfl) ?_
  refine lv_iconst (v := 0) hx hb dL_swap_1 (by decide) ?_
  refine lv_aload_n hx hb dL_swap_2 rfl (lv_at hl 0 rfl) ?_
  refine lv_iload_n hx hb dL_swap_3 rfl (lv_at hl 1 rfl) ?_
  refine lv_iload_n hx hb dL_swap_4 rfl (lv_at hl 2 rfl) ?_
  refine vx_calli (vx_runV (As := [.int a1, .int a2]) (rest := [.int 0, .ref (xa X 323)]) ⟨hx, hb, hml, hown, hts⟩ (k8_swap l hst (Y := Y) hX (ul w 1 z) hf) (cwV 2 hts gL_swap_X8_swap rfl rfl rfl (by decide +kernel) ⟨by rw [hR1]; exact Nat.le_of_ble_eq_true rfl, by rw [hR2]; exact Nat.le_of_ble_eq_true rfl⟩) ⟨w_blindS, w_recv hP hK (by decide) emb_bt rfl, w_preS hP hK hG hS⟩ rfl rfl hl.1 rfl (Nat.le_of_ble_eq_true rfl) dL_swap_5 ⟨by rw [hR3]; exact Nat.le_of_ble_eq_true rfl, by rw [hR4]; exact Nat.le_of_ble_eq_true rfl⟩) hS (fun _ _ h => h) (fun _ h => h) (fun _ _ h => h) (fun E ce q9 u t H1 locs1 ht hvm hpx hB _ _ hS1 hce hcv hcl => ?_) (fun r u t H1 locs1 ht hvm hp hB _ _ hS1 => ?_)
  · obtain ⟨rfl, hB⟩ := hB
    have hP1 : HW X (pbt (ul w 1 z) f9 g0 c0 y9 o9) H1 := by rw [← ht]; exact hB.1
    rcases hcd with rfl | rfl | rfl | rfl
    · exact absurd rfl hpx
    · refine vx_catch (E := exn 1) (name := "java/lang/IndexOutOfBoundsException") hown [] ⟨0, 10, 13, 25⟩ [⟨0, 10, 17, 13⟩, ⟨0, 10, 21, 15⟩] (by rw [htab]; rfl) (fun z hz => nomatch hz) (by decide) (by decide) (hts (.classLink RL 25 "java/lang/IndexOutOfBoundsException") (by decide +kernel)) (cA.use rfl) hce hcv hcl ?_
      refine lv_astore (lv' := [(4, .ref q9), (0, .ref (xa X 306)), (1, .int a1), (2, .int a2), (3, .ref (xa X 323))]) hx hb dL_swap_13 hl (by decide) rfl (fun ls hl => ?_)
      refine lv_iconst (v := 1) hx hb dL_swap_15 (by decide) ?_
      exact W.iret hx hb hr (fun t ht hW => ⟨⟨_, (), rfl, rfl, by show HW X _ t.heap; rw [ht]; exact hP1, va_K.moved hW.alike hK⟩, hS1.F ht⟩) hS1.2.2 dL_swap_16 hlocks
    · refine vx_catch (E := exn 2) (name := "java/lang/IllegalArgumentException") hown [⟨0, 10, 13, 25⟩] ⟨0, 10, 17, 13⟩ [⟨0, 10, 21, 15⟩] (by rw [htab]; rfl) (fun z hz => by
        simp only [List.mem_cons, List.not_mem_nil, or_false] at hz
        subst hz
        exact Or.inr ⟨Nat.ne_of_gt (Nat.le_of_ble_eq_true rfl), "java/lang/IndexOutOfBoundsException", hts (.classLink RL 25 "java/lang/IndexOutOfBoundsException") (by decide +kernel), n1⟩) (by decide) (by decide) (hts (.classLink RL 13 "java/lang/IllegalArgumentException") (by decide +kernel)) (cB.use rfl) hce hcv hcl ?_
      refine lv_astore (lv' := [(4, .ref q9), (0, .ref (xa X 306)), (1, .int a1), (2, .int a2), (3, .ref (xa X 323))]) hx hb dL_swap_17 hl (by decide) rfl (fun ls hl => ?_)
      refine lv_iconst (v := 2) hx hb dL_swap_19 (by decide) ?_
      exact W.iret hx hb hr (fun t ht hW => ⟨⟨_, (), rfl, rfl, by show HW X _ t.heap; rw [ht]; exact hP1, va_K.moved hW.alike hK⟩, hS1.F ht⟩) hS1.2.2 dL_swap_20 hlocks
    · refine vx_catch (E := exn 3) (name := "java/lang/IllegalStateException") hown [⟨0, 10, 13, 25⟩, ⟨0, 10, 17, 13⟩] ⟨0, 10, 21, 15⟩ [] (by rw [htab]; rfl) (fun z hz => by
        simp only [List.mem_cons, List.not_mem_nil, or_false] at hz
        rcases hz with rfl | rfl
        · exact Or.inr ⟨Nat.ne_of_gt (Nat.le_of_ble_eq_true rfl), "java/lang/IndexOutOfBoundsException", hts (.classLink RL 25 "java/lang/IndexOutOfBoundsException") (by decide +kernel), n2⟩
        · exact Or.inr ⟨Nat.ne_of_gt (Nat.le_of_ble_eq_true rfl), "java/lang/IllegalArgumentException", hts (.classLink RL 13 "java/lang/IllegalArgumentException") (by decide +kernel), n3⟩) (by decide) (by decide) (hts (.classLink RL 15 "java/lang/IllegalStateException") (by decide +kernel)) (cC.use rfl) hce hcv hcl ?_
      refine lv_astore (lv' := [(4, .ref q9), (0, .ref (xa X 306)), (1, .int a1), (2, .int a2), (3, .ref (xa X 323))]) hx hb dL_swap_21 hl (by decide) rfl (fun ls hl => ?_)
      refine lv_iconst (v := 3) hx hb dL_swap_23 (by decide) ?_
      exact W.iret hx hb hr (fun t ht hW => ⟨⟨_, (), rfl, rfl, by show HW X _ t.heap; rw [ht]; exact hP1, va_K.moved hW.alike hK⟩, hS1.F ht⟩) hS1.2.2 dL_swap_24 hlocks
  · obtain ⟨hc0, hrr⟩ := hp
    subst hc0
    subst hrr
    have hP1 : HW X (pbt (ul w 1 z) f9 g0 c0 y9 o9) H1 := by rw [← ht]; exact hB.1
    refine lv_i2l hx hb dL_swap_8 rfl ?_
    refine ar_last (gl := z) hx hb hX AR_out pbt_z (fun z1 => pbt (ul w 1 z1) f9 g0 c0 y9 o9) (fun z1 => pbt_out) hP1 hK hS1 (vp_in_nI (n := 0) (by decide) (by decide)) dL_swap_9 (fun z1 ez1 H locs hP hS => ?_)
    refine lv_goto (tgt := 25) hx hb dL_swap_10 (by decide) ?_
    refine lv_iconst (v := 0) hx hb dL_swap_25 (by decide) ?_
    rw [ez1] at hP
    exact W.iret hx hb hr (fun t ht hW => ⟨⟨_, (), rfl, rfl, by show HW X _ t.heap; rw [ht]; exact hP, va_K.moved hW.alike hK⟩, hS.F ht⟩) hS.2.2 dL_swap_26 hlocks
abbrev rmL_bring : Room := { frames := 8, cells := 1, slots := 6, locals := 167 }
set_option maxRecDepth 20000 in
theorem iL_bring_tab : Cond.codeWith yL_bring cL_bring 5 (some .int) [(0, 10, 13, 25), (0, 10, 17, 13), (0, 10, 21, 15)] ∈ wsL_bring := List.mem_cons_self
set_option maxHeartbeats 4000000 in
set_option maxRecDepth 100000 in
theorem kL_bring (l : Launch) (hst : l.stackTraces = false) {X : bkX} {Y : bkY} {b0 : Nat} (hX : XO X b0) (w : bkW) {f0 : bkA} {g0 : bkA} {c0 : bkA} {y0 : Nat → bkA} {o0 : Nat → Int32} {a1 : Int32} {a2 : Int32} {code9 res9 : Int32} {f9 : bkA} {y9 : Nat → bkA} {o9 : Nat → Int32} {z : Nat → Int64} (hf : m8_bring f0 y0 o0 a1 a2 = some (code9, res9, f9, y9, o9)) (hcd : code9 = 0 ∨ code9 = 1 ∨ code9 = 2 ∨ code9 = 3) : Met l yL_bring wsL_bring rmL_bring (va_Pc [.ref (xa X 306), .int a1, .int a2, .ref (xa X 323)] (WS X Y b0 (pbt (ul w 1 z) f0 g0 c0 y0 o0))) (va_Qi (fun r' (_ : Unit) => r' = (if code9 = 0 then (0 : Int32) else if code9 = 1 then 1 else if code9 = 2 then 2 else 3)) (fun _ t => WU X (pbt (ul w 1 (if code9 = 0 then vp_updL z 0 res9.toInt64 else z)) f9 g0 c0 y9 o9) t) (xF b0)) 1 6 (xF b0) := by
  refine Met.ofWH (cc := cL_bring) (maxL := 5) (ret := some .int) (hh := [(0, 10, 13, 25), (0, 10, 17, 13), (0, 10, 21, 15)]) (by decide) rfl ?_
  intro p e s m args below meth c s₁ B hml hv
  obtain ⟨ha, ⟨hP, hK⟩, hG⟩ := hv
  have hx := B.exec
  have hb := B.bytes
  have hr := B.returns
  have hts := atoms_spec (ws := wsL_bring) B.pre
  have htab := vx_table (x := yL_bring) B (hts _ iL_bring_tab)
  have hown : s.vm.findClass RL = some m.cls := findClass_of_methodNamed B.named
  have hlocks := B.notSynchronized
  obtain ⟨R, hR⟩ : ∃ R, R = (headSpec wsL_bring rmL_bring).room := ⟨_, rfl⟩
  rw [← hR]
  have hR1 : R.frames = 8 := by rw [hR]; rfl
  have hR2 : R.locals = 167 := by rw [hR]; rfl
  have hR3 : R.cells = 1 := by rw [hR]; rfl
  have hR4 : R.slots = 6 := by rw [hR]; rfl
  have hS : va_S (xF b0) s.heap s.heap [] := va_S.rf
  have hl := lv_entry ([.ref (xa X 306), .int a1, .int a2, .ref (xa X 323)]) (n := 5) (Nat.le_of_ble_eq_true rfl)
  refine W.eq ((congrArg (fun z => entryFrame m z 5) ha).trans (lg_entry_eq m _ 5)) ?_
  generalize (lg_sl ([.ref (xa X 306), .int a1, .int a2, .ref (xa X 323)]) ++ List.replicate (5 - (lg_sl ([.ref (xa X 306), .int a1, .int a2, .ref (xa X 323)])).length) Slot.unset).toArray = ls at hl ⊢
  have hl : lv_has ls 5 [(0, .ref (xa X 306)), (1, .int a1), (2, .int a2), (3, .ref (xa X 323))] := hl
  obtain ⟨-, -, -, -, -, -, -, ⟨⟨cA, cB, cC⟩, -, n1, n2, n3, n4, n5, n6⟩⟩ := id hG
  refine lv_aload_n hx hb dL_bring_0 rfl (lv_at hl 3 rfl) ?_
  refine lv_iconst (v := 0) hx hb dL_bring_1 (by decide) ?_
  refine lv_aload_n hx hb dL_bring_2 rfl (lv_at hl 0 rfl) ?_
  refine lv_iload_n hx hb dL_bring_3 rfl (lv_at hl 1 rfl) ?_
  refine lv_iload_n hx hb dL_bring_4 rfl (lv_at hl 2 rfl) ?_
  refine vx_calli (vx_runV (As := [.int a1, .int a2]) (rest := [.int 0, .ref (xa X 323)]) ⟨hx, hb, hml, hown, hts⟩ (k8_bring l hst (Y := Y) hX (ul w 1 z) hf) (cwV 2 hts gL_bring_X8_bring rfl rfl rfl (by decide +kernel) ⟨by rw [hR1]; exact Nat.le_of_ble_eq_true rfl, by rw [hR2]; exact Nat.le_of_ble_eq_true rfl⟩) ⟨w_blindS, w_recv hP hK (by decide) emb_bt rfl, w_preS hP hK hG hS⟩ rfl rfl hl.1 rfl (Nat.le_of_ble_eq_true rfl) dL_bring_5 ⟨by rw [hR3]; exact Nat.le_of_ble_eq_true rfl, by rw [hR4]; exact Nat.le_of_ble_eq_true rfl⟩) hS (fun _ _ h => h) (fun _ h => h) (fun _ _ h => h) (fun E ce q9 u t H1 locs1 ht hvm hpx hB _ _ hS1 hce hcv hcl => ?_) (fun r u t H1 locs1 ht hvm hp hB _ _ hS1 => ?_)
  · obtain ⟨rfl, hB⟩ := hB
    have hP1 : HW X (pbt (ul w 1 z) f9 g0 c0 y9 o9) H1 := by rw [← ht]; exact hB.1
    rcases hcd with rfl | rfl | rfl | rfl
    · exact absurd rfl hpx
    · refine vx_catch (E := exn 1) (name := "java/lang/IndexOutOfBoundsException") hown [] ⟨0, 10, 13, 25⟩ [⟨0, 10, 17, 13⟩, ⟨0, 10, 21, 15⟩] (by rw [htab]; rfl) (fun z hz => nomatch hz) (by decide) (by decide) (hts (.classLink RL 25 "java/lang/IndexOutOfBoundsException") (by decide +kernel)) (cA.use rfl) hce hcv hcl ?_
      refine lv_astore (lv' := [(4, .ref q9), (0, .ref (xa X 306)), (1, .int a1), (2, .int a2), (3, .ref (xa X 323))]) hx hb dL_bring_13 hl (by decide) rfl (fun ls hl => ?_)
      refine lv_iconst (v := 1) hx hb dL_bring_15 (by decide) ?_
      exact W.iret hx hb hr (fun t ht hW => ⟨⟨_, (), rfl, rfl, by show HW X _ t.heap; rw [ht]; exact hP1, va_K.moved hW.alike hK⟩, hS1.F ht⟩) hS1.2.2 dL_bring_16 hlocks
    · refine vx_catch (E := exn 2) (name := "java/lang/IllegalArgumentException") hown [⟨0, 10, 13, 25⟩] ⟨0, 10, 17, 13⟩ [⟨0, 10, 21, 15⟩] (by rw [htab]; rfl) (fun z hz => by
        simp only [List.mem_cons, List.not_mem_nil, or_false] at hz
        subst hz
        exact Or.inr ⟨Nat.ne_of_gt (Nat.le_of_ble_eq_true rfl), "java/lang/IndexOutOfBoundsException", hts (.classLink RL 25 "java/lang/IndexOutOfBoundsException") (by decide +kernel), n1⟩) (by decide) (by decide) (hts (.classLink RL 13 "java/lang/IllegalArgumentException") (by decide +kernel)) (cB.use rfl) hce hcv hcl ?_
      refine lv_astore (lv' := [(4, .ref q9), (0, .ref (xa X 306)), (1, .int a1), (2, .int a2), (3, .ref (xa X 323))]) hx hb dL_bring_17 hl (by decide) rfl (fun ls hl => ?_)
      refine lv_iconst (v := 2) hx hb dL_bring_19 (by decide) ?_
      exact W.iret hx hb hr (fun t ht hW => ⟨⟨_, (), rfl, rfl, by show HW X _ t.heap; rw [ht]; exact hP1, va_K.moved hW.alike hK⟩, hS1.F ht⟩) hS1.2.2 dL_bring_20 hlocks
    · refine vx_catch (E := exn 3) (name := "java/lang/IllegalStateException") hown [⟨0, 10, 13, 25⟩, ⟨0, 10, 17, 13⟩] ⟨0, 10, 21, 15⟩ [] (by rw [htab]; rfl) (fun z hz => by
        simp only [List.mem_cons, List.not_mem_nil, or_false] at hz
        rcases hz with rfl | rfl
        · exact Or.inr ⟨Nat.ne_of_gt (Nat.le_of_ble_eq_true rfl), "java/lang/IndexOutOfBoundsException", hts (.classLink RL 25 "java/lang/IndexOutOfBoundsException") (by decide +kernel), n2⟩
        · exact Or.inr ⟨Nat.ne_of_gt (Nat.le_of_ble_eq_true rfl), "java/lang/IllegalArgumentException", hts (.classLink RL 13 "java/lang/IllegalArgumentException") (by decide +kernel), n3⟩) (by decide) (by decide) (hts (.classLink RL 15 "java/lang/IllegalStateException") (by decide +kernel)) (cC.use rfl) hce hcv hcl ?_
      refine lv_astore (lv' := [(4, .ref q9), (0, .ref (xa X 306)), (1, .int a1), (2, .int a2), (3, .ref (xa X 323))]) hx hb dL_bring_21 hl (by decide) rfl (fun ls hl => ?_)
      refine lv_iconst (v := 3) hx hb dL_bring_23 (by decide) ?_
      exact W.iret hx hb hr (fun t ht hW => ⟨⟨_, (), rfl, rfl, by show HW X _ t.heap; rw [ht]; exact hP1, va_K.moved hW.alike hK⟩, hS1.F ht⟩) hS1.2.2 dL_bring_24 hlocks
  · obtain ⟨hc0, hrr⟩ := hp
    subst hc0
    subst hrr
    have hP1 : HW X (pbt (ul w 1 z) f9 g0 c0 y9 o9) H1 := by rw [← ht]; exact hB.1
    refine lv_i2l hx hb dL_bring_8 rfl ?_
    refine ar_last (gl := z) hx hb hX AR_out pbt_z (fun z1 => pbt (ul w 1 z1) f9 g0 c0 y9 o9) (fun z1 => pbt_out) hP1 hK hS1 (vp_in_nI (n := 0) (by decide) (by decide)) dL_bring_9 (fun z1 ez1 H locs hP hS => ?_)
    refine lv_goto (tgt := 25) hx hb dL_bring_10 (by decide) ?_
    refine lv_iconst (v := 0) hx hb dL_bring_25 (by decide) ?_
    rw [ez1] at hP
    exact W.iret hx hb hr (fun t ht hW => ⟨⟨_, (), rfl, rfl, by show HW X _ t.heap; rw [ht]; exact hP, va_K.moved hW.alike hK⟩, hS.F ht⟩) hS.2.2 dL_bring_26 hlocks
abbrev rmL_stoke : Room := { frames := 8, cells := 1, slots := 6, locals := 167 }
set_option maxRecDepth 20000 in
theorem iL_stoke_tab : Cond.codeWith yL_stoke cL_stoke 5 (some .int) [(0, 10, 13, 25), (0, 10, 17, 13), (0, 10, 21, 15)] ∈ wsL_stoke := List.mem_cons_self
set_option maxHeartbeats 4000000 in
set_option maxRecDepth 100000 in
theorem kL_stoke (l : Launch) (hst : l.stackTraces = false) {X : bkX} {Y : bkY} {b0 : Nat} (hX : XO X b0) (w : bkW) {f0 : bkA} {g0 : bkA} {c0 : bkA} {y0 : Nat → bkA} {o0 : Nat → Int32} {a1 : Int32} {a2 : Int32} {code9 res9 : Int32} {f9 : bkA} {y9 : Nat → bkA} {o9 : Nat → Int32} {z : Nat → Int64} (hf : m8_stoke f0 y0 o0 a1 a2 = some (code9, res9, f9, y9, o9)) (hcd : code9 = 0 ∨ code9 = 1 ∨ code9 = 2 ∨ code9 = 3) : Met l yL_stoke wsL_stoke rmL_stoke (va_Pc [.ref (xa X 306), .int a1, .int a2, .ref (xa X 323)] (WS X Y b0 (pbt (ul w 1 z) f0 g0 c0 y0 o0))) (va_Qi (fun r' (_ : Unit) => r' = (if code9 = 0 then (0 : Int32) else if code9 = 1 then 1 else if code9 = 2 then 2 else 3)) (fun _ t => WU X (pbt (ul w 1 (if code9 = 0 then vp_updL z 0 res9.toInt64 else z)) f9 g0 c0 y9 o9) t) (xF b0)) 1 6 (xF b0) := by
  refine Met.ofWH (cc := cL_stoke) (maxL := 5) (ret := some .int) (hh := [(0, 10, 13, 25), (0, 10, 17, 13), (0, 10, 21, 15)]) (by decide) rfl ?_
  intro p e s m args below meth c s₁ B hml hv
  obtain ⟨ha, ⟨hP, hK⟩, hG⟩ := hv
  have hx := B.exec
  have hb := B.bytes
  have hr := B.returns
  have hts := atoms_spec (ws := wsL_stoke) B.pre
  have htab := vx_table (x := yL_stoke) B (hts _ iL_stoke_tab)
  have hown : s.vm.findClass RL = some m.cls := findClass_of_methodNamed B.named
  have hlocks := B.notSynchronized
  obtain ⟨R, hR⟩ : ∃ R, R = (headSpec wsL_stoke rmL_stoke).room := ⟨_, rfl⟩
  rw [← hR]
  have hR1 : R.frames = 8 := by rw [hR]; rfl
  have hR2 : R.locals = 167 := by rw [hR]; rfl
  have hR3 : R.cells = 1 := by rw [hR]; rfl
  have hR4 : R.slots = 6 := by rw [hR]; rfl
  have hS : va_S (xF b0) s.heap s.heap [] := va_S.rf
  have hl := lv_entry ([.ref (xa X 306), .int a1, .int a2, .ref (xa X 323)]) (n := 5) (Nat.le_of_ble_eq_true rfl)
  refine W.eq ((congrArg (fun z => entryFrame m z 5) ha).trans (lg_entry_eq m _ 5)) ?_
  generalize (lg_sl ([.ref (xa X 306), .int a1, .int a2, .ref (xa X 323)]) ++ List.replicate (5 - (lg_sl ([.ref (xa X 306), .int a1, .int a2, .ref (xa X 323)])).length) Slot.unset).toArray = ls at hl ⊢
  have hl : lv_has ls 5 [(0, .ref (xa X 306)), (1, .int a1), (2, .int a2), (3, .ref (xa X 323))] := hl
  obtain ⟨-, -, -, -, -, -, -, ⟨⟨cA, cB, cC⟩, -, n1, n2, n3, n4, n5, n6⟩⟩ := id hG
  refine lv_aload_n hx hb dL_stoke_0 rfl (lv_at hl 3 rfl) ?_
  refine lv_iconst (v := 0) hx hb dL_stoke_1 (by decide) ?_
  refine lv_aload_n hx hb dL_stoke_2 rfl (lv_at hl 0 rfl) ?_
  refine lv_iload_n hx hb dL_stoke_3 rfl (lv_at hl 1 rfl) ?_
  refine lv_iload_n hx hb dL_stoke_4 rfl (lv_at hl 2 rfl) ?_
  refine vx_calli (vx_runV (As := [.int a1, .int a2]) (rest := [.int 0, .ref (xa X 323)]) ⟨hx, hb, hml, hown, hts⟩ (k8_stoke l hst (Y := Y) hX (ul w 1 z) hf) (cwV 2 hts gL_stoke_X8_stoke rfl rfl rfl (by decide +kernel) ⟨by rw [hR1]; exact Nat.le_of_ble_eq_true rfl, by rw [hR2]; exact Nat.le_of_ble_eq_true rfl⟩) ⟨w_blindS, w_recv hP hK (by decide) emb_bt rfl, w_preS hP hK hG hS⟩ rfl rfl hl.1 rfl (Nat.le_of_ble_eq_true rfl) dL_stoke_5 ⟨by rw [hR3]; exact Nat.le_of_ble_eq_true rfl, by rw [hR4]; exact Nat.le_of_ble_eq_true rfl⟩) hS (fun _ _ h => h) (fun _ h => h) (fun _ _ h => h) (fun E ce q9 u t H1 locs1 ht hvm hpx hB _ _ hS1 hce hcv hcl => ?_) (fun r u t H1 locs1 ht hvm hp hB _ _ hS1 => ?_)
  · obtain ⟨rfl, hB⟩ := hB
    have hP1 : HW X (pbt (ul w 1 z) f9 g0 c0 y9 o9) H1 := by rw [← ht]; exact hB.1
    rcases hcd with rfl | rfl | rfl | rfl
    · exact absurd rfl hpx
    · refine vx_catch (E := exn 1) (name := "java/lang/IndexOutOfBoundsException") hown [] ⟨0, 10, 13, 25⟩ [⟨0, 10, 17, 13⟩, ⟨0, 10, 21, 15⟩] (by rw [htab]; rfl) (fun z hz => nomatch hz) (by decide) (by decide) (hts (.classLink RL 25 "java/lang/IndexOutOfBoundsException") (by decide +kernel)) (cA.use rfl) hce hcv hcl ?_
      refine lv_astore (lv' := [(4, .ref q9), (0, .ref (xa X 306)), (1, .int a1), (2, .int a2), (3, .ref (xa X 323))]) hx hb dL_stoke_13 hl (by decide) rfl (fun ls hl => ?_)
      refine lv_iconst (v := 1) hx hb dL_stoke_15 (by decide) ?_
      exact W.iret hx hb hr (fun t ht hW => ⟨⟨_, (), rfl, rfl, by show HW X _ t.heap; rw [ht]; exact hP1, va_K.moved hW.alike hK⟩, hS1.F ht⟩) hS1.2.2 dL_stoke_16 hlocks
    · refine vx_catch (E := exn 2) (name := "java/lang/IllegalArgumentException") hown [⟨0, 10, 13, 25⟩] ⟨0, 10, 17, 13⟩ [⟨0, 10, 21, 15⟩] (by rw [htab]; rfl) (fun z hz => by
        simp only [List.mem_cons, List.not_mem_nil, or_false] at hz
        subst hz
        exact Or.inr ⟨Nat.ne_of_gt (Nat.le_of_ble_eq_true rfl), "java/lang/IndexOutOfBoundsException", hts (.classLink RL 25 "java/lang/IndexOutOfBoundsException") (by decide +kernel), n1⟩) (by decide) (by decide) (hts (.classLink RL 13 "java/lang/IllegalArgumentException") (by decide +kernel)) (cB.use rfl) hce hcv hcl ?_
      refine lv_astore (lv' := [(4, .ref q9), (0, .ref (xa X 306)), (1, .int a1), (2, .int a2), (3, .ref (xa X 323))]) hx hb dL_stoke_17 hl (by decide) rfl (fun ls hl => ?_)
      refine lv_iconst (v := 2) hx hb dL_stoke_19 (by decide) ?_
      exact W.iret hx hb hr (fun t ht hW => ⟨⟨_, (), rfl, rfl, by show HW X _ t.heap; rw [ht]; exact hP1, va_K.moved hW.alike hK⟩, hS1.F ht⟩) hS1.2.2 dL_stoke_20 hlocks
    · refine vx_catch (E := exn 3) (name := "java/lang/IllegalStateException") hown [⟨0, 10, 13, 25⟩, ⟨0, 10, 17, 13⟩] ⟨0, 10, 21, 15⟩ [] (by rw [htab]; rfl) (fun z hz => by
        simp only [List.mem_cons, List.not_mem_nil, or_false] at hz
        rcases hz with rfl | rfl
        · exact Or.inr ⟨Nat.ne_of_gt (Nat.le_of_ble_eq_true rfl), "java/lang/IndexOutOfBoundsException", hts (.classLink RL 25 "java/lang/IndexOutOfBoundsException") (by decide +kernel), n2⟩
        · exact Or.inr ⟨Nat.ne_of_gt (Nat.le_of_ble_eq_true rfl), "java/lang/IllegalArgumentException", hts (.classLink RL 13 "java/lang/IllegalArgumentException") (by decide +kernel), n3⟩) (by decide) (by decide) (hts (.classLink RL 15 "java/lang/IllegalStateException") (by decide +kernel)) (cC.use rfl) hce hcv hcl ?_
      refine lv_astore (lv' := [(4, .ref q9), (0, .ref (xa X 306)), (1, .int a1), (2, .int a2), (3, .ref (xa X 323))]) hx hb dL_stoke_21 hl (by decide) rfl (fun ls hl => ?_)
      refine lv_iconst (v := 3) hx hb dL_stoke_23 (by decide) ?_
      exact W.iret hx hb hr (fun t ht hW => ⟨⟨_, (), rfl, rfl, by show HW X _ t.heap; rw [ht]; exact hP1, va_K.moved hW.alike hK⟩, hS1.F ht⟩) hS1.2.2 dL_stoke_24 hlocks
  · obtain ⟨hc0, hrr⟩ := hp
    subst hc0
    subst hrr
    have hP1 : HW X (pbt (ul w 1 z) f9 g0 c0 y9 o9) H1 := by rw [← ht]; exact hB.1
    refine lv_i2l hx hb dL_stoke_8 rfl ?_
    refine ar_last (gl := z) hx hb hX AR_out pbt_z (fun z1 => pbt (ul w 1 z1) f9 g0 c0 y9 o9) (fun z1 => pbt_out) hP1 hK hS1 (vp_in_nI (n := 0) (by decide) (by decide)) dL_stoke_9 (fun z1 ez1 H locs hP hS => ?_)
    refine lv_goto (tgt := 25) hx hb dL_stoke_10 (by decide) ?_
    refine lv_iconst (v := 0) hx hb dL_stoke_25 (by decide) ?_
    rw [ez1] at hP
    exact W.iret hx hb hr (fun t ht hW => ⟨⟨_, (), rfl, rfl, by show HW X _ t.heap; rw [ht]; exact hP, va_K.moved hW.alike hK⟩, hS.F ht⟩) hS.2.2 dL_stoke_26 hlocks
abbrev rmL_pass : Room := { frames := 8, cells := 1, slots := 6, locals := 166 }
set_option maxRecDepth 20000 in
theorem iL_pass_tab : Cond.codeWith yL_pass cL_pass 4 (some .int) [(0, 9, 12, 13), (0, 9, 15, 15)] ∈ wsL_pass := List.mem_cons_self
set_option maxHeartbeats 4000000 in
set_option maxRecDepth 100000 in
theorem kL_pass (l : Launch) (hst : l.stackTraces = false) {X : bkX} {Y : bkY} {b0 : Nat} (hX : XO X b0) (w : bkW) {N : Nat} {f0 : bkA} {g0 : bkA} {c0 : bkA} {y0 : Nat → bkA} {o0 : Nat → Int32} {a1 : Int32} {code9 res9 : Int32} {f9 : bkA} {y9 : Nat → bkA} {o9 : Nat → Int32} {z : Nat → Int64} (hf : m8_pass N f0 y0 o0 a1 = some (code9, res9, f9, y9, o9)) (hcd : code9 = 0 ∨ code9 = 2 ∨ code9 = 3) : Met l yL_pass wsL_pass rmL_pass (va_Pc [.ref (xa X 306), .int a1, .ref (xa X 323)] (WS X Y b0 (pbt (ul w 1 z) f0 g0 c0 y0 o0))) (va_Qi (fun r' (_ : Unit) => r' = (if code9 = 0 then (0 : Int32) else if code9 = 2 then 1 else 2)) (fun _ t => WU X (pbt (ul w 1 (if code9 = 0 then vp_updL z 0 res9.toInt64 else z)) f9 g0 c0 y9 o9) t) (xF b0)) 1 6 (xF b0) := by
  refine Met.ofWH (cc := cL_pass) (maxL := 4) (ret := some .int) (hh := [(0, 9, 12, 13), (0, 9, 15, 15)]) (by decide) rfl ?_
  intro p e s m args below meth c s₁ B hml hv
  obtain ⟨ha, ⟨hP, hK⟩, hG⟩ := hv
  have hx := B.exec
  have hb := B.bytes
  have hr := B.returns
  have hts := atoms_spec (ws := wsL_pass) B.pre
  have htab := vx_table (x := yL_pass) B (hts _ iL_pass_tab)
  have hown : s.vm.findClass RL = some m.cls := findClass_of_methodNamed B.named
  have hlocks := B.notSynchronized
  obtain ⟨R, hR⟩ : ∃ R, R = (headSpec wsL_pass rmL_pass).room := ⟨_, rfl⟩
  rw [← hR]
  have hR1 : R.frames = 8 := by rw [hR]; rfl
  have hR2 : R.locals = 166 := by rw [hR]; rfl
  have hR3 : R.cells = 1 := by rw [hR]; rfl
  have hR4 : R.slots = 6 := by rw [hR]; rfl
  have hS : va_S (xF b0) s.heap s.heap [] := va_S.rf
  have hl := lv_entry ([.ref (xa X 306), .int a1, .ref (xa X 323)]) (n := 4) (Nat.le_of_ble_eq_true rfl)
  refine W.eq ((congrArg (fun z => entryFrame m z 4) ha).trans (lg_entry_eq m _ 4)) ?_
  generalize (lg_sl ([.ref (xa X 306), .int a1, .ref (xa X 323)]) ++ List.replicate (4 - (lg_sl ([.ref (xa X 306), .int a1, .ref (xa X 323)])).length) Slot.unset).toArray = ls at hl ⊢
  have hl : lv_has ls 4 [(0, .ref (xa X 306)), (1, .int a1), (2, .ref (xa X 323))] := hl
  obtain ⟨-, -, -, -, -, -, -, ⟨⟨cA, cB, cC⟩, -, n1, n2, n3, n4, n5, n6⟩⟩ := id hG
  refine lv_aload_n hx hb dL_pass_0 rfl (lv_at hl 2 rfl) ?_
  refine lv_iconst (v := 0) hx hb dL_pass_1 (by decide) ?_
  refine lv_aload_n hx hb dL_pass_2 rfl (lv_at hl 0 rfl) ?_
  refine lv_iload_n hx hb dL_pass_3 rfl (lv_at hl 1 rfl) ?_
  refine vx_calli (vx_runV (As := [.int a1]) (rest := [.int 0, .ref (xa X 323)]) ⟨hx, hb, hml, hown, hts⟩ (k8_pass l hst (Y := Y) hX (ul w 1 z) hf) (cwV 1 hts gL_pass_X8_pass rfl rfl rfl (by decide +kernel) ⟨by rw [hR1]; exact Nat.le_of_ble_eq_true rfl, by rw [hR2]; exact Nat.le_of_ble_eq_true rfl⟩) ⟨w_blindS, w_recv hP hK (by decide) emb_bt rfl, w_preS hP hK hG hS⟩ rfl rfl hl.1 rfl (Nat.le_of_ble_eq_true rfl) dL_pass_4 ⟨by rw [hR3]; exact Nat.le_of_ble_eq_true rfl, by rw [hR4]; exact Nat.le_of_ble_eq_true rfl⟩) hS (fun _ _ h => h) (fun _ h => h) (fun _ _ h => h) (fun E ce q9 u t H1 locs1 ht hvm hpx hB _ _ hS1 hce hcv hcl => ?_) (fun r u t H1 locs1 ht hvm hp hB _ _ hS1 => ?_)
  · obtain ⟨rfl, hB⟩ := hB
    have hP1 : HW X (pbt (ul w 1 z) f9 g0 c0 y9 o9) H1 := by rw [← ht]; exact hB.1
    rcases hcd with rfl | rfl | rfl
    · exact absurd rfl hpx
    · refine vx_catch (E := exn 2) (name := "java/lang/IllegalArgumentException") hown [] ⟨0, 9, 12, 13⟩ [⟨0, 9, 15, 15⟩] (by rw [htab]; rfl) (fun z hz => nomatch hz) (by decide) (by decide) (hts (.classLink RL 13 "java/lang/IllegalArgumentException") (by decide +kernel)) (cB.use rfl) hce hcv hcl ?_
      refine lv_astore_n (lv' := [(3, .ref q9), (0, .ref (xa X 306)), (1, .int a1), (2, .ref (xa X 323))]) hx hb dL_pass_12 rfl hl (by decide) rfl (fun ls hl => ?_)
      refine lv_iconst (v := 1) hx hb dL_pass_13 (by decide) ?_
      exact W.iret hx hb hr (fun t ht hW => ⟨⟨_, (), rfl, rfl, by show HW X _ t.heap; rw [ht]; exact hP1, va_K.moved hW.alike hK⟩, hS1.F ht⟩) hS1.2.2 dL_pass_14 hlocks
    · refine vx_catch (E := exn 3) (name := "java/lang/IllegalStateException") hown [⟨0, 9, 12, 13⟩] ⟨0, 9, 15, 15⟩ [] (by rw [htab]; rfl) (fun z hz => by
        simp only [List.mem_cons, List.not_mem_nil, or_false] at hz
        subst hz
        exact Or.inr ⟨Nat.ne_of_gt (Nat.le_of_ble_eq_true rfl), "java/lang/IllegalArgumentException", hts (.classLink RL 13 "java/lang/IllegalArgumentException") (by decide +kernel), n3⟩) (by decide) (by decide) (hts (.classLink RL 15 "java/lang/IllegalStateException") (by decide +kernel)) (cC.use rfl) hce hcv hcl ?_
      refine lv_astore_n (lv' := [(3, .ref q9), (0, .ref (xa X 306)), (1, .int a1), (2, .ref (xa X 323))]) hx hb dL_pass_15 rfl hl (by decide) rfl (fun ls hl => ?_)
      refine lv_iconst (v := 2) hx hb dL_pass_16 (by decide) ?_
      exact W.iret hx hb hr (fun t ht hW => ⟨⟨_, (), rfl, rfl, by show HW X _ t.heap; rw [ht]; exact hP1, va_K.moved hW.alike hK⟩, hS1.F ht⟩) hS1.2.2 dL_pass_17 hlocks
  · obtain ⟨hc0, hrr⟩ := hp
    subst hc0
    subst hrr
    have hP1 : HW X (pbt (ul w 1 z) f9 g0 c0 y9 o9) H1 := by rw [← ht]; exact hB.1
    refine lv_i2l hx hb dL_pass_7 rfl ?_
    refine ar_last (gl := z) hx hb hX AR_out pbt_z (fun z1 => pbt (ul w 1 z1) f9 g0 c0 y9 o9) (fun z1 => pbt_out) hP1 hK hS1 (vp_in_nI (n := 0) (by decide) (by decide)) dL_pass_8 (fun z1 ez1 H locs hP hS => ?_)
    refine lv_goto (tgt := 18) hx hb dL_pass_9 (by decide) ?_
    refine lv_iconst (v := 0) hx hb dL_pass_18 (by decide) ?_
    rw [ez1] at hP
    exact W.iret hx hb hr (fun t ht hW => ⟨⟨_, (), rfl, rfl, by show HW X _ t.heap; rw [ht]; exact hP, va_K.moved hW.alike hK⟩, hS.F ht⟩) hS.2.2 dL_pass_19 hlocks
abbrev rmL_kind : Room := { frames := 8, cells := 1, slots := 6, locals := 124 }
set_option maxRecDepth 20000 in
theorem iL_kind_tab : Cond.codeWith yL_kind cL_kind 5 (some .int) [(0, 10, 13, 25), (0, 10, 17, 13)] ∈ wsL_kind := List.mem_cons_self
set_option maxHeartbeats 4000000 in
set_option maxRecDepth 100000 in
theorem kL_kind (l : Launch) (hst : l.stackTraces = false) {X : bkX} {Y : bkY} {b0 : Nat} (hX : XO X b0) (w : bkW) {f0 : bkA} {g0 : bkA} {c0 : bkA} {y0 : Nat → bkA} {o0 : Nat → Int32} {a1 : Int32} {a2 : Int32} {code9 res9 : Int32} {z : Nat → Int64} (hf : m8_kind f0 a1 a2 = some (code9, res9)) (hcd : code9 = 0 ∨ code9 = 1 ∨ code9 = 2) : Met l yL_kind wsL_kind rmL_kind (va_Pc [.ref (xa X 306), .int a1, .int a2, .ref (xa X 323)] (WS X Y b0 (pbt (ul w 1 z) f0 g0 c0 y0 o0))) (va_Qi (fun r' (_ : Unit) => r' = (if code9 = 0 then (0 : Int32) else if code9 = 1 then 1 else 2)) (fun _ t => WU X (pbt (ul w 1 (if code9 = 0 then vp_updL z 0 res9.toInt64 else z)) f0 g0 c0 y0 o0) t) (xF b0)) 1 6 (xF b0) := by
  refine Met.ofWH (cc := cL_kind) (maxL := 5) (ret := some .int) (hh := [(0, 10, 13, 25), (0, 10, 17, 13)]) (by decide) rfl ?_
  intro p e s m args below meth c s₁ B hml hv
  obtain ⟨ha, ⟨hP, hK⟩, hG⟩ := hv
  have hx := B.exec
  have hb := B.bytes
  have hr := B.returns
  have hts := atoms_spec (ws := wsL_kind) B.pre
  have htab := vx_table (x := yL_kind) B (hts _ iL_kind_tab)
  have hown : s.vm.findClass RL = some m.cls := findClass_of_methodNamed B.named
  have hlocks := B.notSynchronized
  obtain ⟨R, hR⟩ : ∃ R, R = (headSpec wsL_kind rmL_kind).room := ⟨_, rfl⟩
  rw [← hR]
  have hR1 : R.frames = 8 := by rw [hR]; rfl
  have hR2 : R.locals = 124 := by rw [hR]; rfl
  have hR3 : R.cells = 1 := by rw [hR]; rfl
  have hR4 : R.slots = 6 := by rw [hR]; rfl
  have hS : va_S (xF b0) s.heap s.heap [] := va_S.rf
  have hl := lv_entry ([.ref (xa X 306), .int a1, .int a2, .ref (xa X 323)]) (n := 5) (Nat.le_of_ble_eq_true rfl)
  refine W.eq ((congrArg (fun z => entryFrame m z 5) ha).trans (lg_entry_eq m _ 5)) ?_
  generalize (lg_sl ([.ref (xa X 306), .int a1, .int a2, .ref (xa X 323)]) ++ List.replicate (5 - (lg_sl ([.ref (xa X 306), .int a1, .int a2, .ref (xa X 323)])).length) Slot.unset).toArray = ls at hl ⊢
  have hl : lv_has ls 5 [(0, .ref (xa X 306)), (1, .int a1), (2, .int a2), (3, .ref (xa X 323))] := hl
  obtain ⟨-, -, -, -, -, -, -, ⟨⟨cA, cB, cC⟩, -, n1, n2, n3, n4, n5, n6⟩⟩ := id hG
  refine lv_aload_n hx hb dL_kind_0 rfl (lv_at hl 3 rfl) ?_
  refine lv_iconst (v := 0) hx hb dL_kind_1 (by decide) ?_
  refine lv_aload_n hx hb dL_kind_2 rfl (lv_at hl 0 rfl) ?_
  refine lv_iload_n hx hb dL_kind_3 rfl (lv_at hl 1 rfl) ?_
  refine lv_iload_n hx hb dL_kind_4 rfl (lv_at hl 2 rfl) ?_
  refine vx_calli (vx_runV (As := [.int a1, .int a2]) (rest := [.int 0, .ref (xa X 323)]) ⟨hx, hb, hml, hown, hts⟩ (k8_kind l hst (Y := Y) hX (ul w 1 z) hf) (cwV 2 hts gL_kind_X8_kind rfl rfl rfl (by decide +kernel) ⟨by rw [hR1]; exact Nat.le_of_ble_eq_true rfl, by rw [hR2]; exact Nat.le_of_ble_eq_true rfl⟩) ⟨w_blindS, w_recv hP hK (by decide) emb_bt rfl, w_preS hP hK hG hS⟩ rfl rfl hl.1 rfl (Nat.le_of_ble_eq_true rfl) dL_kind_5 ⟨by rw [hR3]; exact Nat.le_of_ble_eq_true rfl, by rw [hR4]; exact Nat.le_of_ble_eq_true rfl⟩) hS (fun _ _ h => h) (fun _ h => h) (fun _ _ h => h) (fun E ce q9 u t H1 locs1 ht hvm hpx hB _ _ hS1 hce hcv hcl => ?_) (fun r u t H1 locs1 ht hvm hp hB _ _ hS1 => ?_)
  · obtain ⟨rfl, hB⟩ := hB
    have hP1 : HW X (pbt (ul w 1 z) f0 g0 c0 y0 o0) H1 := by rw [← ht]; exact hB.1
    rcases hcd with rfl | rfl | rfl
    · exact absurd rfl hpx
    · refine vx_catch (E := exn 1) (name := "java/lang/IndexOutOfBoundsException") hown [] ⟨0, 10, 13, 25⟩ [⟨0, 10, 17, 13⟩] (by rw [htab]; rfl) (fun z hz => nomatch hz) (by decide) (by decide) (hts (.classLink RL 25 "java/lang/IndexOutOfBoundsException") (by decide +kernel)) (cA.use rfl) hce hcv hcl ?_
      refine lv_astore (lv' := [(4, .ref q9), (0, .ref (xa X 306)), (1, .int a1), (2, .int a2), (3, .ref (xa X 323))]) hx hb dL_kind_13 hl (by decide) rfl (fun ls hl => ?_)
      refine lv_iconst (v := 1) hx hb dL_kind_15 (by decide) ?_
      exact W.iret hx hb hr (fun t ht hW => ⟨⟨_, (), rfl, rfl, by show HW X _ t.heap; rw [ht]; exact hP1, va_K.moved hW.alike hK⟩, hS1.F ht⟩) hS1.2.2 dL_kind_16 hlocks
    · refine vx_catch (E := exn 2) (name := "java/lang/IllegalArgumentException") hown [⟨0, 10, 13, 25⟩] ⟨0, 10, 17, 13⟩ [] (by rw [htab]; rfl) (fun z hz => by
        simp only [List.mem_cons, List.not_mem_nil, or_false] at hz
        subst hz
        exact Or.inr ⟨Nat.ne_of_gt (Nat.le_of_ble_eq_true rfl), "java/lang/IndexOutOfBoundsException", hts (.classLink RL 25 "java/lang/IndexOutOfBoundsException") (by decide +kernel), n1⟩) (by decide) (by decide) (hts (.classLink RL 13 "java/lang/IllegalArgumentException") (by decide +kernel)) (cB.use rfl) hce hcv hcl ?_
      refine lv_astore (lv' := [(4, .ref q9), (0, .ref (xa X 306)), (1, .int a1), (2, .int a2), (3, .ref (xa X 323))]) hx hb dL_kind_17 hl (by decide) rfl (fun ls hl => ?_)
      refine lv_iconst (v := 2) hx hb dL_kind_19 (by decide) ?_
      exact W.iret hx hb hr (fun t ht hW => ⟨⟨_, (), rfl, rfl, by show HW X _ t.heap; rw [ht]; exact hP1, va_K.moved hW.alike hK⟩, hS1.F ht⟩) hS1.2.2 dL_kind_20 hlocks
  · obtain ⟨hc0, hrr⟩ := hp
    subst hc0
    subst hrr
    have hP1 : HW X (pbt (ul w 1 z) f0 g0 c0 y0 o0) H1 := by rw [← ht]; exact hB.1
    refine lv_i2l hx hb dL_kind_8 rfl ?_
    refine ar_last (gl := z) hx hb hX AR_out pbt_z (fun z1 => pbt (ul w 1 z1) f0 g0 c0 y0 o0) (fun z1 => pbt_out) hP1 hK hS1 (vp_in_nI (n := 0) (by decide) (by decide)) dL_kind_9 (fun z1 ez1 H locs hP hS => ?_)
    refine lv_goto (tgt := 21) hx hb dL_kind_10 (by decide) ?_
    refine lv_iconst (v := 0) hx hb dL_kind_21 (by decide) ?_
    rw [ez1] at hP
    exact W.iret hx hb hr (fun t ht hW => ⟨⟨_, (), rfl, rfl, by show HW X _ t.heap; rw [ht]; exact hP, va_K.moved hW.alike hK⟩, hS.F ht⟩) hS.2.2 dL_kind_22 hlocks
abbrev rmL_house : Room := { frames := 8, cells := 1, slots := 6, locals := 124 }
set_option maxRecDepth 20000 in
theorem iL_house_tab : Cond.codeWith yL_house cL_house 5 (some .int) [(0, 10, 13, 25), (0, 10, 17, 13)] ∈ wsL_house := List.mem_cons_self
set_option maxHeartbeats 4000000 in
set_option maxRecDepth 100000 in
theorem kL_house (l : Launch) (hst : l.stackTraces = false) {X : bkX} {Y : bkY} {b0 : Nat} (hX : XO X b0) (w : bkW) {N : Nat} {f0 : bkA} {g0 : bkA} {c0 : bkA} {y0 : Nat → bkA} {o0 : Nat → Int32} {a1 : Int32} {a2 : Int32} {code9 res9 : Int32} {z : Nat → Int64} (hf : m8_house N f0 a1 a2 = some (code9, res9)) (hcd : code9 = 0 ∨ code9 = 1 ∨ code9 = 2) : Met l yL_house wsL_house rmL_house (va_Pc [.ref (xa X 306), .int a1, .int a2, .ref (xa X 323)] (WS X Y b0 (pbt (ul w 1 z) f0 g0 c0 y0 o0))) (va_Qi (fun r' (_ : Unit) => r' = (if code9 = 0 then (0 : Int32) else if code9 = 1 then 1 else 2)) (fun _ t => WU X (pbt (ul w 1 (if code9 = 0 then vp_updL z 0 res9.toInt64 else z)) f0 g0 c0 y0 o0) t) (xF b0)) 1 6 (xF b0) := by
  refine Met.ofWH (cc := cL_house) (maxL := 5) (ret := some .int) (hh := [(0, 10, 13, 25), (0, 10, 17, 13)]) (by decide) rfl ?_
  intro p e s m args below meth c s₁ B hml hv
  obtain ⟨ha, ⟨hP, hK⟩, hG⟩ := hv
  have hx := B.exec
  have hb := B.bytes
  have hr := B.returns
  have hts := atoms_spec (ws := wsL_house) B.pre
  have htab := vx_table (x := yL_house) B (hts _ iL_house_tab)
  have hown : s.vm.findClass RL = some m.cls := findClass_of_methodNamed B.named
  have hlocks := B.notSynchronized
  obtain ⟨R, hR⟩ : ∃ R, R = (headSpec wsL_house rmL_house).room := ⟨_, rfl⟩
  rw [← hR]
  have hR1 : R.frames = 8 := by rw [hR]; rfl
  have hR2 : R.locals = 124 := by rw [hR]; rfl
  have hR3 : R.cells = 1 := by rw [hR]; rfl
  have hR4 : R.slots = 6 := by rw [hR]; rfl
  have hS : va_S (xF b0) s.heap s.heap [] := va_S.rf
  have hl := lv_entry ([.ref (xa X 306), .int a1, .int a2, .ref (xa X 323)]) (n := 5) (Nat.le_of_ble_eq_true rfl)
  refine W.eq ((congrArg (fun z => entryFrame m z 5) ha).trans (lg_entry_eq m _ 5)) ?_
  generalize (lg_sl ([.ref (xa X 306), .int a1, .int a2, .ref (xa X 323)]) ++ List.replicate (5 - (lg_sl ([.ref (xa X 306), .int a1, .int a2, .ref (xa X 323)])).length) Slot.unset).toArray = ls at hl ⊢
  have hl : lv_has ls 5 [(0, .ref (xa X 306)), (1, .int a1), (2, .int a2), (3, .ref (xa X 323))] := hl
  obtain ⟨-, -, -, -, -, -, -, ⟨⟨cA, cB, cC⟩, -, n1, n2, n3, n4, n5, n6⟩⟩ := id hG
  refine lv_aload_n hx hb dL_house_0 rfl (lv_at hl 3 rfl) ?_
  refine lv_iconst (v := 0) hx hb dL_house_1 (by decide) ?_
  refine lv_aload_n hx hb dL_house_2 rfl (lv_at hl 0 rfl) ?_
  refine lv_iload_n hx hb dL_house_3 rfl (lv_at hl 1 rfl) ?_
  refine lv_iload_n hx hb dL_house_4 rfl (lv_at hl 2 rfl) ?_
  refine vx_calli (vx_runV (As := [.int a1, .int a2]) (rest := [.int 0, .ref (xa X 323)]) ⟨hx, hb, hml, hown, hts⟩ (k8_house l hst (Y := Y) hX (ul w 1 z) hf) (cwV 2 hts gL_house_X8_house rfl rfl rfl (by decide +kernel) ⟨by rw [hR1]; exact Nat.le_of_ble_eq_true rfl, by rw [hR2]; exact Nat.le_of_ble_eq_true rfl⟩) ⟨w_blindS, w_recv hP hK (by decide) emb_bt rfl, w_preS hP hK hG hS⟩ rfl rfl hl.1 rfl (Nat.le_of_ble_eq_true rfl) dL_house_5 ⟨by rw [hR3]; exact Nat.le_of_ble_eq_true rfl, by rw [hR4]; exact Nat.le_of_ble_eq_true rfl⟩) hS (fun _ _ h => h) (fun _ h => h) (fun _ _ h => h) (fun E ce q9 u t H1 locs1 ht hvm hpx hB _ _ hS1 hce hcv hcl => ?_) (fun r u t H1 locs1 ht hvm hp hB _ _ hS1 => ?_)
  · obtain ⟨rfl, hB⟩ := hB
    have hP1 : HW X (pbt (ul w 1 z) f0 g0 c0 y0 o0) H1 := by rw [← ht]; exact hB.1
    rcases hcd with rfl | rfl | rfl
    · exact absurd rfl hpx
    · refine vx_catch (E := exn 1) (name := "java/lang/IndexOutOfBoundsException") hown [] ⟨0, 10, 13, 25⟩ [⟨0, 10, 17, 13⟩] (by rw [htab]; rfl) (fun z hz => nomatch hz) (by decide) (by decide) (hts (.classLink RL 25 "java/lang/IndexOutOfBoundsException") (by decide +kernel)) (cA.use rfl) hce hcv hcl ?_
      refine lv_astore (lv' := [(4, .ref q9), (0, .ref (xa X 306)), (1, .int a1), (2, .int a2), (3, .ref (xa X 323))]) hx hb dL_house_13 hl (by decide) rfl (fun ls hl => ?_)
      refine lv_iconst (v := 1) hx hb dL_house_15 (by decide) ?_
      exact W.iret hx hb hr (fun t ht hW => ⟨⟨_, (), rfl, rfl, by show HW X _ t.heap; rw [ht]; exact hP1, va_K.moved hW.alike hK⟩, hS1.F ht⟩) hS1.2.2 dL_house_16 hlocks
    · refine vx_catch (E := exn 2) (name := "java/lang/IllegalArgumentException") hown [⟨0, 10, 13, 25⟩] ⟨0, 10, 17, 13⟩ [] (by rw [htab]; rfl) (fun z hz => by
        simp only [List.mem_cons, List.not_mem_nil, or_false] at hz
        subst hz
        exact Or.inr ⟨Nat.ne_of_gt (Nat.le_of_ble_eq_true rfl), "java/lang/IndexOutOfBoundsException", hts (.classLink RL 25 "java/lang/IndexOutOfBoundsException") (by decide +kernel), n1⟩) (by decide) (by decide) (hts (.classLink RL 13 "java/lang/IllegalArgumentException") (by decide +kernel)) (cB.use rfl) hce hcv hcl ?_
      refine lv_astore (lv' := [(4, .ref q9), (0, .ref (xa X 306)), (1, .int a1), (2, .int a2), (3, .ref (xa X 323))]) hx hb dL_house_17 hl (by decide) rfl (fun ls hl => ?_)
      refine lv_iconst (v := 2) hx hb dL_house_19 (by decide) ?_
      exact W.iret hx hb hr (fun t ht hW => ⟨⟨_, (), rfl, rfl, by show HW X _ t.heap; rw [ht]; exact hP1, va_K.moved hW.alike hK⟩, hS1.F ht⟩) hS1.2.2 dL_house_20 hlocks
  · obtain ⟨hc0, hrr⟩ := hp
    subst hc0
    subst hrr
    have hP1 : HW X (pbt (ul w 1 z) f0 g0 c0 y0 o0) H1 := by rw [← ht]; exact hB.1
    refine lv_i2l hx hb dL_house_8 rfl ?_
    refine ar_last (gl := z) hx hb hX AR_out pbt_z (fun z1 => pbt (ul w 1 z1) f0 g0 c0 y0 o0) (fun z1 => pbt_out) hP1 hK hS1 (vp_in_nI (n := 0) (by decide) (by decide)) dL_house_9 (fun z1 ez1 H locs hP hS => ?_)
    refine lv_goto (tgt := 21) hx hb dL_house_10 (by decide) ?_
    refine lv_iconst (v := 0) hx hb dL_house_21 (by decide) ?_
    rw [ez1] at hP
    exact W.iret hx hb hr (fun t ht hW => ⟨⟨_, (), rfl, rfl, by show HW X _ t.heap; rw [ht]; exact hP, va_K.moved hW.alike hK⟩, hS.F ht⟩) hS.2.2 dL_house_22 hlocks
abbrev rmL_dough : Room := { frames := 8, cells := 1, slots := 6, locals := 124 }
set_option maxRecDepth 20000 in
theorem iL_dough_tab : Cond.codeWith yL_dough cL_dough 5 (some .int) [(0, 10, 13, 25), (0, 10, 17, 13)] ∈ wsL_dough := List.mem_cons_self
set_option maxHeartbeats 4000000 in
set_option maxRecDepth 100000 in
theorem kL_dough (l : Launch) (hst : l.stackTraces = false) {X : bkX} {Y : bkY} {b0 : Nat} (hX : XO X b0) (w : bkW) {N : Nat} {f0 : bkA} {g0 : bkA} {c0 : bkA} {y0 : Nat → bkA} {o0 : Nat → Int32} {a1 : Int32} {a2 : Int32} {code9 res9 : Int32} {z : Nat → Int64} (hf : m8_dough N f0 a1 a2 = some (code9, res9)) (hcd : code9 = 0 ∨ code9 = 1 ∨ code9 = 2) : Met l yL_dough wsL_dough rmL_dough (va_Pc [.ref (xa X 306), .int a1, .int a2, .ref (xa X 323)] (WS X Y b0 (pbt (ul w 1 z) f0 g0 c0 y0 o0))) (va_Qi (fun r' (_ : Unit) => r' = (if code9 = 0 then (0 : Int32) else if code9 = 1 then 1 else 2)) (fun _ t => WU X (pbt (ul w 1 (if code9 = 0 then vp_updL z 0 res9.toInt64 else z)) f0 g0 c0 y0 o0) t) (xF b0)) 1 6 (xF b0) := by
  refine Met.ofWH (cc := cL_dough) (maxL := 5) (ret := some .int) (hh := [(0, 10, 13, 25), (0, 10, 17, 13)]) (by decide) rfl ?_
  intro p e s m args below meth c s₁ B hml hv
  obtain ⟨ha, ⟨hP, hK⟩, hG⟩ := hv
  have hx := B.exec
  have hb := B.bytes
  have hr := B.returns
  have hts := atoms_spec (ws := wsL_dough) B.pre
  have htab := vx_table (x := yL_dough) B (hts _ iL_dough_tab)
  have hown : s.vm.findClass RL = some m.cls := findClass_of_methodNamed B.named
  have hlocks := B.notSynchronized
  obtain ⟨R, hR⟩ : ∃ R, R = (headSpec wsL_dough rmL_dough).room := ⟨_, rfl⟩
  rw [← hR]
  have hR1 : R.frames = 8 := by rw [hR]; rfl
  have hR2 : R.locals = 124 := by rw [hR]; rfl
  have hR3 : R.cells = 1 := by rw [hR]; rfl
  have hR4 : R.slots = 6 := by rw [hR]; rfl
  have hS : va_S (xF b0) s.heap s.heap [] := va_S.rf
  have hl := lv_entry ([.ref (xa X 306), .int a1, .int a2, .ref (xa X 323)]) (n := 5) (Nat.le_of_ble_eq_true rfl)
  refine W.eq ((congrArg (fun z => entryFrame m z 5) ha).trans (lg_entry_eq m _ 5)) ?_
  generalize (lg_sl ([.ref (xa X 306), .int a1, .int a2, .ref (xa X 323)]) ++ List.replicate (5 - (lg_sl ([.ref (xa X 306), .int a1, .int a2, .ref (xa X 323)])).length) Slot.unset).toArray = ls at hl ⊢
  have hl : lv_has ls 5 [(0, .ref (xa X 306)), (1, .int a1), (2, .int a2), (3, .ref (xa X 323))] := hl
  obtain ⟨-, -, -, -, -, -, -, ⟨⟨cA, cB, cC⟩, -, n1, n2, n3, n4, n5, n6⟩⟩ := id hG
  refine lv_aload_n hx hb dL_dough_0 rfl (lv_at hl 3 rfl) ?_
  refine lv_iconst (v := 0) hx hb dL_dough_1 (by decide) ?_
  refine lv_aload_n hx hb dL_dough_2 rfl (lv_at hl 0 rfl) ?_
  refine lv_iload_n hx hb dL_dough_3 rfl (lv_at hl 1 rfl) ?_
  refine lv_iload_n hx hb dL_dough_4 rfl (lv_at hl 2 rfl) ?_
  refine vx_calli (vx_runV (As := [.int a1, .int a2]) (rest := [.int 0, .ref (xa X 323)]) ⟨hx, hb, hml, hown, hts⟩ (k8_dough l hst (Y := Y) hX (ul w 1 z) hf) (cwV 2 hts gL_dough_X8_dough rfl rfl rfl (by decide +kernel) ⟨by rw [hR1]; exact Nat.le_of_ble_eq_true rfl, by rw [hR2]; exact Nat.le_of_ble_eq_true rfl⟩) ⟨w_blindS, w_recv hP hK (by decide) emb_bt rfl, w_preS hP hK hG hS⟩ rfl rfl hl.1 rfl (Nat.le_of_ble_eq_true rfl) dL_dough_5 ⟨by rw [hR3]; exact Nat.le_of_ble_eq_true rfl, by rw [hR4]; exact Nat.le_of_ble_eq_true rfl⟩) hS (fun _ _ h => h) (fun _ h => h) (fun _ _ h => h) (fun E ce q9 u t H1 locs1 ht hvm hpx hB _ _ hS1 hce hcv hcl => ?_) (fun r u t H1 locs1 ht hvm hp hB _ _ hS1 => ?_)
  · obtain ⟨rfl, hB⟩ := hB
    have hP1 : HW X (pbt (ul w 1 z) f0 g0 c0 y0 o0) H1 := by rw [← ht]; exact hB.1
    rcases hcd with rfl | rfl | rfl
    · exact absurd rfl hpx
    · refine vx_catch (E := exn 1) (name := "java/lang/IndexOutOfBoundsException") hown [] ⟨0, 10, 13, 25⟩ [⟨0, 10, 17, 13⟩] (by rw [htab]; rfl) (fun z hz => nomatch hz) (by decide) (by decide) (hts (.classLink RL 25 "java/lang/IndexOutOfBoundsException") (by decide +kernel)) (cA.use rfl) hce hcv hcl ?_
      refine lv_astore (lv' := [(4, .ref q9), (0, .ref (xa X 306)), (1, .int a1), (2, .int a2), (3, .ref (xa X 323))]) hx hb dL_dough_13 hl (by decide) rfl (fun ls hl => ?_)
      refine lv_iconst (v := 1) hx hb dL_dough_15 (by decide) ?_
      exact W.iret hx hb hr (fun t ht hW => ⟨⟨_, (), rfl, rfl, by show HW X _ t.heap; rw [ht]; exact hP1, va_K.moved hW.alike hK⟩, hS1.F ht⟩) hS1.2.2 dL_dough_16 hlocks
    · refine vx_catch (E := exn 2) (name := "java/lang/IllegalArgumentException") hown [⟨0, 10, 13, 25⟩] ⟨0, 10, 17, 13⟩ [] (by rw [htab]; rfl) (fun z hz => by
        simp only [List.mem_cons, List.not_mem_nil, or_false] at hz
        subst hz
        exact Or.inr ⟨Nat.ne_of_gt (Nat.le_of_ble_eq_true rfl), "java/lang/IndexOutOfBoundsException", hts (.classLink RL 25 "java/lang/IndexOutOfBoundsException") (by decide +kernel), n1⟩) (by decide) (by decide) (hts (.classLink RL 13 "java/lang/IllegalArgumentException") (by decide +kernel)) (cB.use rfl) hce hcv hcl ?_
      refine lv_astore (lv' := [(4, .ref q9), (0, .ref (xa X 306)), (1, .int a1), (2, .int a2), (3, .ref (xa X 323))]) hx hb dL_dough_17 hl (by decide) rfl (fun ls hl => ?_)
      refine lv_iconst (v := 2) hx hb dL_dough_19 (by decide) ?_
      exact W.iret hx hb hr (fun t ht hW => ⟨⟨_, (), rfl, rfl, by show HW X _ t.heap; rw [ht]; exact hP1, va_K.moved hW.alike hK⟩, hS1.F ht⟩) hS1.2.2 dL_dough_20 hlocks
  · obtain ⟨hc0, hrr⟩ := hp
    subst hc0
    subst hrr
    have hP1 : HW X (pbt (ul w 1 z) f0 g0 c0 y0 o0) H1 := by rw [← ht]; exact hB.1
    refine lv_i2l hx hb dL_dough_8 rfl ?_
    refine ar_last (gl := z) hx hb hX AR_out pbt_z (fun z1 => pbt (ul w 1 z1) f0 g0 c0 y0 o0) (fun z1 => pbt_out) hP1 hK hS1 (vp_in_nI (n := 0) (by decide) (by decide)) dL_dough_9 (fun z1 ez1 H locs hP hS => ?_)
    refine lv_goto (tgt := 21) hx hb dL_dough_10 (by decide) ?_
    refine lv_iconst (v := 0) hx hb dL_dough_21 (by decide) ?_
    rw [ez1] at hP
    exact W.iret hx hb hr (fun t ht hW => ⟨⟨_, (), rfl, rfl, by show HW X _ t.heap; rw [ht]; exact hP, va_K.moved hW.alike hK⟩, hS.F ht⟩) hS.2.2 dL_dough_22 hlocks
abbrev rmL_place : Room := { frames := 8, cells := 1, slots := 6, locals := 124 }
set_option maxRecDepth 20000 in
theorem iL_place_tab : Cond.codeWith yL_place cL_place 5 (some .int) [(0, 10, 13, 25), (0, 10, 17, 13)] ∈ wsL_place := List.mem_cons_self
set_option maxHeartbeats 4000000 in
set_option maxRecDepth 100000 in
theorem kL_place (l : Launch) (hst : l.stackTraces = false) {X : bkX} {Y : bkY} {b0 : Nat} (hX : XO X b0) (w : bkW) {f0 : bkA} {g0 : bkA} {c0 : bkA} {y0 : Nat → bkA} {o0 : Nat → Int32} {a1 : Int32} {a2 : Int32} {code9 res9 : Int32} {z : Nat → Int64} (hf : m8_place f0 a1 a2 = some (code9, res9)) (hcd : code9 = 0 ∨ code9 = 1 ∨ code9 = 2) : Met l yL_place wsL_place rmL_place (va_Pc [.ref (xa X 306), .int a1, .int a2, .ref (xa X 323)] (WS X Y b0 (pbt (ul w 1 z) f0 g0 c0 y0 o0))) (va_Qi (fun r' (_ : Unit) => r' = (if code9 = 0 then (0 : Int32) else if code9 = 1 then 1 else 2)) (fun _ t => WU X (pbt (ul w 1 (if code9 = 0 then vp_updL z 0 res9.toInt64 else z)) f0 g0 c0 y0 o0) t) (xF b0)) 1 6 (xF b0) := by
  refine Met.ofWH (cc := cL_place) (maxL := 5) (ret := some .int) (hh := [(0, 10, 13, 25), (0, 10, 17, 13)]) (by decide) rfl ?_
  intro p e s m args below meth c s₁ B hml hv
  obtain ⟨ha, ⟨hP, hK⟩, hG⟩ := hv
  have hx := B.exec
  have hb := B.bytes
  have hr := B.returns
  have hts := atoms_spec (ws := wsL_place) B.pre
  have htab := vx_table (x := yL_place) B (hts _ iL_place_tab)
  have hown : s.vm.findClass RL = some m.cls := findClass_of_methodNamed B.named
  have hlocks := B.notSynchronized
  obtain ⟨R, hR⟩ : ∃ R, R = (headSpec wsL_place rmL_place).room := ⟨_, rfl⟩
  rw [← hR]
  have hR1 : R.frames = 8 := by rw [hR]; rfl
  have hR2 : R.locals = 124 := by rw [hR]; rfl
  have hR3 : R.cells = 1 := by rw [hR]; rfl
  have hR4 : R.slots = 6 := by rw [hR]; rfl
  have hS : va_S (xF b0) s.heap s.heap [] := va_S.rf
  have hl := lv_entry ([.ref (xa X 306), .int a1, .int a2, .ref (xa X 323)]) (n := 5) (Nat.le_of_ble_eq_true rfl)
  refine W.eq ((congrArg (fun z => entryFrame m z 5) ha).trans (lg_entry_eq m _ 5)) ?_
  generalize (lg_sl ([.ref (xa X 306), .int a1, .int a2, .ref (xa X 323)]) ++ List.replicate (5 - (lg_sl ([.ref (xa X 306), .int a1, .int a2, .ref (xa X 323)])).length) Slot.unset).toArray = ls at hl ⊢
  have hl : lv_has ls 5 [(0, .ref (xa X 306)), (1, .int a1), (2, .int a2), (3, .ref (xa X 323))] := hl
  obtain ⟨-, -, -, -, -, -, -, ⟨⟨cA, cB, cC⟩, -, n1, n2, n3, n4, n5, n6⟩⟩ := id hG
  refine lv_aload_n hx hb dL_place_0 rfl (lv_at hl 3 rfl) ?_
  refine lv_iconst (v := 0) hx hb dL_place_1 (by decide) ?_
  refine lv_aload_n hx hb dL_place_2 rfl (lv_at hl 0 rfl) ?_
  refine lv_iload_n hx hb dL_place_3 rfl (lv_at hl 1 rfl) ?_
  refine lv_iload_n hx hb dL_place_4 rfl (lv_at hl 2 rfl) ?_
  refine vx_calli (vx_runV (As := [.int a1, .int a2]) (rest := [.int 0, .ref (xa X 323)]) ⟨hx, hb, hml, hown, hts⟩ (k8_place l hst (Y := Y) hX (ul w 1 z) hf) (cwV 2 hts gL_place_X8_place rfl rfl rfl (by decide +kernel) ⟨by rw [hR1]; exact Nat.le_of_ble_eq_true rfl, by rw [hR2]; exact Nat.le_of_ble_eq_true rfl⟩) ⟨w_blindS, w_recv hP hK (by decide) emb_bt rfl, w_preS hP hK hG hS⟩ rfl rfl hl.1 rfl (Nat.le_of_ble_eq_true rfl) dL_place_5 ⟨by rw [hR3]; exact Nat.le_of_ble_eq_true rfl, by rw [hR4]; exact Nat.le_of_ble_eq_true rfl⟩) hS (fun _ _ h => h) (fun _ h => h) (fun _ _ h => h) (fun E ce q9 u t H1 locs1 ht hvm hpx hB _ _ hS1 hce hcv hcl => ?_) (fun r u t H1 locs1 ht hvm hp hB _ _ hS1 => ?_)
  · obtain ⟨rfl, hB⟩ := hB
    have hP1 : HW X (pbt (ul w 1 z) f0 g0 c0 y0 o0) H1 := by rw [← ht]; exact hB.1
    rcases hcd with rfl | rfl | rfl
    · exact absurd rfl hpx
    · refine vx_catch (E := exn 1) (name := "java/lang/IndexOutOfBoundsException") hown [] ⟨0, 10, 13, 25⟩ [⟨0, 10, 17, 13⟩] (by rw [htab]; rfl) (fun z hz => nomatch hz) (by decide) (by decide) (hts (.classLink RL 25 "java/lang/IndexOutOfBoundsException") (by decide +kernel)) (cA.use rfl) hce hcv hcl ?_
      refine lv_astore (lv' := [(4, .ref q9), (0, .ref (xa X 306)), (1, .int a1), (2, .int a2), (3, .ref (xa X 323))]) hx hb dL_place_13 hl (by decide) rfl (fun ls hl => ?_)
      refine lv_iconst (v := 1) hx hb dL_place_15 (by decide) ?_
      exact W.iret hx hb hr (fun t ht hW => ⟨⟨_, (), rfl, rfl, by show HW X _ t.heap; rw [ht]; exact hP1, va_K.moved hW.alike hK⟩, hS1.F ht⟩) hS1.2.2 dL_place_16 hlocks
    · refine vx_catch (E := exn 2) (name := "java/lang/IllegalArgumentException") hown [⟨0, 10, 13, 25⟩] ⟨0, 10, 17, 13⟩ [] (by rw [htab]; rfl) (fun z hz => by
        simp only [List.mem_cons, List.not_mem_nil, or_false] at hz
        subst hz
        exact Or.inr ⟨Nat.ne_of_gt (Nat.le_of_ble_eq_true rfl), "java/lang/IndexOutOfBoundsException", hts (.classLink RL 25 "java/lang/IndexOutOfBoundsException") (by decide +kernel), n1⟩) (by decide) (by decide) (hts (.classLink RL 13 "java/lang/IllegalArgumentException") (by decide +kernel)) (cB.use rfl) hce hcv hcl ?_
      refine lv_astore (lv' := [(4, .ref q9), (0, .ref (xa X 306)), (1, .int a1), (2, .int a2), (3, .ref (xa X 323))]) hx hb dL_place_17 hl (by decide) rfl (fun ls hl => ?_)
      refine lv_iconst (v := 2) hx hb dL_place_19 (by decide) ?_
      exact W.iret hx hb hr (fun t ht hW => ⟨⟨_, (), rfl, rfl, by show HW X _ t.heap; rw [ht]; exact hP1, va_K.moved hW.alike hK⟩, hS1.F ht⟩) hS1.2.2 dL_place_20 hlocks
  · obtain ⟨hc0, hrr⟩ := hp
    subst hc0
    subst hrr
    have hP1 : HW X (pbt (ul w 1 z) f0 g0 c0 y0 o0) H1 := by rw [← ht]; exact hB.1
    refine lv_i2l hx hb dL_place_8 rfl ?_
    refine ar_last (gl := z) hx hb hX AR_out pbt_z (fun z1 => pbt (ul w 1 z1) f0 g0 c0 y0 o0) (fun z1 => pbt_out) hP1 hK hS1 (vp_in_nI (n := 0) (by decide) (by decide)) dL_place_9 (fun z1 ez1 H locs hP hS => ?_)
    refine lv_goto (tgt := 21) hx hb dL_place_10 (by decide) ?_
    refine lv_iconst (v := 0) hx hb dL_place_21 (by decide) ?_
    rw [ez1] at hP
    exact W.iret hx hb hr (fun t ht hW => ⟨⟨_, (), rfl, rfl, by show HW X _ t.heap; rw [ht]; exact hP, va_K.moved hW.alike hK⟩, hS.F ht⟩) hS.2.2 dL_place_22 hlocks
abbrev rmL_whole : Room := { frames := 8, cells := 1, slots := 6, locals := 127 }
set_option maxRecDepth 20000 in
theorem iL_whole_tab : Cond.codeWith yL_whole cL_whole 4 (some .int) [(0, 9, 12, 13)] ∈ wsL_whole := List.mem_cons_self
set_option maxHeartbeats 4000000 in
set_option maxRecDepth 100000 in
theorem kL_whole (l : Launch) (hst : l.stackTraces = false) {X : bkX} {Y : bkY} {b0 : Nat} (hX : XO X b0) (w : bkW) {N : Nat} {f0 : bkA} {g0 : bkA} {c0 : bkA} {y0 : Nat → bkA} {o0 : Nat → Int32} {a1 : Int32} {code9 res9 : Int32} {z : Nat → Int64} (hf : m8_whole N f0 c0 a1 = some (code9, res9)) (hcd : code9 = 0 ∨ code9 = 2) : Met l yL_whole wsL_whole rmL_whole (va_Pc [.ref (xa X 306), .int a1, .ref (xa X 323)] (WS X Y b0 (pbt (ul w 1 z) f0 g0 c0 y0 o0))) (va_Qi (fun r' (_ : Unit) => r' = (if code9 = 0 then (0 : Int32) else 1)) (fun _ t => WU X (pbt (ul w 1 (if code9 = 0 then vp_updL z 0 res9.toInt64 else z)) f0 g0 c0 y0 o0) t) (xF b0)) 1 6 (xF b0) := by
  refine Met.ofWH (cc := cL_whole) (maxL := 4) (ret := some .int) (hh := [(0, 9, 12, 13)]) (by decide) rfl ?_
  intro p e s m args below meth c s₁ B hml hv
  obtain ⟨ha, ⟨hP, hK⟩, hG⟩ := hv
  have hx := B.exec
  have hb := B.bytes
  have hr := B.returns
  have hts := atoms_spec (ws := wsL_whole) B.pre
  have htab := vx_table (x := yL_whole) B (hts _ iL_whole_tab)
  have hown : s.vm.findClass RL = some m.cls := findClass_of_methodNamed B.named
  have hlocks := B.notSynchronized
  obtain ⟨R, hR⟩ : ∃ R, R = (headSpec wsL_whole rmL_whole).room := ⟨_, rfl⟩
  rw [← hR]
  have hR1 : R.frames = 8 := by rw [hR]; rfl
  have hR2 : R.locals = 127 := by rw [hR]; rfl
  have hR3 : R.cells = 1 := by rw [hR]; rfl
  have hR4 : R.slots = 6 := by rw [hR]; rfl
  have hS : va_S (xF b0) s.heap s.heap [] := va_S.rf
  have hl := lv_entry ([.ref (xa X 306), .int a1, .ref (xa X 323)]) (n := 4) (Nat.le_of_ble_eq_true rfl)
  refine W.eq ((congrArg (fun z => entryFrame m z 4) ha).trans (lg_entry_eq m _ 4)) ?_
  generalize (lg_sl ([.ref (xa X 306), .int a1, .ref (xa X 323)]) ++ List.replicate (4 - (lg_sl ([.ref (xa X 306), .int a1, .ref (xa X 323)])).length) Slot.unset).toArray = ls at hl ⊢
  have hl : lv_has ls 4 [(0, .ref (xa X 306)), (1, .int a1), (2, .ref (xa X 323))] := hl
  obtain ⟨-, -, -, -, -, -, -, ⟨⟨cA, cB, cC⟩, -, n1, n2, n3, n4, n5, n6⟩⟩ := id hG
  refine lv_aload_n hx hb dL_whole_0 rfl (lv_at hl 2 rfl) ?_
  refine lv_iconst (v := 0) hx hb dL_whole_1 (by decide) ?_
  refine lv_aload_n hx hb dL_whole_2 rfl (lv_at hl 0 rfl) ?_
  refine lv_iload_n hx hb dL_whole_3 rfl (lv_at hl 1 rfl) ?_
  refine vx_calli (vx_runV (As := [.int a1]) (rest := [.int 0, .ref (xa X 323)]) ⟨hx, hb, hml, hown, hts⟩ (k8_whole l hst (Y := Y) hX (ul w 1 z) hf) (cwV 1 hts gL_whole_X8_whole rfl rfl rfl (by decide +kernel) ⟨by rw [hR1]; exact Nat.le_of_ble_eq_true rfl, by rw [hR2]; exact Nat.le_of_ble_eq_true rfl⟩) ⟨w_blindS, w_recv hP hK (by decide) emb_bt rfl, w_preS hP hK hG hS⟩ rfl rfl hl.1 rfl (Nat.le_of_ble_eq_true rfl) dL_whole_4 ⟨by rw [hR3]; exact Nat.le_of_ble_eq_true rfl, by rw [hR4]; exact Nat.le_of_ble_eq_true rfl⟩) hS (fun _ _ h => h) (fun _ h => h) (fun _ _ h => h) (fun E ce q9 u t H1 locs1 ht hvm hpx hB _ _ hS1 hce hcv hcl => ?_) (fun r u t H1 locs1 ht hvm hp hB _ _ hS1 => ?_)
  · obtain ⟨rfl, hB⟩ := hB
    have hP1 : HW X (pbt (ul w 1 z) f0 g0 c0 y0 o0) H1 := by rw [← ht]; exact hB.1
    rcases hcd with rfl | rfl
    · exact absurd rfl hpx
    · refine vx_catch (E := exn 2) (name := "java/lang/IllegalArgumentException") hown [] ⟨0, 9, 12, 13⟩ [] (by rw [htab]; rfl) (fun z hz => nomatch hz) (by decide) (by decide) (hts (.classLink RL 13 "java/lang/IllegalArgumentException") (by decide +kernel)) (cB.use rfl) hce hcv hcl ?_
      refine lv_astore_n (lv' := [(3, .ref q9), (0, .ref (xa X 306)), (1, .int a1), (2, .ref (xa X 323))]) hx hb dL_whole_12 rfl hl (by decide) rfl (fun ls hl => ?_)
      refine lv_iconst (v := 1) hx hb dL_whole_13 (by decide) ?_
      exact W.iret hx hb hr (fun t ht hW => ⟨⟨_, (), rfl, rfl, by show HW X _ t.heap; rw [ht]; exact hP1, va_K.moved hW.alike hK⟩, hS1.F ht⟩) hS1.2.2 dL_whole_14 hlocks
  · obtain ⟨hc0, hrr⟩ := hp
    subst hc0
    subst hrr
    have hP1 : HW X (pbt (ul w 1 z) f0 g0 c0 y0 o0) H1 := by rw [← ht]; exact hB.1
    refine lv_i2l hx hb dL_whole_7 rfl ?_
    refine ar_last (gl := z) hx hb hX AR_out pbt_z (fun z1 => pbt (ul w 1 z1) f0 g0 c0 y0 o0) (fun z1 => pbt_out) hP1 hK hS1 (vp_in_nI (n := 0) (by decide) (by decide)) dL_whole_8 (fun z1 ez1 H locs hP hS => ?_)
    refine lv_goto (tgt := 15) hx hb dL_whole_9 (by decide) ?_
    refine lv_iconst (v := 0) hx hb dL_whole_15 (by decide) ?_
    rw [ez1] at hP
    exact W.iret hx hb hr (fun t ht hW => ⟨⟨_, (), rfl, rfl, by show HW X _ t.heap; rw [ht]; exact hP, va_K.moved hW.alike hK⟩, hS.F ht⟩) hS.2.2 dL_whole_16 hlocks
abbrev rmL_line : Room := { frames := 8, cells := 1, slots := 6, locals := 123 }
set_option maxRecDepth 20000 in
theorem iL_line_tab : Cond.codeWith yL_line cL_line 4 (some .int) [(0, 9, 12, 13)] ∈ wsL_line := List.mem_cons_self
set_option maxHeartbeats 4000000 in
set_option maxRecDepth 100000 in
theorem kL_line (l : Launch) (hst : l.stackTraces = false) {X : bkX} {Y : bkY} {b0 : Nat} (hX : XO X b0) (w : bkW) {f0 : bkA} {g0 : bkA} {c0 : bkA} {y0 : Nat → bkA} {o0 : Nat → Int32} {a1 : Int32} {code9 res9 : Int32} {z : Nat → Int64} (hf : m8_line f0 a1 = some (code9, res9)) (hcd : code9 = 0 ∨ code9 = 2) : Met l yL_line wsL_line rmL_line (va_Pc [.ref (xa X 306), .int a1, .ref (xa X 323)] (WS X Y b0 (pbt (ul w 1 z) f0 g0 c0 y0 o0))) (va_Qi (fun r' (_ : Unit) => r' = (if code9 = 0 then (0 : Int32) else 1)) (fun _ t => WU X (pbt (ul w 1 (if code9 = 0 then vp_updL z 0 res9.toInt64 else z)) f0 g0 c0 y0 o0) t) (xF b0)) 1 6 (xF b0) := by
  refine Met.ofWH (cc := cL_line) (maxL := 4) (ret := some .int) (hh := [(0, 9, 12, 13)]) (by decide) rfl ?_
  intro p e s m args below meth c s₁ B hml hv
  obtain ⟨ha, ⟨hP, hK⟩, hG⟩ := hv
  have hx := B.exec
  have hb := B.bytes
  have hr := B.returns
  have hts := atoms_spec (ws := wsL_line) B.pre
  have htab := vx_table (x := yL_line) B (hts _ iL_line_tab)
  have hown : s.vm.findClass RL = some m.cls := findClass_of_methodNamed B.named
  have hlocks := B.notSynchronized
  obtain ⟨R, hR⟩ : ∃ R, R = (headSpec wsL_line rmL_line).room := ⟨_, rfl⟩
  rw [← hR]
  have hR1 : R.frames = 8 := by rw [hR]; rfl
  have hR2 : R.locals = 123 := by rw [hR]; rfl
  have hR3 : R.cells = 1 := by rw [hR]; rfl
  have hR4 : R.slots = 6 := by rw [hR]; rfl
  have hS : va_S (xF b0) s.heap s.heap [] := va_S.rf
  have hl := lv_entry ([.ref (xa X 306), .int a1, .ref (xa X 323)]) (n := 4) (Nat.le_of_ble_eq_true rfl)
  refine W.eq ((congrArg (fun z => entryFrame m z 4) ha).trans (lg_entry_eq m _ 4)) ?_
  generalize (lg_sl ([.ref (xa X 306), .int a1, .ref (xa X 323)]) ++ List.replicate (4 - (lg_sl ([.ref (xa X 306), .int a1, .ref (xa X 323)])).length) Slot.unset).toArray = ls at hl ⊢
  have hl : lv_has ls 4 [(0, .ref (xa X 306)), (1, .int a1), (2, .ref (xa X 323))] := hl
  obtain ⟨-, -, -, -, -, -, -, ⟨⟨cA, cB, cC⟩, -, n1, n2, n3, n4, n5, n6⟩⟩ := id hG
  refine lv_aload_n hx hb dL_line_0 rfl (lv_at hl 2 rfl) ?_
  refine lv_iconst (v := 0) hx hb dL_line_1 (by decide) ?_
  refine lv_aload_n hx hb dL_line_2 rfl (lv_at hl 0 rfl) ?_
  refine lv_iload_n hx hb dL_line_3 rfl (lv_at hl 1 rfl) ?_
  refine vx_calli (vx_runV (As := [.int a1]) (rest := [.int 0, .ref (xa X 323)]) ⟨hx, hb, hml, hown, hts⟩ (k8_line l hst (Y := Y) hX (ul w 1 z) hf) (cwV 1 hts gL_line_X8_line rfl rfl rfl (by decide +kernel) ⟨by rw [hR1]; exact Nat.le_of_ble_eq_true rfl, by rw [hR2]; exact Nat.le_of_ble_eq_true rfl⟩) ⟨w_blindS, w_recv hP hK (by decide) emb_bt rfl, w_preS hP hK hG hS⟩ rfl rfl hl.1 rfl (Nat.le_of_ble_eq_true rfl) dL_line_4 ⟨by rw [hR3]; exact Nat.le_of_ble_eq_true rfl, by rw [hR4]; exact Nat.le_of_ble_eq_true rfl⟩) hS (fun _ _ h => h) (fun _ h => h) (fun _ _ h => h) (fun E ce q9 u t H1 locs1 ht hvm hpx hB _ _ hS1 hce hcv hcl => ?_) (fun r u t H1 locs1 ht hvm hp hB _ _ hS1 => ?_)
  · obtain ⟨rfl, hB⟩ := hB
    have hP1 : HW X (pbt (ul w 1 z) f0 g0 c0 y0 o0) H1 := by rw [← ht]; exact hB.1
    rcases hcd with rfl | rfl
    · exact absurd rfl hpx
    · refine vx_catch (E := exn 2) (name := "java/lang/IllegalArgumentException") hown [] ⟨0, 9, 12, 13⟩ [] (by rw [htab]; rfl) (fun z hz => nomatch hz) (by decide) (by decide) (hts (.classLink RL 13 "java/lang/IllegalArgumentException") (by decide +kernel)) (cB.use rfl) hce hcv hcl ?_
      refine lv_astore_n (lv' := [(3, .ref q9), (0, .ref (xa X 306)), (1, .int a1), (2, .ref (xa X 323))]) hx hb dL_line_12 rfl hl (by decide) rfl (fun ls hl => ?_)
      refine lv_iconst (v := 1) hx hb dL_line_13 (by decide) ?_
      exact W.iret hx hb hr (fun t ht hW => ⟨⟨_, (), rfl, rfl, by show HW X _ t.heap; rw [ht]; exact hP1, va_K.moved hW.alike hK⟩, hS1.F ht⟩) hS1.2.2 dL_line_14 hlocks
  · obtain ⟨hc0, hrr⟩ := hp
    subst hc0
    subst hrr
    have hP1 : HW X (pbt (ul w 1 z) f0 g0 c0 y0 o0) H1 := by rw [← ht]; exact hB.1
    refine lv_i2l hx hb dL_line_7 rfl ?_
    refine ar_last (gl := z) hx hb hX AR_out pbt_z (fun z1 => pbt (ul w 1 z1) f0 g0 c0 y0 o0) (fun z1 => pbt_out) hP1 hK hS1 (vp_in_nI (n := 0) (by decide) (by decide)) dL_line_8 (fun z1 ez1 H locs hP hS => ?_)
    refine lv_goto (tgt := 15) hx hb dL_line_9 (by decide) ?_
    refine lv_iconst (v := 0) hx hb dL_line_15 (by decide) ?_
    rw [ez1] at hP
    exact W.iret hx hb hr (fun t ht hW => ⟨⟨_, (), rfl, rfl, by show HW X _ t.heap; rw [ht]; exact hP, va_K.moved hW.alike hK⟩, hS.F ht⟩) hS.2.2 dL_line_16 hlocks
abbrev rmL_reason : Room := { frames := 8, cells := 1, slots := 6, locals := 123 }
set_option maxRecDepth 20000 in
theorem iL_reason_tab : Cond.codeWith yL_reason cL_reason 4 (some .int) [(0, 9, 12, 25)] ∈ wsL_reason := List.mem_cons_self
set_option maxHeartbeats 4000000 in
set_option maxRecDepth 100000 in
theorem kL_reason (l : Launch) (hst : l.stackTraces = false) {X : bkX} {Y : bkY} {b0 : Nat} (hX : XO X b0) (w : bkW) {N : Nat} {f0 : bkA} {g0 : bkA} {c0 : bkA} {y0 : Nat → bkA} {o0 : Nat → Int32} {a1 : Int32} {code9 res9 : Int32} {z : Nat → Int64} (hf : m8_reason N f0 a1 = some (code9, res9)) (hcd : code9 = 0 ∨ code9 = 1) : Met l yL_reason wsL_reason rmL_reason (va_Pc [.ref (xa X 306), .int a1, .ref (xa X 323)] (WS X Y b0 (pbt (ul w 1 z) f0 g0 c0 y0 o0))) (va_Qi (fun r' (_ : Unit) => r' = (if code9 = 0 then (0 : Int32) else 1)) (fun _ t => WU X (pbt (ul w 1 (if code9 = 0 then vp_updL z 0 res9.toInt64 else z)) f0 g0 c0 y0 o0) t) (xF b0)) 1 6 (xF b0) := by
  refine Met.ofWH (cc := cL_reason) (maxL := 4) (ret := some .int) (hh := [(0, 9, 12, 25)]) (by decide) rfl ?_
  intro p e s m args below meth c s₁ B hml hv
  obtain ⟨ha, ⟨hP, hK⟩, hG⟩ := hv
  have hx := B.exec
  have hb := B.bytes
  have hr := B.returns
  have hts := atoms_spec (ws := wsL_reason) B.pre
  have htab := vx_table (x := yL_reason) B (hts _ iL_reason_tab)
  have hown : s.vm.findClass RL = some m.cls := findClass_of_methodNamed B.named
  have hlocks := B.notSynchronized
  obtain ⟨R, hR⟩ : ∃ R, R = (headSpec wsL_reason rmL_reason).room := ⟨_, rfl⟩
  rw [← hR]
  have hR1 : R.frames = 8 := by rw [hR]; rfl
  have hR2 : R.locals = 123 := by rw [hR]; rfl
  have hR3 : R.cells = 1 := by rw [hR]; rfl
  have hR4 : R.slots = 6 := by rw [hR]; rfl
  have hS : va_S (xF b0) s.heap s.heap [] := va_S.rf
  have hl := lv_entry ([.ref (xa X 306), .int a1, .ref (xa X 323)]) (n := 4) (Nat.le_of_ble_eq_true rfl)
  refine W.eq ((congrArg (fun z => entryFrame m z 4) ha).trans (lg_entry_eq m _ 4)) ?_
  generalize (lg_sl ([.ref (xa X 306), .int a1, .ref (xa X 323)]) ++ List.replicate (4 - (lg_sl ([.ref (xa X 306), .int a1, .ref (xa X 323)])).length) Slot.unset).toArray = ls at hl ⊢
  have hl : lv_has ls 4 [(0, .ref (xa X 306)), (1, .int a1), (2, .ref (xa X 323))] := hl
  obtain ⟨-, -, -, -, -, -, -, ⟨⟨cA, cB, cC⟩, -, n1, n2, n3, n4, n5, n6⟩⟩ := id hG
  refine lv_aload_n hx hb dL_reason_0 rfl (lv_at hl 2 rfl) ?_
  refine lv_iconst (v := 0) hx hb dL_reason_1 (by decide) ?_
  refine lv_aload_n hx hb dL_reason_2 rfl (lv_at hl 0 rfl) ?_
  refine lv_iload_n hx hb dL_reason_3 rfl (lv_at hl 1 rfl) ?_
  refine vx_calli (vx_runV (As := [.int a1]) (rest := [.int 0, .ref (xa X 323)]) ⟨hx, hb, hml, hown, hts⟩ (k8_reason l hst (Y := Y) hX (ul w 1 z) hf) (cwV 1 hts gL_reason_X8_reason rfl rfl rfl (by decide +kernel) ⟨by rw [hR1]; exact Nat.le_of_ble_eq_true rfl, by rw [hR2]; exact Nat.le_of_ble_eq_true rfl⟩) ⟨w_blindS, w_recv hP hK (by decide) emb_bt rfl, w_preS hP hK hG hS⟩ rfl rfl hl.1 rfl (Nat.le_of_ble_eq_true rfl) dL_reason_4 ⟨by rw [hR3]; exact Nat.le_of_ble_eq_true rfl, by rw [hR4]; exact Nat.le_of_ble_eq_true rfl⟩) hS (fun _ _ h => h) (fun _ h => h) (fun _ _ h => h) (fun E ce q9 u t H1 locs1 ht hvm hpx hB _ _ hS1 hce hcv hcl => ?_) (fun r u t H1 locs1 ht hvm hp hB _ _ hS1 => ?_)
  · obtain ⟨rfl, hB⟩ := hB
    have hP1 : HW X (pbt (ul w 1 z) f0 g0 c0 y0 o0) H1 := by rw [← ht]; exact hB.1
    rcases hcd with rfl | rfl
    · exact absurd rfl hpx
    · refine vx_catch (E := exn 1) (name := "java/lang/IndexOutOfBoundsException") hown [] ⟨0, 9, 12, 25⟩ [] (by rw [htab]; rfl) (fun z hz => nomatch hz) (by decide) (by decide) (hts (.classLink RL 25 "java/lang/IndexOutOfBoundsException") (by decide +kernel)) (cA.use rfl) hce hcv hcl ?_
      refine lv_astore_n (lv' := [(3, .ref q9), (0, .ref (xa X 306)), (1, .int a1), (2, .ref (xa X 323))]) hx hb dL_reason_12 rfl hl (by decide) rfl (fun ls hl => ?_)
      refine lv_iconst (v := 1) hx hb dL_reason_13 (by decide) ?_
      exact W.iret hx hb hr (fun t ht hW => ⟨⟨_, (), rfl, rfl, by show HW X _ t.heap; rw [ht]; exact hP1, va_K.moved hW.alike hK⟩, hS1.F ht⟩) hS1.2.2 dL_reason_14 hlocks
  · obtain ⟨hc0, hrr⟩ := hp
    subst hc0
    subst hrr
    have hP1 : HW X (pbt (ul w 1 z) f0 g0 c0 y0 o0) H1 := by rw [← ht]; exact hB.1
    refine lv_i2l hx hb dL_reason_7 rfl ?_
    refine ar_last (gl := z) hx hb hX AR_out pbt_z (fun z1 => pbt (ul w 1 z1) f0 g0 c0 y0 o0) (fun z1 => pbt_out) hP1 hK hS1 (vp_in_nI (n := 0) (by decide) (by decide)) dL_reason_8 (fun z1 ez1 H locs hP hS => ?_)
    refine lv_goto (tgt := 15) hx hb dL_reason_9 (by decide) ?_
    refine lv_iconst (v := 0) hx hb dL_reason_15 (by decide) ?_
    rw [ez1] at hP
    exact W.iret hx hb hr (fun t ht hW => ⟨⟨_, (), rfl, rfl, by show HW X _ t.heap; rw [ht]; exact hP, va_K.moved hW.alike hK⟩, hS.F ht⟩) hS.2.2 dL_reason_16 hlocks
abbrev rmL_loadedIn : Room := { frames := 8, cells := 1, slots := 6, locals := 145 }
set_option maxRecDepth 20000 in
theorem iL_loadedIn_tab : Cond.codeWith yL_loadedIn cL_loadedIn 4 (some .int) [(0, 9, 12, 25)] ∈ wsL_loadedIn := List.mem_cons_self
set_option maxHeartbeats 4000000 in
set_option maxRecDepth 100000 in
theorem kL_loadedIn (l : Launch) (hst : l.stackTraces = false) {X : bkX} {Y : bkY} {b0 : Nat} (hX : XO X b0) (w : bkW) {N : Nat} {f0 : bkA} {g0 : bkA} {c0 : bkA} {y0 : Nat → bkA} {o0 : Nat → Int32} {a1 : Int32} {code9 res9 : Int32} {g9 : bkA} {z : Nat → Int64} (hf : m8_loadedIn N f0 g0 a1 = some (code9, res9, g9)) (hcd : code9 = 0 ∨ code9 = 1) : Met l yL_loadedIn wsL_loadedIn rmL_loadedIn (va_Pc [.ref (xa X 306), .int a1, .ref (xa X 323)] (WS X Y b0 (pbt (ul w 1 z) f0 g0 c0 y0 o0))) (va_Qi (fun r' (_ : Unit) => r' = (if code9 = 0 then (0 : Int32) else 1)) (fun _ t => WU X (pbt (ul w 1 (if code9 = 0 then vp_updL z 0 res9.toInt64 else z)) f0 g9 c0 y0 o0) t) (xF b0)) 1 6 (xF b0) := by
  refine Met.ofWH (cc := cL_loadedIn) (maxL := 4) (ret := some .int) (hh := [(0, 9, 12, 25)]) (by decide) rfl ?_
  intro p e s m args below meth c s₁ B hml hv
  obtain ⟨ha, ⟨hP, hK⟩, hG⟩ := hv
  have hx := B.exec
  have hb := B.bytes
  have hr := B.returns
  have hts := atoms_spec (ws := wsL_loadedIn) B.pre
  have htab := vx_table (x := yL_loadedIn) B (hts _ iL_loadedIn_tab)
  have hown : s.vm.findClass RL = some m.cls := findClass_of_methodNamed B.named
  have hlocks := B.notSynchronized
  obtain ⟨R, hR⟩ : ∃ R, R = (headSpec wsL_loadedIn rmL_loadedIn).room := ⟨_, rfl⟩
  rw [← hR]
  have hR1 : R.frames = 8 := by rw [hR]; rfl
  have hR2 : R.locals = 145 := by rw [hR]; rfl
  have hR3 : R.cells = 1 := by rw [hR]; rfl
  have hR4 : R.slots = 6 := by rw [hR]; rfl
  have hS : va_S (xF b0) s.heap s.heap [] := va_S.rf
  have hl := lv_entry ([.ref (xa X 306), .int a1, .ref (xa X 323)]) (n := 4) (Nat.le_of_ble_eq_true rfl)
  refine W.eq ((congrArg (fun z => entryFrame m z 4) ha).trans (lg_entry_eq m _ 4)) ?_
  generalize (lg_sl ([.ref (xa X 306), .int a1, .ref (xa X 323)]) ++ List.replicate (4 - (lg_sl ([.ref (xa X 306), .int a1, .ref (xa X 323)])).length) Slot.unset).toArray = ls at hl ⊢
  have hl : lv_has ls 4 [(0, .ref (xa X 306)), (1, .int a1), (2, .ref (xa X 323))] := hl
  obtain ⟨-, -, -, -, -, -, -, ⟨⟨cA, cB, cC⟩, -, n1, n2, n3, n4, n5, n6⟩⟩ := id hG
  refine lv_aload_n hx hb dL_loadedIn_0 rfl (lv_at hl 2 rfl) ?_
  refine lv_iconst (v := 0) hx hb dL_loadedIn_1 (by decide) ?_
  refine lv_aload_n hx hb dL_loadedIn_2 rfl (lv_at hl 0 rfl) ?_
  refine lv_iload_n hx hb dL_loadedIn_3 rfl (lv_at hl 1 rfl) ?_
  refine vx_calli (vx_runV (As := [.int a1]) (rest := [.int 0, .ref (xa X 323)]) ⟨hx, hb, hml, hown, hts⟩ (k8_loadedIn l hst (Y := Y) hX (ul w 1 z) hf) (cwV 1 hts gL_loadedIn_X8_loadedIn rfl rfl rfl (by decide +kernel) ⟨by rw [hR1]; exact Nat.le_of_ble_eq_true rfl, by rw [hR2]; exact Nat.le_of_ble_eq_true rfl⟩) ⟨w_blindS, w_recv hP hK (by decide) emb_bt rfl, w_preS hP hK hG hS⟩ rfl rfl hl.1 rfl (Nat.le_of_ble_eq_true rfl) dL_loadedIn_4 ⟨by rw [hR3]; exact Nat.le_of_ble_eq_true rfl, by rw [hR4]; exact Nat.le_of_ble_eq_true rfl⟩) hS (fun _ _ h => h) (fun _ h => h) (fun _ _ h => h) (fun E ce q9 u t H1 locs1 ht hvm hpx hB _ _ hS1 hce hcv hcl => ?_) (fun r u t H1 locs1 ht hvm hp hB _ _ hS1 => ?_)
  · obtain ⟨rfl, hB⟩ := hB
    have hP1 : HW X (pbt (ul w 1 z) f0 g9 c0 y0 o0) H1 := by rw [← ht]; exact hB.1
    rcases hcd with rfl | rfl
    · exact absurd rfl hpx
    · refine vx_catch (E := exn 1) (name := "java/lang/IndexOutOfBoundsException") hown [] ⟨0, 9, 12, 25⟩ [] (by rw [htab]; rfl) (fun z hz => nomatch hz) (by decide) (by decide) (hts (.classLink RL 25 "java/lang/IndexOutOfBoundsException") (by decide +kernel)) (cA.use rfl) hce hcv hcl ?_
      refine lv_astore_n (lv' := [(3, .ref q9), (0, .ref (xa X 306)), (1, .int a1), (2, .ref (xa X 323))]) hx hb dL_loadedIn_12 rfl hl (by decide) rfl (fun ls hl => ?_)
      refine lv_iconst (v := 1) hx hb dL_loadedIn_13 (by decide) ?_
      exact W.iret hx hb hr (fun t ht hW => ⟨⟨_, (), rfl, rfl, by show HW X _ t.heap; rw [ht]; exact hP1, va_K.moved hW.alike hK⟩, hS1.F ht⟩) hS1.2.2 dL_loadedIn_14 hlocks
  · obtain ⟨hc0, hrr⟩ := hp
    subst hc0
    subst hrr
    have hP1 : HW X (pbt (ul w 1 z) f0 g9 c0 y0 o0) H1 := by rw [← ht]; exact hB.1
    refine lv_i2l hx hb dL_loadedIn_7 rfl ?_
    refine ar_last (gl := z) hx hb hX AR_out pbt_z (fun z1 => pbt (ul w 1 z1) f0 g9 c0 y0 o0) (fun z1 => pbt_out) hP1 hK hS1 (vp_in_nI (n := 0) (by decide) (by decide)) dL_loadedIn_8 (fun z1 ez1 H locs hP hS => ?_)
    refine lv_goto (tgt := 15) hx hb dL_loadedIn_9 (by decide) ?_
    refine lv_iconst (v := 0) hx hb dL_loadedIn_15 (by decide) ?_
    rw [ez1] at hP
    exact W.iret hx hb hr (fun t ht hW => ⟨⟨_, (), rfl, rfl, by show HW X _ t.heap; rw [ht]; exact hP, va_K.moved hW.alike hK⟩, hS.F ht⟩) hS.2.2 dL_loadedIn_16 hlocks
abbrev rmL_neededLogs : Room := { frames := 8, cells := 1, slots := 6, locals := 123 }
set_option maxRecDepth 20000 in
theorem iL_neededLogs_tab : Cond.codeWith yL_neededLogs cL_neededLogs 4 (some .int) [(0, 9, 12, 25)] ∈ wsL_neededLogs := List.mem_cons_self
set_option maxHeartbeats 4000000 in
set_option maxRecDepth 100000 in
theorem kL_neededLogs (l : Launch) (hst : l.stackTraces = false) {X : bkX} {Y : bkY} {b0 : Nat} (hX : XO X b0) (w : bkW) {N : Nat} {f0 : bkA} {g0 : bkA} {c0 : bkA} {y0 : Nat → bkA} {o0 : Nat → Int32} {a1 : Int32} {code9 res9 : Int32} {z : Nat → Int64} (hf : m8_neededLogs N f0 a1 = some (code9, res9)) (hcd : code9 = 0 ∨ code9 = 1) : Met l yL_neededLogs wsL_neededLogs rmL_neededLogs (va_Pc [.ref (xa X 306), .int a1, .ref (xa X 323)] (WS X Y b0 (pbt (ul w 1 z) f0 g0 c0 y0 o0))) (va_Qi (fun r' (_ : Unit) => r' = (if code9 = 0 then (0 : Int32) else 1)) (fun _ t => WU X (pbt (ul w 1 (if code9 = 0 then vp_updL z 0 res9.toInt64 else z)) f0 g0 c0 y0 o0) t) (xF b0)) 1 6 (xF b0) := by
  refine Met.ofWH (cc := cL_neededLogs) (maxL := 4) (ret := some .int) (hh := [(0, 9, 12, 25)]) (by decide) rfl ?_
  intro p e s m args below meth c s₁ B hml hv
  obtain ⟨ha, ⟨hP, hK⟩, hG⟩ := hv
  have hx := B.exec
  have hb := B.bytes
  have hr := B.returns
  have hts := atoms_spec (ws := wsL_neededLogs) B.pre
  have htab := vx_table (x := yL_neededLogs) B (hts _ iL_neededLogs_tab)
  have hown : s.vm.findClass RL = some m.cls := findClass_of_methodNamed B.named
  have hlocks := B.notSynchronized
  obtain ⟨R, hR⟩ : ∃ R, R = (headSpec wsL_neededLogs rmL_neededLogs).room := ⟨_, rfl⟩
  rw [← hR]
  have hR1 : R.frames = 8 := by rw [hR]; rfl
  have hR2 : R.locals = 123 := by rw [hR]; rfl
  have hR3 : R.cells = 1 := by rw [hR]; rfl
  have hR4 : R.slots = 6 := by rw [hR]; rfl
  have hS : va_S (xF b0) s.heap s.heap [] := va_S.rf
  have hl := lv_entry ([.ref (xa X 306), .int a1, .ref (xa X 323)]) (n := 4) (Nat.le_of_ble_eq_true rfl)
  refine W.eq ((congrArg (fun z => entryFrame m z 4) ha).trans (lg_entry_eq m _ 4)) ?_
  generalize (lg_sl ([.ref (xa X 306), .int a1, .ref (xa X 323)]) ++ List.replicate (4 - (lg_sl ([.ref (xa X 306), .int a1, .ref (xa X 323)])).length) Slot.unset).toArray = ls at hl ⊢
  have hl : lv_has ls 4 [(0, .ref (xa X 306)), (1, .int a1), (2, .ref (xa X 323))] := hl
  obtain ⟨-, -, -, -, -, -, -, ⟨⟨cA, cB, cC⟩, -, n1, n2, n3, n4, n5, n6⟩⟩ := id hG
  refine lv_aload_n hx hb dL_neededLogs_0 rfl (lv_at hl 2 rfl) ?_
  refine lv_iconst (v := 0) hx hb dL_neededLogs_1 (by decide) ?_
  refine lv_aload_n hx hb dL_neededLogs_2 rfl (lv_at hl 0 rfl) ?_
  refine lv_iload_n hx hb dL_neededLogs_3 rfl (lv_at hl 1 rfl) ?_
  refine vx_calli (vx_runV (As := [.int a1]) (rest := [.int 0, .ref (xa X 323)]) ⟨hx, hb, hml, hown, hts⟩ (k8_neededLogs l hst (Y := Y) hX (ul w 1 z) hf) (cwV 1 hts gL_neededLogs_X8_neededLogs rfl rfl rfl (by decide +kernel) ⟨by rw [hR1]; exact Nat.le_of_ble_eq_true rfl, by rw [hR2]; exact Nat.le_of_ble_eq_true rfl⟩) ⟨w_blindS, w_recv hP hK (by decide) emb_bt rfl, w_preS hP hK hG hS⟩ rfl rfl hl.1 rfl (Nat.le_of_ble_eq_true rfl) dL_neededLogs_4 ⟨by rw [hR3]; exact Nat.le_of_ble_eq_true rfl, by rw [hR4]; exact Nat.le_of_ble_eq_true rfl⟩) hS (fun _ _ h => h) (fun _ h => h) (fun _ _ h => h) (fun E ce q9 u t H1 locs1 ht hvm hpx hB _ _ hS1 hce hcv hcl => ?_) (fun r u t H1 locs1 ht hvm hp hB _ _ hS1 => ?_)
  · obtain ⟨rfl, hB⟩ := hB
    have hP1 : HW X (pbt (ul w 1 z) f0 g0 c0 y0 o0) H1 := by rw [← ht]; exact hB.1
    rcases hcd with rfl | rfl
    · exact absurd rfl hpx
    · refine vx_catch (E := exn 1) (name := "java/lang/IndexOutOfBoundsException") hown [] ⟨0, 9, 12, 25⟩ [] (by rw [htab]; rfl) (fun z hz => nomatch hz) (by decide) (by decide) (hts (.classLink RL 25 "java/lang/IndexOutOfBoundsException") (by decide +kernel)) (cA.use rfl) hce hcv hcl ?_
      refine lv_astore_n (lv' := [(3, .ref q9), (0, .ref (xa X 306)), (1, .int a1), (2, .ref (xa X 323))]) hx hb dL_neededLogs_12 rfl hl (by decide) rfl (fun ls hl => ?_)
      refine lv_iconst (v := 1) hx hb dL_neededLogs_13 (by decide) ?_
      exact W.iret hx hb hr (fun t ht hW => ⟨⟨_, (), rfl, rfl, by show HW X _ t.heap; rw [ht]; exact hP1, va_K.moved hW.alike hK⟩, hS1.F ht⟩) hS1.2.2 dL_neededLogs_14 hlocks
  · obtain ⟨hc0, hrr⟩ := hp
    subst hc0
    subst hrr
    have hP1 : HW X (pbt (ul w 1 z) f0 g0 c0 y0 o0) H1 := by rw [← ht]; exact hB.1
    refine lv_i2l hx hb dL_neededLogs_7 rfl ?_
    refine ar_last (gl := z) hx hb hX AR_out pbt_z (fun z1 => pbt (ul w 1 z1) f0 g0 c0 y0 o0) (fun z1 => pbt_out) hP1 hK hS1 (vp_in_nI (n := 0) (by decide) (by decide)) dL_neededLogs_8 (fun z1 ez1 H locs hP hS => ?_)
    refine lv_goto (tgt := 15) hx hb dL_neededLogs_9 (by decide) ?_
    refine lv_iconst (v := 0) hx hb dL_neededLogs_15 (by decide) ?_
    rw [ez1] at hP
    exact W.iret hx hb hr (fun t ht hW => ⟨⟨_, (), rfl, rfl, by show HW X _ t.heap; rw [ht]; exact hP, va_K.moved hW.alike hK⟩, hS.F ht⟩) hS.2.2 dL_neededLogs_16 hlocks
abbrev rmL_heatIn : Room := { frames := 8, cells := 1, slots := 6, locals := 165 }
set_option maxRecDepth 20000 in
theorem iL_heatIn_tab : Cond.codeWith yL_heatIn cL_heatIn 4 (some .int) [(0, 9, 12, 13)] ∈ wsL_heatIn := List.mem_cons_self
set_option maxHeartbeats 4000000 in
set_option maxRecDepth 100000 in
theorem kL_heatIn (l : Launch) (hst : l.stackTraces = false) {X : bkX} {Y : bkY} {b0 : Nat} (hX : XO X b0) (w : bkW) {N : Nat} {f0 : bkA} {g0 : bkA} {c0 : bkA} {y0 : Nat → bkA} {o0 : Nat → Int32} {a1 : Int32} {code9 res9 : Int32} {g9 : bkA} {z : Nat → Int64} (hf : m8_heatIn N f0 g0 a1 = some (code9, res9, g9)) (hcd : code9 = 0 ∨ code9 = 2) : Met l yL_heatIn wsL_heatIn rmL_heatIn (va_Pc [.ref (xa X 306), .int a1, .ref (xa X 323)] (WS X Y b0 (pbt (ul w 1 z) f0 g0 c0 y0 o0))) (va_Qi (fun r' (_ : Unit) => r' = (if code9 = 0 then (0 : Int32) else 1)) (fun _ t => WU X (pbt (ul w 1 (if code9 = 0 then vp_updL z 0 res9.toInt64 else z)) f0 g9 c0 y0 o0) t) (xF b0)) 1 6 (xF b0) := by
  refine Met.ofWH (cc := cL_heatIn) (maxL := 4) (ret := some .int) (hh := [(0, 9, 12, 13)]) (by decide) rfl ?_
  intro p e s m args below meth c s₁ B hml hv
  obtain ⟨ha, ⟨hP, hK⟩, hG⟩ := hv
  have hx := B.exec
  have hb := B.bytes
  have hr := B.returns
  have hts := atoms_spec (ws := wsL_heatIn) B.pre
  have htab := vx_table (x := yL_heatIn) B (hts _ iL_heatIn_tab)
  have hown : s.vm.findClass RL = some m.cls := findClass_of_methodNamed B.named
  have hlocks := B.notSynchronized
  obtain ⟨R, hR⟩ : ∃ R, R = (headSpec wsL_heatIn rmL_heatIn).room := ⟨_, rfl⟩
  rw [← hR]
  have hR1 : R.frames = 8 := by rw [hR]; rfl
  have hR2 : R.locals = 165 := by rw [hR]; rfl
  have hR3 : R.cells = 1 := by rw [hR]; rfl
  have hR4 : R.slots = 6 := by rw [hR]; rfl
  have hS : va_S (xF b0) s.heap s.heap [] := va_S.rf
  have hl := lv_entry ([.ref (xa X 306), .int a1, .ref (xa X 323)]) (n := 4) (Nat.le_of_ble_eq_true rfl)
  refine W.eq ((congrArg (fun z => entryFrame m z 4) ha).trans (lg_entry_eq m _ 4)) ?_
  generalize (lg_sl ([.ref (xa X 306), .int a1, .ref (xa X 323)]) ++ List.replicate (4 - (lg_sl ([.ref (xa X 306), .int a1, .ref (xa X 323)])).length) Slot.unset).toArray = ls at hl ⊢
  have hl : lv_has ls 4 [(0, .ref (xa X 306)), (1, .int a1), (2, .ref (xa X 323))] := hl
  obtain ⟨-, -, -, -, -, -, -, ⟨⟨cA, cB, cC⟩, -, n1, n2, n3, n4, n5, n6⟩⟩ := id hG
  refine lv_aload_n hx hb dL_heatIn_0 rfl (lv_at hl 2 rfl) ?_
  refine lv_iconst (v := 0) hx hb dL_heatIn_1 (by decide) ?_
  refine lv_aload_n hx hb dL_heatIn_2 rfl (lv_at hl 0 rfl) ?_
  refine lv_iload_n hx hb dL_heatIn_3 rfl (lv_at hl 1 rfl) ?_
  refine vx_calli (vx_runV (As := [.int a1]) (rest := [.int 0, .ref (xa X 323)]) ⟨hx, hb, hml, hown, hts⟩ (k8_heatIn l hst (Y := Y) hX (ul w 1 z) hf) (cwV 1 hts gL_heatIn_X8_heatIn rfl rfl rfl (by decide +kernel) ⟨by rw [hR1]; exact Nat.le_of_ble_eq_true rfl, by rw [hR2]; exact Nat.le_of_ble_eq_true rfl⟩) ⟨w_blindS, w_recv hP hK (by decide) emb_bt rfl, w_preS hP hK hG hS⟩ rfl rfl hl.1 rfl (Nat.le_of_ble_eq_true rfl) dL_heatIn_4 ⟨by rw [hR3]; exact Nat.le_of_ble_eq_true rfl, by rw [hR4]; exact Nat.le_of_ble_eq_true rfl⟩) hS (fun _ _ h => h) (fun _ h => h) (fun _ _ h => h) (fun E ce q9 u t H1 locs1 ht hvm hpx hB _ _ hS1 hce hcv hcl => ?_) (fun r u t H1 locs1 ht hvm hp hB _ _ hS1 => ?_)
  · obtain ⟨rfl, hB⟩ := hB
    have hP1 : HW X (pbt (ul w 1 z) f0 g9 c0 y0 o0) H1 := by rw [← ht]; exact hB.1
    rcases hcd with rfl | rfl
    · exact absurd rfl hpx
    · refine vx_catch (E := exn 2) (name := "java/lang/IllegalArgumentException") hown [] ⟨0, 9, 12, 13⟩ [] (by rw [htab]; rfl) (fun z hz => nomatch hz) (by decide) (by decide) (hts (.classLink RL 13 "java/lang/IllegalArgumentException") (by decide +kernel)) (cB.use rfl) hce hcv hcl ?_
      refine lv_astore_n (lv' := [(3, .ref q9), (0, .ref (xa X 306)), (1, .int a1), (2, .ref (xa X 323))]) hx hb dL_heatIn_12 rfl hl (by decide) rfl (fun ls hl => ?_)
      refine lv_iconst (v := 1) hx hb dL_heatIn_13 (by decide) ?_
      exact W.iret hx hb hr (fun t ht hW => ⟨⟨_, (), rfl, rfl, by show HW X _ t.heap; rw [ht]; exact hP1, va_K.moved hW.alike hK⟩, hS1.F ht⟩) hS1.2.2 dL_heatIn_14 hlocks
  · obtain ⟨hc0, hrr⟩ := hp
    subst hc0
    subst hrr
    have hP1 : HW X (pbt (ul w 1 z) f0 g9 c0 y0 o0) H1 := by rw [← ht]; exact hB.1
    refine lv_i2l hx hb dL_heatIn_7 rfl ?_
    refine ar_last (gl := z) hx hb hX AR_out pbt_z (fun z1 => pbt (ul w 1 z1) f0 g9 c0 y0 o0) (fun z1 => pbt_out) hP1 hK hS1 (vp_in_nI (n := 0) (by decide) (by decide)) dL_heatIn_8 (fun z1 ez1 H locs hP hS => ?_)
    refine lv_goto (tgt := 15) hx hb dL_heatIn_9 (by decide) ?_
    refine lv_iconst (v := 0) hx hb dL_heatIn_15 (by decide) ?_
    rw [ez1] at hP
    exact W.iret hx hb hr (fun t ht hW => ⟨⟨_, (), rfl, rfl, by show HW X _ t.heap; rw [ht]; exact hP, va_K.moved hW.alike hK⟩, hS.F ht⟩) hS.2.2 dL_heatIn_16 hlocks
abbrev rmL_spoiledIn : Room := { frames := 8, cells := 1, slots := 6, locals := 144 }
set_option maxRecDepth 20000 in
theorem iL_spoiledIn_tab : Cond.codeWith yL_spoiledIn cL_spoiledIn 4 (some .int) [(0, 9, 12, 13)] ∈ wsL_spoiledIn := List.mem_cons_self
set_option maxHeartbeats 4000000 in
set_option maxRecDepth 100000 in
theorem kL_spoiledIn (l : Launch) (hst : l.stackTraces = false) {X : bkX} {Y : bkY} {b0 : Nat} (hX : XO X b0) (w : bkW) {N : Nat} {f0 : bkA} {g0 : bkA} {c0 : bkA} {y0 : Nat → bkA} {o0 : Nat → Int32} {a1 : Int32} {code9 res9 : Int32} {g9 : bkA} {z : Nat → Int64} (hf : m8_spoiledIn N f0 g0 a1 = some (code9, res9, g9)) (hcd : code9 = 0 ∨ code9 = 2) : Met l yL_spoiledIn wsL_spoiledIn rmL_spoiledIn (va_Pc [.ref (xa X 306), .int a1, .ref (xa X 323)] (WS X Y b0 (pbt (ul w 1 z) f0 g0 c0 y0 o0))) (va_Qi (fun r' (_ : Unit) => r' = (if code9 = 0 then (0 : Int32) else 1)) (fun _ t => WU X (pbt (ul w 1 (if code9 = 0 then vp_updL z 0 res9.toInt64 else z)) f0 g9 c0 y0 o0) t) (xF b0)) 1 6 (xF b0) := by
  refine Met.ofWH (cc := cL_spoiledIn) (maxL := 4) (ret := some .int) (hh := [(0, 9, 12, 13)]) (by decide) rfl ?_
  intro p e s m args below meth c s₁ B hml hv
  obtain ⟨ha, ⟨hP, hK⟩, hG⟩ := hv
  have hx := B.exec
  have hb := B.bytes
  have hr := B.returns
  have hts := atoms_spec (ws := wsL_spoiledIn) B.pre
  have htab := vx_table (x := yL_spoiledIn) B (hts _ iL_spoiledIn_tab)
  have hown : s.vm.findClass RL = some m.cls := findClass_of_methodNamed B.named
  have hlocks := B.notSynchronized
  obtain ⟨R, hR⟩ : ∃ R, R = (headSpec wsL_spoiledIn rmL_spoiledIn).room := ⟨_, rfl⟩
  rw [← hR]
  have hR1 : R.frames = 8 := by rw [hR]; rfl
  have hR2 : R.locals = 144 := by rw [hR]; rfl
  have hR3 : R.cells = 1 := by rw [hR]; rfl
  have hR4 : R.slots = 6 := by rw [hR]; rfl
  have hS : va_S (xF b0) s.heap s.heap [] := va_S.rf
  have hl := lv_entry ([.ref (xa X 306), .int a1, .ref (xa X 323)]) (n := 4) (Nat.le_of_ble_eq_true rfl)
  refine W.eq ((congrArg (fun z => entryFrame m z 4) ha).trans (lg_entry_eq m _ 4)) ?_
  generalize (lg_sl ([.ref (xa X 306), .int a1, .ref (xa X 323)]) ++ List.replicate (4 - (lg_sl ([.ref (xa X 306), .int a1, .ref (xa X 323)])).length) Slot.unset).toArray = ls at hl ⊢
  have hl : lv_has ls 4 [(0, .ref (xa X 306)), (1, .int a1), (2, .ref (xa X 323))] := hl
  obtain ⟨-, -, -, -, -, -, -, ⟨⟨cA, cB, cC⟩, -, n1, n2, n3, n4, n5, n6⟩⟩ := id hG
  refine lv_aload_n hx hb dL_spoiledIn_0 rfl (lv_at hl 2 rfl) ?_
  refine lv_iconst (v := 0) hx hb dL_spoiledIn_1 (by decide) ?_
  refine lv_aload_n hx hb dL_spoiledIn_2 rfl (lv_at hl 0 rfl) ?_
  refine lv_iload_n hx hb dL_spoiledIn_3 rfl (lv_at hl 1 rfl) ?_
  refine vx_calli (vx_runV (As := [.int a1]) (rest := [.int 0, .ref (xa X 323)]) ⟨hx, hb, hml, hown, hts⟩ (k8_spoiledIn l hst (Y := Y) hX (ul w 1 z) hf) (cwV 1 hts gL_spoiledIn_X8_spoiledIn rfl rfl rfl (by decide +kernel) ⟨by rw [hR1]; exact Nat.le_of_ble_eq_true rfl, by rw [hR2]; exact Nat.le_of_ble_eq_true rfl⟩) ⟨w_blindS, w_recv hP hK (by decide) emb_bt rfl, w_preS hP hK hG hS⟩ rfl rfl hl.1 rfl (Nat.le_of_ble_eq_true rfl) dL_spoiledIn_4 ⟨by rw [hR3]; exact Nat.le_of_ble_eq_true rfl, by rw [hR4]; exact Nat.le_of_ble_eq_true rfl⟩) hS (fun _ _ h => h) (fun _ h => h) (fun _ _ h => h) (fun E ce q9 u t H1 locs1 ht hvm hpx hB _ _ hS1 hce hcv hcl => ?_) (fun r u t H1 locs1 ht hvm hp hB _ _ hS1 => ?_)
  · obtain ⟨rfl, hB⟩ := hB
    have hP1 : HW X (pbt (ul w 1 z) f0 g9 c0 y0 o0) H1 := by rw [← ht]; exact hB.1
    rcases hcd with rfl | rfl
    · exact absurd rfl hpx
    · refine vx_catch (E := exn 2) (name := "java/lang/IllegalArgumentException") hown [] ⟨0, 9, 12, 13⟩ [] (by rw [htab]; rfl) (fun z hz => nomatch hz) (by decide) (by decide) (hts (.classLink RL 13 "java/lang/IllegalArgumentException") (by decide +kernel)) (cB.use rfl) hce hcv hcl ?_
      refine lv_astore_n (lv' := [(3, .ref q9), (0, .ref (xa X 306)), (1, .int a1), (2, .ref (xa X 323))]) hx hb dL_spoiledIn_12 rfl hl (by decide) rfl (fun ls hl => ?_)
      refine lv_iconst (v := 1) hx hb dL_spoiledIn_13 (by decide) ?_
      exact W.iret hx hb hr (fun t ht hW => ⟨⟨_, (), rfl, rfl, by show HW X _ t.heap; rw [ht]; exact hP1, va_K.moved hW.alike hK⟩, hS1.F ht⟩) hS1.2.2 dL_spoiledIn_14 hlocks
  · obtain ⟨hc0, hrr⟩ := hp
    subst hc0
    subst hrr
    have hP1 : HW X (pbt (ul w 1 z) f0 g9 c0 y0 o0) H1 := by rw [← ht]; exact hB.1
    refine lv_i2l hx hb dL_spoiledIn_7 rfl ?_
    refine ar_last (gl := z) hx hb hX AR_out pbt_z (fun z1 => pbt (ul w 1 z1) f0 g9 c0 y0 o0) (fun z1 => pbt_out) hP1 hK hS1 (vp_in_nI (n := 0) (by decide) (by decide)) dL_spoiledIn_8 (fun z1 ez1 H locs hP hS => ?_)
    refine lv_goto (tgt := 15) hx hb dL_spoiledIn_9 (by decide) ?_
    refine lv_iconst (v := 0) hx hb dL_spoiledIn_15 (by decide) ?_
    rw [ez1] at hP
    exact W.iret hx hb hr (fun t ht hW => ⟨⟨_, (), rfl, rfl, by show HW X _ t.heap; rw [ht]; exact hP, va_K.moved hW.alike hK⟩, hS.F ht⟩) hS.2.2 dL_spoiledIn_16 hlocks
abbrev rmL_owes : Room := { frames := 8, cells := 1, slots := 6, locals := 123 }
set_option maxRecDepth 20000 in
theorem iL_owes_tab : Cond.codeWith yL_owes cL_owes 4 (some .int) [(0, 9, 12, 25)] ∈ wsL_owes := List.mem_cons_self
set_option maxHeartbeats 4000000 in
set_option maxRecDepth 100000 in
theorem kL_owes (l : Launch) (hst : l.stackTraces = false) {X : bkX} {Y : bkY} {b0 : Nat} (hX : XO X b0) (w : bkW) {N : Nat} {f0 : bkA} {g0 : bkA} {c0 : bkA} {y0 : Nat → bkA} {o0 : Nat → Int32} {a1 : Int32} {code9 res9 : Int32} {z : Nat → Int64} (hf : m8_owes N f0 a1 = some (code9, res9)) (hcd : code9 = 0 ∨ code9 = 1) : Met l yL_owes wsL_owes rmL_owes (va_Pc [.ref (xa X 306), .int a1, .ref (xa X 323)] (WS X Y b0 (pbt (ul w 1 z) f0 g0 c0 y0 o0))) (va_Qi (fun r' (_ : Unit) => r' = (if code9 = 0 then (0 : Int32) else 1)) (fun _ t => WU X (pbt (ul w 1 (if code9 = 0 then vp_updL z 0 res9.toInt64 else z)) f0 g0 c0 y0 o0) t) (xF b0)) 1 6 (xF b0) := by
  refine Met.ofWH (cc := cL_owes) (maxL := 4) (ret := some .int) (hh := [(0, 9, 12, 25)]) (by decide) rfl ?_
  intro p e s m args below meth c s₁ B hml hv
  obtain ⟨ha, ⟨hP, hK⟩, hG⟩ := hv
  have hx := B.exec
  have hb := B.bytes
  have hr := B.returns
  have hts := atoms_spec (ws := wsL_owes) B.pre
  have htab := vx_table (x := yL_owes) B (hts _ iL_owes_tab)
  have hown : s.vm.findClass RL = some m.cls := findClass_of_methodNamed B.named
  have hlocks := B.notSynchronized
  obtain ⟨R, hR⟩ : ∃ R, R = (headSpec wsL_owes rmL_owes).room := ⟨_, rfl⟩
  rw [← hR]
  have hR1 : R.frames = 8 := by rw [hR]; rfl
  have hR2 : R.locals = 123 := by rw [hR]; rfl
  have hR3 : R.cells = 1 := by rw [hR]; rfl
  have hR4 : R.slots = 6 := by rw [hR]; rfl
  have hS : va_S (xF b0) s.heap s.heap [] := va_S.rf
  have hl := lv_entry ([.ref (xa X 306), .int a1, .ref (xa X 323)]) (n := 4) (Nat.le_of_ble_eq_true rfl)
  refine W.eq ((congrArg (fun z => entryFrame m z 4) ha).trans (lg_entry_eq m _ 4)) ?_
  generalize (lg_sl ([.ref (xa X 306), .int a1, .ref (xa X 323)]) ++ List.replicate (4 - (lg_sl ([.ref (xa X 306), .int a1, .ref (xa X 323)])).length) Slot.unset).toArray = ls at hl ⊢
  have hl : lv_has ls 4 [(0, .ref (xa X 306)), (1, .int a1), (2, .ref (xa X 323))] := hl
  obtain ⟨-, -, -, -, -, -, -, ⟨⟨cA, cB, cC⟩, -, n1, n2, n3, n4, n5, n6⟩⟩ := id hG
  refine lv_aload_n hx hb dL_owes_0 rfl (lv_at hl 2 rfl) ?_
  refine lv_iconst (v := 0) hx hb dL_owes_1 (by decide) ?_
  refine lv_aload_n hx hb dL_owes_2 rfl (lv_at hl 0 rfl) ?_
  refine lv_iload_n hx hb dL_owes_3 rfl (lv_at hl 1 rfl) ?_
  refine vx_calli (vx_runV (As := [.int a1]) (rest := [.int 0, .ref (xa X 323)]) ⟨hx, hb, hml, hown, hts⟩ (k8_owes l hst (Y := Y) hX (ul w 1 z) hf) (cwV 1 hts gL_owes_X8_owes rfl rfl rfl (by decide +kernel) ⟨by rw [hR1]; exact Nat.le_of_ble_eq_true rfl, by rw [hR2]; exact Nat.le_of_ble_eq_true rfl⟩) ⟨w_blindS, w_recv hP hK (by decide) emb_bt rfl, w_preS hP hK hG hS⟩ rfl rfl hl.1 rfl (Nat.le_of_ble_eq_true rfl) dL_owes_4 ⟨by rw [hR3]; exact Nat.le_of_ble_eq_true rfl, by rw [hR4]; exact Nat.le_of_ble_eq_true rfl⟩) hS (fun _ _ h => h) (fun _ h => h) (fun _ _ h => h) (fun E ce q9 u t H1 locs1 ht hvm hpx hB _ _ hS1 hce hcv hcl => ?_) (fun r u t H1 locs1 ht hvm hp hB _ _ hS1 => ?_)
  · obtain ⟨rfl, hB⟩ := hB
    have hP1 : HW X (pbt (ul w 1 z) f0 g0 c0 y0 o0) H1 := by rw [← ht]; exact hB.1
    rcases hcd with rfl | rfl
    · exact absurd rfl hpx
    · refine vx_catch (E := exn 1) (name := "java/lang/IndexOutOfBoundsException") hown [] ⟨0, 9, 12, 25⟩ [] (by rw [htab]; rfl) (fun z hz => nomatch hz) (by decide) (by decide) (hts (.classLink RL 25 "java/lang/IndexOutOfBoundsException") (by decide +kernel)) (cA.use rfl) hce hcv hcl ?_
      refine lv_astore_n (lv' := [(3, .ref q9), (0, .ref (xa X 306)), (1, .int a1), (2, .ref (xa X 323))]) hx hb dL_owes_12 rfl hl (by decide) rfl (fun ls hl => ?_)
      refine lv_iconst (v := 1) hx hb dL_owes_13 (by decide) ?_
      exact W.iret hx hb hr (fun t ht hW => ⟨⟨_, (), rfl, rfl, by show HW X _ t.heap; rw [ht]; exact hP1, va_K.moved hW.alike hK⟩, hS1.F ht⟩) hS1.2.2 dL_owes_14 hlocks
  · obtain ⟨hc0, hrr⟩ := hp
    subst hc0
    subst hrr
    have hP1 : HW X (pbt (ul w 1 z) f0 g0 c0 y0 o0) H1 := by rw [← ht]; exact hB.1
    refine lv_i2l hx hb dL_owes_7 rfl ?_
    refine ar_last (gl := z) hx hb hX AR_out pbt_z (fun z1 => pbt (ul w 1 z1) f0 g0 c0 y0 o0) (fun z1 => pbt_out) hP1 hK hS1 (vp_in_nI (n := 0) (by decide) (by decide)) dL_owes_8 (fun z1 ez1 H locs hP hS => ?_)
    refine lv_goto (tgt := 15) hx hb dL_owes_9 (by decide) ?_
    refine lv_iconst (v := 0) hx hb dL_owes_15 (by decide) ?_
    rw [ez1] at hP
    exact W.iret hx hb hr (fun t ht hW => ⟨⟨_, (), rfl, rfl, by show HW X _ t.heap; rw [ht]; exact hP, va_K.moved hW.alike hK⟩, hS.F ht⟩) hS.2.2 dL_owes_16 hlocks
abbrev rmL_type : Room := { frames := 8, cells := 1, slots := 6, locals := 123 }
set_option maxRecDepth 20000 in
theorem iL_type_tab : Cond.codeWith yL_type cL_type 4 (some .int) [(0, 9, 12, 13), (0, 9, 15, 15)] ∈ wsL_type := List.mem_cons_self
set_option maxHeartbeats 4000000 in
set_option maxRecDepth 100000 in
theorem kL_type (l : Launch) (hst : l.stackTraces = false) {X : bkX} {Y : bkY} {b0 : Nat} (hX : XO X b0) (w : bkW) {f0 : bkA} {g0 : bkA} {c0 : bkA} {y0 : Nat → bkA} {o0 : Nat → Int32} {a1 : Int32} {code9 res9 : Int32} {c9 : bkA} {z : Nat → Int64} (hf : m8_type c0 a1 = some (code9, res9, c9)) (hcd : code9 = 0 ∨ code9 = 2 ∨ code9 = 3) : Met l yL_type wsL_type rmL_type (va_Pc [.ref (xa X 306), .int a1, .ref (xa X 323)] (WS X Y b0 (pbt (ul w 1 z) f0 g0 c0 y0 o0))) (va_Qi (fun r' (_ : Unit) => r' = (if code9 = 0 then (0 : Int32) else if code9 = 2 then 1 else 2)) (fun _ t => WU X (pbt (ul w 1 (if code9 = 0 then vp_updL z 0 res9.toInt64 else z)) f0 g0 c9 y0 o0) t) (xF b0)) 1 6 (xF b0) := by
  refine Met.ofWH (cc := cL_type) (maxL := 4) (ret := some .int) (hh := [(0, 9, 12, 13), (0, 9, 15, 15)]) (by decide) rfl ?_
  intro p e s m args below meth c s₁ B hml hv
  obtain ⟨ha, ⟨hP, hK⟩, hG⟩ := hv
  have hx := B.exec
  have hb := B.bytes
  have hr := B.returns
  have hts := atoms_spec (ws := wsL_type) B.pre
  have htab := vx_table (x := yL_type) B (hts _ iL_type_tab)
  have hown : s.vm.findClass RL = some m.cls := findClass_of_methodNamed B.named
  have hlocks := B.notSynchronized
  obtain ⟨R, hR⟩ : ∃ R, R = (headSpec wsL_type rmL_type).room := ⟨_, rfl⟩
  rw [← hR]
  have hR1 : R.frames = 8 := by rw [hR]; rfl
  have hR2 : R.locals = 123 := by rw [hR]; rfl
  have hR3 : R.cells = 1 := by rw [hR]; rfl
  have hR4 : R.slots = 6 := by rw [hR]; rfl
  have hS : va_S (xF b0) s.heap s.heap [] := va_S.rf
  have hl := lv_entry ([.ref (xa X 306), .int a1, .ref (xa X 323)]) (n := 4) (Nat.le_of_ble_eq_true rfl)
  refine W.eq ((congrArg (fun z => entryFrame m z 4) ha).trans (lg_entry_eq m _ 4)) ?_
  generalize (lg_sl ([.ref (xa X 306), .int a1, .ref (xa X 323)]) ++ List.replicate (4 - (lg_sl ([.ref (xa X 306), .int a1, .ref (xa X 323)])).length) Slot.unset).toArray = ls at hl ⊢
  have hl : lv_has ls 4 [(0, .ref (xa X 306)), (1, .int a1), (2, .ref (xa X 323))] := hl
  obtain ⟨-, -, -, -, -, -, -, ⟨⟨cA, cB, cC⟩, -, n1, n2, n3, n4, n5, n6⟩⟩ := id hG
  refine lv_aload_n hx hb dL_type_0 rfl (lv_at hl 2 rfl) ?_
  refine lv_iconst (v := 0) hx hb dL_type_1 (by decide) ?_
  refine lv_aload_n hx hb dL_type_2 rfl (lv_at hl 0 rfl) ?_
  refine lv_iload_n hx hb dL_type_3 rfl (lv_at hl 1 rfl) ?_
  refine vx_calli (vx_runV (As := [.int a1]) (rest := [.int 0, .ref (xa X 323)]) ⟨hx, hb, hml, hown, hts⟩ (k8_type l hst (Y := Y) hX (ul w 1 z) hf) (cwV 1 hts gL_type_X8_type rfl rfl rfl (by decide +kernel) ⟨by rw [hR1]; exact Nat.le_of_ble_eq_true rfl, by rw [hR2]; exact Nat.le_of_ble_eq_true rfl⟩) ⟨w_blindS, w_recv hP hK (by decide) emb_bt rfl, w_preS hP hK hG hS⟩ rfl rfl hl.1 rfl (Nat.le_of_ble_eq_true rfl) dL_type_4 ⟨by rw [hR3]; exact Nat.le_of_ble_eq_true rfl, by rw [hR4]; exact Nat.le_of_ble_eq_true rfl⟩) hS (fun _ _ h => h) (fun _ h => h) (fun _ _ h => h) (fun E ce q9 u t H1 locs1 ht hvm hpx hB _ _ hS1 hce hcv hcl => ?_) (fun r u t H1 locs1 ht hvm hp hB _ _ hS1 => ?_)
  · obtain ⟨rfl, hB⟩ := hB
    have hP1 : HW X (pbt (ul w 1 z) f0 g0 c9 y0 o0) H1 := by rw [← ht]; exact hB.1
    rcases hcd with rfl | rfl | rfl
    · exact absurd rfl hpx
    · refine vx_catch (E := exn 2) (name := "java/lang/IllegalArgumentException") hown [] ⟨0, 9, 12, 13⟩ [⟨0, 9, 15, 15⟩] (by rw [htab]; rfl) (fun z hz => nomatch hz) (by decide) (by decide) (hts (.classLink RL 13 "java/lang/IllegalArgumentException") (by decide +kernel)) (cB.use rfl) hce hcv hcl ?_
      refine lv_astore_n (lv' := [(3, .ref q9), (0, .ref (xa X 306)), (1, .int a1), (2, .ref (xa X 323))]) hx hb dL_type_12 rfl hl (by decide) rfl (fun ls hl => ?_)
      refine lv_iconst (v := 1) hx hb dL_type_13 (by decide) ?_
      exact W.iret hx hb hr (fun t ht hW => ⟨⟨_, (), rfl, rfl, by show HW X _ t.heap; rw [ht]; exact hP1, va_K.moved hW.alike hK⟩, hS1.F ht⟩) hS1.2.2 dL_type_14 hlocks
    · refine vx_catch (E := exn 3) (name := "java/lang/IllegalStateException") hown [⟨0, 9, 12, 13⟩] ⟨0, 9, 15, 15⟩ [] (by rw [htab]; rfl) (fun z hz => by
        simp only [List.mem_cons, List.not_mem_nil, or_false] at hz
        subst hz
        exact Or.inr ⟨Nat.ne_of_gt (Nat.le_of_ble_eq_true rfl), "java/lang/IllegalArgumentException", hts (.classLink RL 13 "java/lang/IllegalArgumentException") (by decide +kernel), n3⟩) (by decide) (by decide) (hts (.classLink RL 15 "java/lang/IllegalStateException") (by decide +kernel)) (cC.use rfl) hce hcv hcl ?_
      refine lv_astore_n (lv' := [(3, .ref q9), (0, .ref (xa X 306)), (1, .int a1), (2, .ref (xa X 323))]) hx hb dL_type_15 rfl hl (by decide) rfl (fun ls hl => ?_)
      refine lv_iconst (v := 2) hx hb dL_type_16 (by decide) ?_
      exact W.iret hx hb hr (fun t ht hW => ⟨⟨_, (), rfl, rfl, by show HW X _ t.heap; rw [ht]; exact hP1, va_K.moved hW.alike hK⟩, hS1.F ht⟩) hS1.2.2 dL_type_17 hlocks
  · obtain ⟨hc0, hrr⟩ := hp
    subst hc0
    subst hrr
    have hP1 : HW X (pbt (ul w 1 z) f0 g0 c9 y0 o0) H1 := by rw [← ht]; exact hB.1
    refine lv_i2l hx hb dL_type_7 rfl ?_
    refine ar_last (gl := z) hx hb hX AR_out pbt_z (fun z1 => pbt (ul w 1 z1) f0 g0 c9 y0 o0) (fun z1 => pbt_out) hP1 hK hS1 (vp_in_nI (n := 0) (by decide) (by decide)) dL_type_8 (fun z1 ez1 H locs hP hS => ?_)
    refine lv_goto (tgt := 18) hx hb dL_type_9 (by decide) ?_
    refine lv_iconst (v := 0) hx hb dL_type_18 (by decide) ?_
    rw [ez1] at hP
    exact W.iret hx hb hr (fun t ht hW => ⟨⟨_, (), rfl, rfl, by show HW X _ t.heap; rw [ht]; exact hP, va_K.moved hW.alike hK⟩, hS.F ht⟩) hS.2.2 dL_type_19 hlocks
abbrev rmL_undo : Room := { frames := 8, cells := 1, slots := 6, locals := 164 }
set_option maxRecDepth 20000 in
theorem iL_undo_tab : Cond.codeWith yL_undo cL_undo 3 (some .int) [(0, 8, 11, 15)] ∈ wsL_undo := List.mem_cons_self
set_option maxHeartbeats 4000000 in
set_option maxRecDepth 100000 in
theorem kL_undo (l : Launch) (hst : l.stackTraces = false) {X : bkX} {Y : bkY} {b0 : Nat} (hX : XO X b0) (w : bkW) {f0 : bkA} {g0 : bkA} {c0 : bkA} {y0 : Nat → bkA} {o0 : Nat → Int32} {code9 res9 : Int32} {f9 : bkA} {o9 : Nat → Int32} {z : Nat → Int64} (hf : m8_undo f0 y0 o0 = some (code9, res9, f9, o9)) (hcd : code9 = 0 ∨ code9 = 3) : Met l yL_undo wsL_undo rmL_undo (va_Pc [.ref (xa X 306), .ref (xa X 323)] (WS X Y b0 (pbt (ul w 1 z) f0 g0 c0 y0 o0))) (va_Qi (fun r' (_ : Unit) => r' = (if code9 = 0 then (0 : Int32) else 1)) (fun _ t => WU X (pbt (ul w 1 (if code9 = 0 then vp_updL z 0 res9.toInt64 else z)) f9 g0 c0 y0 o9) t) (xF b0)) 1 6 (xF b0) := by
  refine Met.ofWH (cc := cL_undo) (maxL := 3) (ret := some .int) (hh := [(0, 8, 11, 15)]) (by decide) rfl ?_
  intro p e s m args below meth c s₁ B hml hv
  obtain ⟨ha, ⟨hP, hK⟩, hG⟩ := hv
  have hx := B.exec
  have hb := B.bytes
  have hr := B.returns
  have hts := atoms_spec (ws := wsL_undo) B.pre
  have htab := vx_table (x := yL_undo) B (hts _ iL_undo_tab)
  have hown : s.vm.findClass RL = some m.cls := findClass_of_methodNamed B.named
  have hlocks := B.notSynchronized
  obtain ⟨R, hR⟩ : ∃ R, R = (headSpec wsL_undo rmL_undo).room := ⟨_, rfl⟩
  rw [← hR]
  have hR1 : R.frames = 8 := by rw [hR]; rfl
  have hR2 : R.locals = 164 := by rw [hR]; rfl
  have hR3 : R.cells = 1 := by rw [hR]; rfl
  have hR4 : R.slots = 6 := by rw [hR]; rfl
  have hS : va_S (xF b0) s.heap s.heap [] := va_S.rf
  have hl := lv_entry ([.ref (xa X 306), .ref (xa X 323)]) (n := 3) (Nat.le_of_ble_eq_true rfl)
  refine W.eq ((congrArg (fun z => entryFrame m z 3) ha).trans (lg_entry_eq m _ 3)) ?_
  generalize (lg_sl ([.ref (xa X 306), .ref (xa X 323)]) ++ List.replicate (3 - (lg_sl ([.ref (xa X 306), .ref (xa X 323)])).length) Slot.unset).toArray = ls at hl ⊢
  have hl : lv_has ls 3 [(0, .ref (xa X 306)), (1, .ref (xa X 323))] := hl
  obtain ⟨-, -, -, -, -, -, -, ⟨⟨cA, cB, cC⟩, -, n1, n2, n3, n4, n5, n6⟩⟩ := id hG
  refine lv_aload_n hx hb dL_undo_0 rfl (lv_at hl 1 rfl) ?_
  refine lv_iconst (v := 0) hx hb dL_undo_1 (by decide) ?_
  refine lv_aload_n hx hb dL_undo_2 rfl (lv_at hl 0 rfl) ?_
  refine vx_calli (vx_runV (As := []) (rest := [.int 0, .ref (xa X 323)]) ⟨hx, hb, hml, hown, hts⟩ (k8_undo l hst (Y := Y) hX (ul w 1 z) hf) (cwV 0 hts gL_undo_X8_undo rfl rfl rfl (by decide +kernel) ⟨by rw [hR1]; exact Nat.le_of_ble_eq_true rfl, by rw [hR2]; exact Nat.le_of_ble_eq_true rfl⟩) ⟨w_blindS, w_recv hP hK (by decide) emb_bt rfl, w_preS hP hK hG hS⟩ rfl rfl hl.1 rfl (Nat.le_of_ble_eq_true rfl) dL_undo_3 ⟨by rw [hR3]; exact Nat.le_of_ble_eq_true rfl, by rw [hR4]; exact Nat.le_of_ble_eq_true rfl⟩) hS (fun _ _ h => h) (fun _ h => h) (fun _ _ h => h) (fun E ce q9 u t H1 locs1 ht hvm hpx hB _ _ hS1 hce hcv hcl => ?_) (fun r u t H1 locs1 ht hvm hp hB _ _ hS1 => ?_)
  · obtain ⟨rfl, hB⟩ := hB
    have hP1 : HW X (pbt (ul w 1 z) f9 g0 c0 y0 o9) H1 := by rw [← ht]; exact hB.1
    rcases hcd with rfl | rfl
    · exact absurd rfl hpx
    · refine vx_catch (E := exn 3) (name := "java/lang/IllegalStateException") hown [] ⟨0, 8, 11, 15⟩ [] (by rw [htab]; rfl) (fun z hz => nomatch hz) (by decide) (by decide) (hts (.classLink RL 15 "java/lang/IllegalStateException") (by decide +kernel)) (cC.use rfl) hce hcv hcl ?_
      refine lv_astore_n (lv' := [(2, .ref q9), (0, .ref (xa X 306)), (1, .ref (xa X 323))]) hx hb dL_undo_11 rfl hl (by decide) rfl (fun ls hl => ?_)
      refine lv_iconst (v := 1) hx hb dL_undo_12 (by decide) ?_
      exact W.iret hx hb hr (fun t ht hW => ⟨⟨_, (), rfl, rfl, by show HW X _ t.heap; rw [ht]; exact hP1, va_K.moved hW.alike hK⟩, hS1.F ht⟩) hS1.2.2 dL_undo_13 hlocks
  · obtain ⟨hc0, hrr⟩ := hp
    subst hc0
    subst hrr
    have hP1 : HW X (pbt (ul w 1 z) f9 g0 c0 y0 o9) H1 := by rw [← ht]; exact hB.1
    refine lv_i2l hx hb dL_undo_6 rfl ?_
    refine ar_last (gl := z) hx hb hX AR_out pbt_z (fun z1 => pbt (ul w 1 z1) f9 g0 c0 y0 o9) (fun z1 => pbt_out) hP1 hK hS1 (vp_in_nI (n := 0) (by decide) (by decide)) dL_undo_7 (fun z1 ez1 H locs hP hS => ?_)
    refine lv_goto (tgt := 14) hx hb dL_undo_8 (by decide) ?_
    refine lv_iconst (v := 0) hx hb dL_undo_14 (by decide) ?_
    rw [ez1] at hP
    exact W.iret hx hb hr (fun t ht hW => ⟨⟨_, (), rfl, rfl, by show HW X _ t.heap; rw [ht]; exact hP, va_K.moved hW.alike hK⟩, hS.F ht⟩) hS.2.2 dL_undo_15 hlocks
