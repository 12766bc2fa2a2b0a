/-! the class's String constants, and what of the JDK's statics the code reads -/
abbrev bkY : Type := (Nat → Nat) × (Nat → Nat)
def skB : List (List Int32) := [[107,105,110,100],[104,111,117,115,101],[100,111,117,103,104],[98,114,105,110,103],[115,116,111,107,101],[112,97,115,115],[115,119,97,112],[115,101,116,116,108,101]]
def skL : List Nat := [4,5,5,5,5,4,4,6]
def skC (i k : Nat) : Int32 := (skB.getD i []).getD k 0
def exA : String := "java/lang/IndexOutOfBoundsException"
def exB : String := "java/lang/IllegalArgumentException"
def exC : String := "java/lang/IllegalStateException"
def XG (U : State) : Prop := (va_Nw (.castable exA exA) U ∧ va_Nw (.castable exB exB) U ∧ va_Nw (.castable exC exC) U) ∧ (va_Nw (.declares (Bundle.initS "java/lang/RuntimeException")) U ∧ va_Nw (.declares (Bundle.initS "java/lang/Exception")) U ∧ va_Nw (.declares (Bundle.initS Bundle.tN)) U) ∧ va_Nc exB exA U ∧ va_Nc exC exA U ∧ va_Nc exC exB U ∧ va_Nc exA exB U ∧ va_Nc exA exC U ∧ va_Nc exB exC U
theorem XG.warm {s U : State} (hW : s.WarmedH U.vm) (h : XG s) : XG U := by
  obtain ⟨⟨a, b, c⟩, ⟨x, y, z⟩, d, e, f, g, i, j⟩ := h
  exact ⟨⟨a.warmC hW, b.warmC hW, c.warmC hW⟩, ⟨x.warmD hW, y.warmD hW, z.warmD hW⟩, d.moved hW.alike, e.moved hW.alike, f.moved hW.alike, g.moved hW.alike, i.moved hW.alike, j.moved hW.alike⟩
def SG (Y : bkY) (b0 : Nat) (U : State) : Prop :=
  vk_S 8 skL skB Y.1 Y.2 (xF b0) U U.heap ∧
  (vk_R RX0 97 "kind" (Y.1 0) U ∧ vk_R RX0 99 "house" (Y.1 1) U ∧ vk_R RX0 101 "dough" (Y.1 2) U ∧ vk_R RX0 103 "bring" (Y.1 3) U ∧ vk_R RX0 105 "stoke" (Y.1 4) U ∧ vk_R RX0 107 "pass" (Y.1 5) U ∧ vk_R RX0 109 "swap" (Y.1 6) U ∧ vk_R RX0 111 "settle" (Y.1 7) U) ∧
  (vk_R RX8 199 "there is no such number" (Y.1 8) U ∧ vk_R RX8 206 "an argument is out of range" (Y.1 9) U ∧ vk_R RX8 211 "this cannot be done now" (Y.1 10) U) ∧
  va_Z "java/lang/String" "COMPACT_STRINGS" "Z" (.int 1) (xF b0) U U.heap ∧
  va_Zq "jdk/internal/util/Preconditions" "SIOOBE_FORMATTER" "Ljava/util/function/BiFunction;" (xF b0) U U.heap ∧
  vx_Zq Bundle.tN "UNASSIGNED_STACK" Bundle.steD (xF b0) U U.heap ∧ vx_Zq Bundle.tN "SUPPRESSED_SENTINEL" Bundle.listD (xF b0) U U.heap ∧ XG U
theorem SG.to {Y : bkY} {b0 : Nat} {s U : State} {H : Heap} {locs : List Loc} (hG : SG Y b0 s) (hS : va_S (xF b0) s.heap H locs) (h1 : U.heap = H) (hW : s.WarmedH U.vm) : SG Y b0 U := by
  obtain ⟨g1, ⟨k0, k1, k2, k3, k4, k5, k6, k7⟩, ⟨k8, k9, k10⟩, g4, g5, g6, g7, g8⟩ := hG
  unfold SG
  rw [h1]
  exact ⟨vk_S.moved hW.alike (g1.kept hS.2.1), ⟨k0.warm hW, k1.warm hW, k2.warm hW, k3.warm hW, k4.warm hW, k5.warm hW, k6.warm hW, k7.warm hW⟩, ⟨k8.warm hW, k9.warm hW, k10.warm hW⟩, va_Z.moved hW.alike (g4.kept hS.2.1), va_Zq.moved hW.alike (g5.kept hS.2.1), vx_Zq.moved hW.alike (g6.kept hS.2.1), vx_Zq.moved hW.alike (g7.kept hS.2.1), g8.warm hW⟩
theorem SG.calling {Y : bkY} {b0 : Nat} {U : State} {g : JFrame} {mk : MethodId} {a : Array Value} (hG : SG Y b0 U) : SG Y b0 (U.calling g mk a) :=
  SG.to (locs := []) hG va_S.rf rfl (State.WarmedH.refl _)
def WS (X : bkX) (Y : bkY) (b0 : Nat) (w : bkW) (U : State) : Prop := WU X w U ∧ SG Y b0 U
theorem w_blindS {X : bkX} {Y : bkY} {b0 : Nat} {w : bkW} {as : List Value} : FrameBlind (va_Pc as (WS X Y b0 w)) := fun _ _ _ _ h => ⟨h.1, ⟨h.2.1.1, va_K.moved (Vm.Alike.refl _) h.2.1.2⟩, h.2.2.calling⟩
def cIS (l : Launch) (y : MethodName) (ws : List Cond) (rm : Room) (X : bkX) (Y : bkY) (b0 : Nat) (as : List Value) (w : bkW) (r : Int32) (w' : bkW) : Prop := Met l y ws rm (va_Pc as (WS X Y b0 w)) (va_Qi (fun r' (_ : Unit) => r' = r) (fun _ t => WU X w' t) (xF b0)) 0 0 (xF b0)
def cVS (l : Launch) (y : MethodName) (ws : List Cond) (rm : Room) (X : bkX) (Y : bkY) (b0 : Nat) (as : List Value) (w : bkW) (w' : bkW) : Prop := Met l y ws rm (va_Pc as (WS X Y b0 w)) (va_Qv (fun (_ : Unit) => True) (fun _ t => WU X w' t) (xF b0)) 0 0 (xF b0)
def cRS (l : Launch) (y : MethodName) (ws : List Cond) (rm : Room) (X : bkX) (Y : bkY) (b0 : Nat) (as : List Value) (w : bkW) (r : Nat) (w' : bkW) : Prop := Met l y ws rm (va_Pc as (WS X Y b0 w)) (va_Qr (fun (_ : Unit) => True) (fun _ a t => a = r ∧ WU X w' t) (xF b0)) 0 0 (xF b0)
section WRAPS
variable {p : Program} {l : Launch} {e : Env} {R : Room} {s : State} {m : MethodId} {args : Array Value} {below : List Frame} {meth : Method} {c : Code} {H : Heap} {locs : List Loc} {cells slots : Nat} {Q : State → Prop}
variable {pc : Nat} {ls : Array Slot} {rest st0 : List Value} {cc : ByteArray} {X : bkX} {Y : bkY} {w w' : bkW} {b0 : Nat} {Ts : List Cond} {own C : String} {T : u_T} {N ci index i : Nat}
variable {y : MethodName} {bytes : ByteArray} {maxL nL n b : Nat} {ret : Option FieldType} {ws : List Cond} {rm : Room} {As : List Value}
theorem w_preS {as : List Value} (hP : HW X w H) (hK : XK X s) (hG : SG Y b0 s) (hS : va_S (xF b0) s.heap H locs) : ∀ U : State, U.heap = H → s.WarmedH U.vm → va_Pc as (WS X Y b0 w) as.toArray U := fun U h1 h2 => ⟨rfl, ⟨by show HW X w U.heap; rw [h1]; exact hP, va_K.moved h2.alike hK⟩, hG.to hS h1 h2⟩
theorem w_ciS {r : Int32} (S : CallFix p m c cc nL s args Ts own) (hP : HW X w H) (hK : XK X s) (hG : SG Y b0 s) (hS : va_S (xF b0) s.heap H locs) (hM : cIS l y ws rm X Y b0 (.ref b :: As) w r w') (cw : CallW R s args own C index y bytes maxL ret ws rm 0 0 n) (hrec : ∃ cellB : Cell, H[b]? = some cellB ∧ cellB.vm.isStatics = false ∧ s.vm.findClass C = some cellB.cls) (hn : As.length = n) (hsz : ls.size = nL) (hst : st0 = As.reverse ++ .ref b :: rest) (hrm : (rest.map fun v => v.category).sum ≤ 8) (hdg : decode cc pc = .ok (.invokevirtual index, 3)) (hroom : cells ≤ R.cells ∧ slots ≤ R.slots)
    (kk : ∀ (H1 : Heap) (locs1 : List Loc), HW X w' H1 → va_S (xF b0) s.heap H1 locs1 → W p l e R s m args below meth c H1 locs1 cells slots Q (F0 m (pc + 3) ls (.int r :: rest))) : W p l e R s m args below meth c H locs cells slots Q (F0 m pc ls st0) :=
  va_calli (va_runV S hM cw ⟨w_blindS, hrec, w_preS hP hK hG hS⟩ rfl hn hsz hst (by simpa using hrm) hdg hroom) hS (fun _ _ h => h) (fun _ h => h) (fun r' _ t H1 locs1 ht hvm hr hB _ _ hS1 => by subst hr; exact kk H1 locs1 (by rw [← ht]; exact hB.1) hS1)
theorem w_csiS {r : Int32} (S : CallFix p m c cc nL s args Ts own) (hP : HW X w H) (hK : XK X s) (hG : SG Y b0 s) (hS : va_S (xF b0) s.heap H locs) (hM : cIS l y ws rm X Y b0 As w r w') (cw : CallB R s args own index y bytes maxL ret ws rm 0 0 n ∧ (Cond.static y).before args s = true) (hn : As.length = n) (hsz : ls.size = nL) (hst : st0 = As.reverse ++ rest) (hrm : (rest.map fun v => v.category).sum ≤ 8) (hdg : decode cc pc = .ok (.invokestatic index, 3)) (hroom : cells ≤ R.cells ∧ slots ≤ R.slots)
    (kk : ∀ (H1 : Heap) (locs1 : List Loc), HW X w' H1 → va_S (xF b0) s.heap H1 locs1 → W p l e R s m args below meth c H1 locs1 cells slots Q (F0 m (pc + 3) ls (.int r :: rest))) : W p l e R s m args below meth c H locs cells slots Q (F0 m pc ls st0) :=
  va_calli (va_runS S hM cw ⟨w_blindS, w_preS hP hK hG hS⟩ rfl hn hsz hst (by simpa using hrm) hdg hroom) hS (fun _ _ h => h) (fun _ h => h) (fun r' _ t H1 locs1 ht hvm hr hB _ _ hS1 => by subst hr; exact kk H1 locs1 (by rw [← ht]; exact hB.1) hS1)
theorem w_csvS (S : CallFix p m c cc nL s args Ts own) (hP : HW X w H) (hK : XK X s) (hG : SG Y b0 s) (hS : va_S (xF b0) s.heap H locs) (hM : cVS l y ws rm X Y b0 As w w') (cw : CallB R s args own index y bytes maxL ret ws rm 0 0 n ∧ (Cond.static y).before args s = true) (hn : As.length = n) (hsz : ls.size = nL) (hst : st0 = As.reverse ++ rest) (hrm : (rest.map fun v => v.category).sum ≤ 8) (hdg : decode cc pc = .ok (.invokestatic index, 3)) (hroom : cells ≤ R.cells ∧ slots ≤ R.slots)
    (kk : ∀ (H1 : Heap) (locs1 : List Loc), HW X w' H1 → va_S (xF b0) s.heap H1 locs1 → W p l e R s m args below meth c H1 locs1 cells slots Q (F0 m (pc + 3) ls rest)) : W p l e R s m args below meth c H locs cells slots Q (F0 m pc ls st0) :=
  va_callv (va_runS S hM cw ⟨w_blindS, w_preS hP hK hG hS⟩ rfl hn hsz hst (by simpa using hrm) hdg hroom) hS (fun _ _ h => h) (fun _ h => h) (fun _ t H1 locs1 ht hvm _ hB _ _ hS1 => kk H1 locs1 (by rw [← ht]; exact hB.1) hS1)
theorem w_csrS {r : Nat} (S : CallFix p m c cc nL s args Ts own) (hP : HW X w H) (hK : XK X s) (hG : SG Y b0 s) (hS : va_S (xF b0) s.heap H locs) (hM : cRS l y ws rm X Y b0 As w r w') (cw : CallB R s args own index y bytes maxL ret ws rm 0 0 n ∧ (Cond.static y).before args s = true) (hn : As.length = n) (hsz : ls.size = nL) (hst : st0 = As.reverse ++ rest) (hrm : (rest.map fun v => v.category).sum ≤ 8) (hdg : decode cc pc = .ok (.invokestatic index, 3)) (hroom : cells ≤ R.cells ∧ slots ≤ R.slots)
    (kk : ∀ (H1 : Heap) (locs1 : List Loc), HW X w' H1 → va_S (xF b0) s.heap H1 locs1 → W p l e R s m args below meth c H1 locs1 cells slots Q (F0 m (pc + 3) ls (.ref r :: rest))) : W p l e R s m args below meth c H locs cells slots Q (F0 m pc ls st0) :=
  va_callr (va_runS S hM cw ⟨w_blindS, w_preS hP hK hG hS⟩ rfl hn hsz hst (by simpa using hrm) hdg hroom) hS (fun _ _ h => h) (fun _ h => h) (fun _ a t H1 locs1 ht hvm _ hB _ _ hS1 => by obtain ⟨rfl, hB⟩ := hB; exact kk H1 locs1 (by rw [← ht]; exact hB.1) hS1)
theorem w_nret {v r : Int32} {ty : FieldType} (hexec : p.tables.exec = Jvm.exec) (hb : c.code = cc) (hr : meth.sig.returnType = some ty) (hn : narrow ty (.int v) = .int v) (hlocks : meth.locks = false) (hP : HW X w H) (hK : XK X s) (hS : va_S (xF b0) s.heap H locs) (hdg : decode cc pc = .ok (.ireturn, 1)) (hv : v = r) (hw : w = w') : W p l e R s m args below meth c H locs cells slots (MQ below (va_Qi (fun r' (_ : Unit) => r' = r) (fun _ t => WU X w' t) (xF b0)) args s cells slots (xF b0)) (F0 m pc ls [.int v]) := by
  subst hv; subst hw
  exact W.zret hexec hb hr hn (fun t ht hW => ⟨⟨v, (), rfl, rfl, by show HW X w t.heap; rw [ht]; exact hP, va_K.moved hW.alike hK⟩, hS.F ht⟩) hS.2.2 hdg hlocks
end WRAPS
abbrev rmJ0_coder : Room := { frames := 0, cells := 0, slots := 0, locals := 0 }
set_option maxHeartbeats 4000000 in
set_option maxRecDepth 100000 in
theorem kJ_coder (l : Launch) {X : bkX} {Y : bkY} {b0 i : Nat} (hi : i < 8) (w : bkW) : cIS l yJ0_coder_7d493 wsJ0_coder_7d493 rmJ0_coder X Y b0 [.ref (Y.1 i)] w 0 w := by
  refine Met.ofW (cc := cJ0_coder_7d493) (maxL := 1) (ret := some .byte) (by decide) rfl ?_
  intro p e s m args below meth c s₁ B hml hv
  obtain ⟨ha, ⟨hP, hK⟩, hG⟩ := hv
  have hx := B.exec
  have hb := B.bytes
  have hr := B.returns
  have hts := atoms_spec (ws := wsJ0_coder_7d493) B.pre
  have hown : s.vm.findClass RJ0 = some m.cls := findClass_of_methodNamed B.named
  have hlocks := B.notSynchronized
  have hS : va_S (xF b0) s.heap s.heap [] := va_S.rf
  have hl := lv_entry ([.ref (Y.1 i)]) (n := 1) (Nat.le_of_ble_eq_true rfl)
  refine W.eq ((congrArg (fun z => entryFrame m z 1) ha).trans (lg_entry_eq m _ 1)) ?_
  generalize (lg_sl ([.ref (Y.1 i)]) ++ List.replicate (1 - (lg_sl ([.ref (Y.1 i)])).length) Slot.unset).toArray = ls at hl ⊢
  have hl : lv_has ls 1 [(0, .ref (Y.1 i))] := hl
  obtain ⟨g1, -, -, g4, g5, -, -, -⟩ := id hG
  refine va_gets hx hb g4 hS hown (hts (.fieldLink RJ0 38 "java/lang/String" "COMPACT_STRINGS" "Z") (by decide +kernel)) (fun _ h => h) dJ0_coder_7d493_0 ?_
  refine lv_if_eq (tgt := 13) hx hb dJ0_coder_7d493_3 (by decide) (fun h => absurd h (by decide)) (fun _ => ?_)
  refine lv_aload_n hx hb dJ0_coder_7d493_6 rfl (lv_at hl 0 rfl) ?_
  refine vk_getf hx hb (g1.1 i hi).2.1 hS hown (hts (.fieldLink RJ0 15 "java/lang/String" "coder" "B") (by decide +kernel)) (fun _ h => h) dJ0_coder_7d493_7 ?_
  refine lv_goto (tgt := 14) hx hb dJ0_coder_7d493_10 (by decide) ?_
  exact w_nret hx hb hr rfl hlocks hP hK hS dJ0_coder_7d493_14 rfl rfl
abbrev rmJ0_isLatin1 : Room := { frames := 0, cells := 0, slots := 0, locals := 0 }
set_option maxHeartbeats 4000000 in
set_option maxRecDepth 100000 in
theorem kJ_isLatin1 (l : Launch) {X : bkX} {Y : bkY} {b0 i : Nat} (hi : i < 8) (w : bkW) : cIS l yJ0_isLatin1_aae02 wsJ0_isLatin1_aae02 rmJ0_isLatin1 X Y b0 [.ref (Y.1 i)] w 1 w := by
  refine Met.ofW (cc := cJ0_isLatin1_aae02) (maxL := 1) (ret := some .boolean) (by decide) rfl ?_
  intro p e s m args below meth c s₁ B hml hv
  obtain ⟨ha, ⟨hP, hK⟩, hG⟩ := hv
  have hx := B.exec
  have hb := B.bytes
  have hr := B.returns
  have hts := atoms_spec (ws := wsJ0_isLatin1_aae02) B.pre
  have hown : s.vm.findClass RJ0 = some m.cls := findClass_of_methodNamed B.named
  have hlocks := B.notSynchronized
  have hS : va_S (xF b0) s.heap s.heap [] := va_S.rf
  have hl := lv_entry ([.ref (Y.1 i)]) (n := 1) (Nat.le_of_ble_eq_true rfl)
  refine W.eq ((congrArg (fun z => entryFrame m z 1) ha).trans (lg_entry_eq m _ 1)) ?_
  generalize (lg_sl ([.ref (Y.1 i)]) ++ List.replicate (1 - (lg_sl ([.ref (Y.1 i)])).length) Slot.unset).toArray = ls at hl ⊢
  have hl : lv_has ls 1 [(0, .ref (Y.1 i))] := hl
  obtain ⟨g1, -, -, g4, g5, -, -, -⟩ := id hG
  refine va_gets hx hb g4 hS hown (hts (.fieldLink RJ0 38 "java/lang/String" "COMPACT_STRINGS" "Z") (by decide +kernel)) (fun _ h => h) dJ0_isLatin1_aae02_0 ?_
  refine lv_if_eq (tgt := 17) hx hb dJ0_isLatin1_aae02_3 (by decide) (fun h => absurd h (by decide)) (fun _ => ?_)
  refine lv_aload_n hx hb dJ0_isLatin1_aae02_6 rfl (lv_at hl 0 rfl) ?_
  refine vk_getf hx hb (g1.1 i hi).2.1 hS hown (hts (.fieldLink RJ0 15 "java/lang/String" "coder" "B") (by decide +kernel)) (fun _ h => h) dJ0_isLatin1_aae02_7 ?_
  refine lv_if_ne (tgt := 17) hx hb dJ0_isLatin1_aae02_10 (by decide) (fun h => absurd rfl h) (fun _ => ?_)
  refine lv_iconst (v := 1) hx hb dJ0_isLatin1_aae02_13 (by decide) ?_
  refine lv_goto (tgt := 18) hx hb dJ0_isLatin1_aae02_14 (by decide) ?_
  exact w_nret hx hb hr rfl hlocks hP hK hS dJ0_isLatin1_aae02_18 rfl rfl
abbrev rmJ0_length : Room := { frames := 1, cells := 0, slots := 0, locals := 20 }
set_option maxHeartbeats 4000000 in
set_option maxRecDepth 100000 in
theorem kJ_length (l : Launch) {X : bkX} {Y : bkY} {b0 i : Nat} (hi : i < 8) (w : bkW) : cIS l yJ0_length_8abf5 wsJ0_length_8abf5 rmJ0_length X Y b0 [.ref (Y.1 i)] w (nI (skL.getD i 0)) w := by
  refine Met.ofW (cc := cJ0_length_8abf5) (maxL := 1) (ret := some .int) (by decide) rfl ?_
  intro p e s m args below meth c s₁ B hml hv
  obtain ⟨ha, ⟨hP, hK⟩, hG⟩ := hv
  have hx := B.exec
  have hb := B.bytes
  have hr := B.returns
  have hts := atoms_spec (ws := wsJ0_length_8abf5) B.pre
  have hown : s.vm.findClass RJ0 = some m.cls := findClass_of_methodNamed B.named
  have hlocks := B.notSynchronized
  have hS : va_S (xF b0) s.heap s.heap [] := va_S.rf
  have hl := lv_entry ([.ref (Y.1 i)]) (n := 1) (Nat.le_of_ble_eq_true rfl)
  refine W.eq ((congrArg (fun z => entryFrame m z 1) ha).trans (lg_entry_eq m _ 1)) ?_
  generalize (lg_sl ([.ref (Y.1 i)]) ++ List.replicate (1 - (lg_sl ([.ref (Y.1 i)])).length) Slot.unset).toArray = ls at hl ⊢
  have hl : lv_has ls 1 [(0, .ref (Y.1 i))] := hl
  obtain ⟨g1, -, -, g4, g5, -, -, -⟩ := id hG
  refine lv_aload_n hx hb dJ0_length_8abf5_0 rfl (lv_at hl 0 rfl) ?_
  refine vk_getf hx hb (g1.1 i hi).2.2.1 hS hown (hts (.fieldLink RJ0 9 "java/lang/String" "value" "[B") (by decide +kernel)) (fun _ h => h) dJ0_length_8abf5_1 ?_
  refine va_tlen hx hb (g1.1 i hi).2.2.2 hS (v := nI (skL.getD i 0)) rfl dJ0_length_8abf5_4 ?_
  refine lv_aload_n hx hb dJ0_length_8abf5_5 rfl (lv_at hl 0 rfl) ?_
  refine w_ciS ⟨hx, hb, hml, hown, hts⟩ hP hK hG hS (kJ_coder l hi w) (cwV 0 hts gJ0_length_8abf5_J0_coder_7d493 rfl rfl rfl (by decide +kernel) ⟨Nat.le_of_ble_eq_true rfl, Nat.le_of_ble_eq_true rfl⟩) (vk_recv g1 hi hS) rfl hl.1 rfl (Nat.le_of_ble_eq_true rfl) dJ0_length_8abf5_6 ⟨Nat.zero_le _, Nat.zero_le _⟩ (fun H locs hP hS => ?_)
  refine lv_ishr hx hb dJ0_length_8abf5_9 ?_
  have e0 : nI (skL.getD i 0) >>> ((0 : Int32) &&& 31) = nI (skL.getD i 0) := by
    have h8 : i = 0 ∨ i = 1 ∨ i = 2 ∨ i = 3 ∨ i = 4 ∨ i = 5 ∨ i = 6 ∨ i = 7 := by omega
    rcases h8 with h | h | h | h | h | h | h | h <;> subst h <;> decide
  exact w_iret hx hb hr hlocks hP hK hS dJ0_length_8abf5_10 e0 rfl
abbrev rmJ3_checkIndex : Room := { frames := 0, cells := 0, slots := 0, locals := 0 }
set_option maxHeartbeats 4000000 in
set_option maxRecDepth 100000 in
theorem kJ_check3N (l : Launch) {X : bkX} {Y : bkY} {b0 k n : Nat} (hk : k < n) (hn : n < 2^31) (w : bkW) : cIS l yJ3_checkIndex_8e157 wsJ3_checkIndex_8e157 rmJ3_checkIndex X Y b0 [.int (nI k), .int (nI n), .null] w (nI k) w := by
  refine Met.ofW (cc := cJ3_checkIndex_8e157) (maxL := 3) (ret := some .int) (by decide) rfl ?_
  intro p e s m args below meth c s₁ B hml hv
  obtain ⟨ha, ⟨hP, hK⟩, hG⟩ := hv
  have hx := B.exec
  have hb := B.bytes
  have hr := B.returns
  have hts := atoms_spec (ws := wsJ3_checkIndex_8e157) B.pre
  have hown : s.vm.findClass RJ3 = some m.cls := findClass_of_methodNamed B.named
  have hlocks := B.notSynchronized
  have hS : va_S (xF b0) s.heap s.heap [] := va_S.rf
  have hl := lv_entry ([.int (nI k), .int (nI n), .null]) (n := 3) (Nat.le_of_ble_eq_true rfl)
  refine W.eq ((congrArg (fun z => entryFrame m z 3) ha).trans (lg_entry_eq m _ 3)) ?_
  generalize (lg_sl ([.int (nI k), .int (nI n), .null]) ++ List.replicate (3 - (lg_sl ([.int (nI k), .int (nI n), .null])).length) Slot.unset).toArray = ls at hl ⊢
  have hl : lv_has ls 3 [(0, .int (nI k)), (1, .int (nI n)), (2, .null)] := hl
  refine lv_iload_n hx hb dJ3_checkIndex_8e157_0 rfl (lv_at hl 0 rfl) ?_
  refine lv_if_lt (tgt := 9) hx hb dJ3_checkIndex_8e157_1 (by decide) (fun h => absurd h (nI_pos (by omega))) (fun _ => ?_)
  refine lv_iload_n hx hb dJ3_checkIndex_8e157_4 rfl (lv_at hl 0 rfl) ?_
  refine lv_iload_n hx hb dJ3_checkIndex_8e157_5 rfl (lv_at hl 1 rfl) ?_
  refine lv_icmp_lt (tgt := 16) hx hb dJ3_checkIndex_8e157_6 (by decide) (fun _ => ?_) (fun h => absurd (nI_lt hk hn) h)
  refine lv_iload_n hx hb dJ3_checkIndex_8e157_16 rfl (lv_at hl 0 rfl) ?_
  exact w_iret hx hb hr hlocks hP hK hS dJ3_checkIndex_8e157_17 rfl rfl
set_option maxHeartbeats 4000000 in
set_option maxRecDepth 100000 in
theorem kJ_check3R (l : Launch) {X : bkX} {Y : bkY} {b0 k n : Nat} {q : Nat} (hk : k < n) (hn : n < 2^31) (w : bkW) : cIS l yJ3_checkIndex_8e157 wsJ3_checkIndex_8e157 rmJ3_checkIndex X Y b0 [.int (nI k), .int (nI n), .ref q] w (nI k) w := by
  refine Met.ofW (cc := cJ3_checkIndex_8e157) (maxL := 3) (ret := some .int) (by decide) rfl ?_
  intro p e s m args below meth c s₁ B hml hv
  obtain ⟨ha, ⟨hP, hK⟩, hG⟩ := hv
  have hx := B.exec
  have hb := B.bytes
  have hr := B.returns
  have hts := atoms_spec (ws := wsJ3_checkIndex_8e157) B.pre
  have hown : s.vm.findClass RJ3 = some m.cls := findClass_of_methodNamed B.named
  have hlocks := B.notSynchronized
  have hS : va_S (xF b0) s.heap s.heap [] := va_S.rf
  have hl := lv_entry ([.int (nI k), .int (nI n), .ref q]) (n := 3) (Nat.le_of_ble_eq_true rfl)
  refine W.eq ((congrArg (fun z => entryFrame m z 3) ha).trans (lg_entry_eq m _ 3)) ?_
  generalize (lg_sl ([.int (nI k), .int (nI n), .ref q]) ++ List.replicate (3 - (lg_sl ([.int (nI k), .int (nI n), .ref q])).length) Slot.unset).toArray = ls at hl ⊢
  have hl : lv_has ls 3 [(0, .int (nI k)), (1, .int (nI n)), (2, .ref q)] := hl
  refine lv_iload_n hx hb dJ3_checkIndex_8e157_0 rfl (lv_at hl 0 rfl) ?_
  refine lv_if_lt (tgt := 9) hx hb dJ3_checkIndex_8e157_1 (by decide) (fun h => absurd h (nI_pos (by omega))) (fun _ => ?_)
  refine lv_iload_n hx hb dJ3_checkIndex_8e157_4 rfl (lv_at hl 0 rfl) ?_
  refine lv_iload_n hx hb dJ3_checkIndex_8e157_5 rfl (lv_at hl 1 rfl) ?_
  refine lv_icmp_lt (tgt := 16) hx hb dJ3_checkIndex_8e157_6 (by decide) (fun _ => ?_) (fun h => absurd (nI_lt hk hn) h)
  refine lv_iload_n hx hb dJ3_checkIndex_8e157_16 rfl (lv_at hl 0 rfl) ?_
  exact w_iret hx hb hr hlocks hP hK hS dJ3_checkIndex_8e157_17 rfl rfl
abbrev rmJ0_checkIndex : Room := { frames := 1, cells := 0, slots := 0, locals := 22 }
set_option maxHeartbeats 4000000 in
set_option maxRecDepth 100000 in
theorem kJ_check0 (l : Launch) {X : bkX} {Y : bkY} {b0 k n : Nat} (hk : k < n) (hn : n < 2^31) (w : bkW) : cVS l yJ0_checkIndex_df160 wsJ0_checkIndex_df160 rmJ0_checkIndex X Y b0 [.int (nI k), .int (nI n)] w w := by
  refine Met.ofW (cc := cJ0_checkIndex_df160) (maxL := 2) (ret := none) (by decide) rfl ?_
  intro p e s m args below meth c s₁ B hml hv
  obtain ⟨ha, ⟨hP, hK⟩, hG⟩ := hv
  have hx := B.exec
  have hb := B.bytes
  have hr := B.returns
  have hts := atoms_spec (ws := wsJ0_checkIndex_df160) B.pre
  have hown : s.vm.findClass RJ0 = some m.cls := findClass_of_methodNamed B.named
  have hlocks := B.notSynchronized
  have hS : va_S (xF b0) s.heap s.heap [] := va_S.rf
  have hl := lv_entry ([.int (nI k), .int (nI n)]) (n := 2) (Nat.le_of_ble_eq_true rfl)
  refine W.eq ((congrArg (fun z => entryFrame m z 2) ha).trans (lg_entry_eq m _ 2)) ?_
  generalize (lg_sl ([.int (nI k), .int (nI n)]) ++ List.replicate (2 - (lg_sl ([.int (nI k), .int (nI n)])).length) Slot.unset).toArray = ls at hl ⊢
  have hl : lv_has ls 2 [(0, .int (nI k)), (1, .int (nI n))] := hl
  obtain ⟨g1, -, -, g4, g5, -, -, -⟩ := id hG
  refine lv_iload_n hx hb dJ0_checkIndex_df160_0 rfl (lv_at hl 0 rfl) ?_
  refine lv_iload_n hx hb dJ0_checkIndex_df160_1 rfl (lv_at hl 1 rfl) ?_
  have hk1 := hts (.fieldLink RJ0 1053 "jdk/internal/util/Preconditions" "SIOOBE_FORMATTER" "Ljava/util/function/BiFunction;") (by decide +kernel)
  rcases g5 with g5 | ⟨q, g5⟩
  · refine va_gets hx hb g5 hS hown hk1 (fun _ h => h) dJ0_checkIndex_df160_2 ?_
    refine w_csiS ⟨hx, hb, hml, hown, hts⟩ hP hK hG hS (kJ_check3N l hk hn w) (va_cwS 3 hts gJ0_checkIndex_df160_J3_checkIndex_8e157 rfl rfl rfl (by decide +kernel) ⟨Nat.le_of_ble_eq_true rfl, Nat.le_of_ble_eq_true rfl⟩) rfl hl.1 rfl (Nat.le_of_ble_eq_true rfl) dJ0_checkIndex_df160_5 ⟨Nat.zero_le _, Nat.zero_le _⟩ (fun H locs hP hS => ?_)
    refine lv_pop hx hb dJ0_checkIndex_df160_8 rfl ?_
    exact w_vret hx hb hr hlocks hP hK hS dJ0_checkIndex_df160_9 rfl
  · refine va_gets hx hb g5 hS hown hk1 (fun _ h => h) dJ0_checkIndex_df160_2 ?_
    refine w_csiS ⟨hx, hb, hml, hown, hts⟩ hP hK hG hS (kJ_check3R l hk hn w) (va_cwS 3 hts gJ0_checkIndex_df160_J3_checkIndex_8e157 rfl rfl rfl (by decide +kernel) ⟨Nat.le_of_ble_eq_true rfl, Nat.le_of_ble_eq_true rfl⟩) rfl hl.1 rfl (Nat.le_of_ble_eq_true rfl) dJ0_checkIndex_df160_5 ⟨Nat.zero_le _, Nat.zero_le _⟩ (fun H locs hP hS => ?_)
    refine lv_pop hx hb dJ0_checkIndex_df160_8 rfl ?_
    exact w_vret hx hb hr hlocks hP hK hS dJ0_checkIndex_df160_9 rfl
abbrev rmJ1_charAt : Room := { frames := 2, cells := 0, slots := 0, locals := 43 }
theorem skc_ok : ∀ i, i < 8 → skL.getD i 0 < 2^31 ∧ ∀ k, k < skL.getD i 0 → (((skB.getD i []).getD k 0 &&& 255).toUInt32 % 65536).toInt32 = skC i k ∧ narrow .char (.int (skC i k)) = .int (skC i k) := by
  intro i hi
  have h8 : i = 0 ∨ i = 1 ∨ i = 2 ∨ i = 3 ∨ i = 4 ∨ i = 5 ∨ i = 6 ∨ i = 7 := by omega
  refine ⟨?_, fun k hk => ?_⟩
  · rcases h8 with h | h | h | h | h | h | h | h <;> subst h <;> decide
  · have hk6 : k < 6 := by
      rcases h8 with h | h | h | h | h | h | h | h <;> subst h <;> exact Nat.lt_of_lt_of_le hk (by decide)
    have k6 : k = 0 ∨ k = 1 ∨ k = 2 ∨ k = 3 ∨ k = 4 ∨ k = 5 := by omega
    rcases h8 with h | h | h | h | h | h | h | h <;> subst h <;> rcases k6 with h | h | h | h | h | h <;> subst h <;> exact ⟨by decide, rfl⟩
set_option maxHeartbeats 4000000 in
set_option maxRecDepth 100000 in
theorem kJ_charAt1 (l : Launch) {X : bkX} {Y : bkY} {b0 i k : Nat} (hi : i < 8) (hk : k < skL.getD i 0) (w : bkW) : cIS l yJ1_charAt_3b067 wsJ1_charAt_3b067 rmJ1_charAt X Y b0 [.ref (Y.2 i), .int (nI k)] w (skC i k) w := by
  refine Met.ofW (cc := cJ1_charAt_3b067) (maxL := 2) (ret := some .char) (by decide) rfl ?_
  intro p e s m args below meth c s₁ B hml hv
  obtain ⟨ha, ⟨hP, hK⟩, hG⟩ := hv
  have hx := B.exec
  have hb := B.bytes
  have hr := B.returns
  have hts := atoms_spec (ws := wsJ1_charAt_3b067) B.pre
  have hown : s.vm.findClass RJ1 = some m.cls := findClass_of_methodNamed B.named
  have hlocks := B.notSynchronized
  have hS : va_S (xF b0) s.heap s.heap [] := va_S.rf
  have hl := lv_entry ([.ref (Y.2 i), .int (nI k)]) (n := 2) (Nat.le_of_ble_eq_true rfl)
  refine W.eq ((congrArg (fun z => entryFrame m z 2) ha).trans (lg_entry_eq m _ 2)) ?_
  generalize (lg_sl ([.ref (Y.2 i), .int (nI k)]) ++ List.replicate (2 - (lg_sl ([.ref (Y.2 i), .int (nI k)])).length) Slot.unset).toArray = ls at hl ⊢
  have hl : lv_has ls 2 [(0, .ref (Y.2 i)), (1, .int (nI k))] := hl
  obtain ⟨g1, -, -, g4, g5, -, -, -⟩ := id hG
  obtain ⟨hn31, hch⟩ := skc_ok i hi
  obtain ⟨hc1, hc2⟩ := hch k hk
  refine lv_iload_n hx hb dJ1_charAt_3b067_0 rfl (lv_at hl 1 rfl) ?_
  refine lv_aload_n hx hb dJ1_charAt_3b067_1 rfl (lv_at hl 0 rfl) ?_
  refine va_tlen hx hb (g1.1 i hi).2.2.2 hS (v := nI (skL.getD i 0)) rfl dJ1_charAt_3b067_2 ?_
  refine w_csvS ⟨hx, hb, hml, hown, hts⟩ hP hK hG hS (kJ_check0 l hk hn31 w) (va_cwS 2 hts gJ1_charAt_3b067_J0_checkIndex_df160 rfl rfl rfl (by decide +kernel) ⟨Nat.le_of_ble_eq_true rfl, Nat.le_of_ble_eq_true rfl⟩) rfl hl.1 rfl (Nat.le_of_ble_eq_true rfl) dJ1_charAt_3b067_3 ⟨Nat.zero_le _, Nat.zero_le _⟩ (fun H locs hP hS => ?_)
  refine lv_aload_n hx hb dJ1_charAt_3b067_6 rfl (lv_at hl 0 rfl) ?_
  refine lv_iload_n hx hb dJ1_charAt_3b067_7 rfl (lv_at hl 1 rfl) ?_
  refine va_tb hx hb (g1.1 i hi).2.2.2 hS (vp_in_nI hk hn31) (v := .int ((skB.getD i []).getD k 0)) (by rw [nI_clamp (by omega)]) dJ1_charAt_3b067_8 ?_
  refine lv_sipush (v := 255) hx hb dJ1_charAt_3b067_9 (by decide) ?_
  refine lv_iand hx hb dJ1_charAt_3b067_12 ?_
  refine lv_i2c (v := skC i k) hx hb dJ1_charAt_3b067_13 hc1 ?_
  exact w_nret hx hb hr hc2 hlocks hP hK hS dJ1_charAt_3b067_14 rfl rfl
abbrev rmJ0_charAt : Room := { frames := 3, cells := 0, slots := 0, locals := 64 }
set_option maxHeartbeats 4000000 in
set_option maxRecDepth 100000 in
theorem kJ_charAt (l : Launch) {X : bkX} {Y : bkY} {b0 i k : Nat} (hi : i < 8) (hk : k < skL.getD i 0) (w : bkW) : cIS l yJ0_charAt_5068e wsJ0_charAt_5068e rmJ0_charAt X Y b0 [.ref (Y.1 i), .int (nI k)] w (skC i k) w := by
  refine Met.ofW (cc := cJ0_charAt_5068e) (maxL := 2) (ret := some .char) (by decide) rfl ?_
  intro p e s m args below meth c s₁ B hml hv
  obtain ⟨ha, ⟨hP, hK⟩, hG⟩ := hv
  have hx := B.exec
  have hb := B.bytes
  have hr := B.returns
  have hts := atoms_spec (ws := wsJ0_charAt_5068e) B.pre
  have hown : s.vm.findClass RJ0 = some m.cls := findClass_of_methodNamed B.named
  have hlocks := B.notSynchronized
  have hS : va_S (xF b0) s.heap s.heap [] := va_S.rf
  have hl := lv_entry ([.ref (Y.1 i), .int (nI k)]) (n := 2) (Nat.le_of_ble_eq_true rfl)
  refine W.eq ((congrArg (fun z => entryFrame m z 2) ha).trans (lg_entry_eq m _ 2)) ?_
  generalize (lg_sl ([.ref (Y.1 i), .int (nI k)]) ++ List.replicate (2 - (lg_sl ([.ref (Y.1 i), .int (nI k)])).length) Slot.unset).toArray = ls at hl ⊢
  have hl : lv_has ls 2 [(0, .ref (Y.1 i)), (1, .int (nI k))] := hl
  obtain ⟨g1, -, -, g4, g5, -, -, -⟩ := id hG
  obtain ⟨hn31, hch⟩ := skc_ok i hi
  obtain ⟨hc1, hc2⟩ := hch k hk
  refine lv_aload_n hx hb dJ0_charAt_5068e_0 rfl (lv_at hl 0 rfl) ?_
  refine w_ciS ⟨hx, hb, hml, hown, hts⟩ hP hK hG hS (kJ_isLatin1 l hi w) (cwV 0 hts gJ0_charAt_5068e_J0_isLatin1_aae02 rfl rfl rfl (by decide +kernel) ⟨Nat.le_of_ble_eq_true rfl, Nat.le_of_ble_eq_true rfl⟩) (vk_recv g1 hi hS) rfl hl.1 rfl (Nat.le_of_ble_eq_true rfl) dJ0_charAt_5068e_1 ⟨Nat.zero_le _, Nat.zero_le _⟩ (fun H locs hP hS => ?_)
  refine lv_if_eq (tgt := 16) hx hb dJ0_charAt_5068e_4 (by decide) (fun h => absurd h (by decide)) (fun _ => ?_)
  refine lv_aload_n hx hb dJ0_charAt_5068e_7 rfl (lv_at hl 0 rfl) ?_
  refine vk_getf hx hb (g1.1 i hi).2.2.1 hS hown (hts (.fieldLink RJ0 9 "java/lang/String" "value" "[B") (by decide +kernel)) (fun _ h => h) dJ0_charAt_5068e_8 ?_
  refine lv_iload_n hx hb dJ0_charAt_5068e_11 rfl (lv_at hl 1 rfl) ?_
  refine w_csiS ⟨hx, hb, hml, hown, hts⟩ hP hK hG hS (kJ_charAt1 l hi hk w) (va_cwS 2 hts gJ0_charAt_5068e_J1_charAt_3b067 rfl rfl rfl (by decide +kernel) ⟨Nat.le_of_ble_eq_true rfl, Nat.le_of_ble_eq_true rfl⟩) rfl hl.1 rfl (Nat.le_of_ble_eq_true rfl) dJ0_charAt_5068e_12 ⟨Nat.zero_le _, Nat.zero_le _⟩ (fun H locs hP hS => ?_)
  exact w_nret hx hb hr hc2 hlocks hP hK hS dJ0_charAt_5068e_15 rfl rfl
