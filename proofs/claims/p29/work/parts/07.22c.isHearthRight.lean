abbrev rmL_isHearthRight : Room := { frames := 6, cells := 0, slots := 0, locals := 127 }
set_option maxHeartbeats 4000000 in
set_option maxRecDepth 100000 in
theorem kL_isHearthRight (l : Launch) {X : bkX} {b0 : Nat} (hX : XO X b0) (w : bkW) {N : Nat} {f0 : bkA} {g0 : bkA} {c0 : bkA} {y0 : Nat → bkA} {o0 : Nat → Int32} {res9 : Int32} (hf : mL_isHearthRight N f0 c0 = some res9) : cI l yL_isHearthRight wsL_isHearthRight rmL_isHearthRight X b0 [.ref (xa X 306)] (pbt w f0 g0 c0 y0 o0) res9 (pbt w f0 g0 c0 y0 o0) := by
  refine Met.ofW (cc := cL_isHearthRight) (maxL := 7) (ret := (some .boolean)) (by decide) rfl ?_
  intro p e s m args below meth c s₁ B hml hv
  obtain ⟨ha, hP, hK⟩ := hv
  have hx := B.exec
  have hb := B.bytes
  have hr := B.returns
  have hts := atoms_spec (ws := wsL_isHearthRight) B.pre
  have hown : s.vm.findClass RL = some m.cls := findClass_of_methodNamed B.named
  have hlocks := B.notSynchronized
  obtain ⟨R, hR⟩ : ∃ R, R = (headSpec wsL_isHearthRight rmL_isHearthRight).room := ⟨_, rfl⟩
  rw [← hR]
  have hR1 : R.frames = 6 := by rw [hR]; rfl
  have hR2 : R.locals = 127 := by rw [hR]; rfl
  obtain ⟨Q, hQ⟩ : ∃ Q : State → Prop, Q = MQ below (va_Qi (fun r' (_ : Unit) => r' = res9) (fun _ t => WU X (pbt w f0 g0 c0 y0 o0) t) (xF b0)) args s 0 0 (xF b0) := ⟨_, rfl⟩
  rw [← hQ]
  have hS : va_S (xF b0) s.heap s.heap [] := va_S.rf
  have hl := lv_entry ([.ref (xa X 306)]) (n := 7) (Nat.le_of_ble_eq_true rfl)
  refine W.eq ((congrArg (fun z => entryFrame m z 7) ha).trans (lg_entry_eq m _ 7)) ?_
  generalize (lg_sl ([.ref (xa X 306)]) ++ List.replicate (7 - (lg_sl ([.ref (xa X 306)])).length) Slot.unset).toArray = ls at hl ⊢
  have hl : lv_has ls 7 [(0, .ref (xa X 306))] := hl
  have hc_8 := (cwV 1 hts gL_isHearthRight_X8_whole rfl rfl rfl (by decide +kernel) ⟨by rw [hR1]; exact Nat.le_of_ble_eq_true rfl, by rw [hR2]; exact Nat.le_of_ble_eq_true rfl⟩ : CallW R s args RL RX8 8 yX8_whole cX8_whole 2 (some .int) wsX8_whole rmX8_whole 0 0 1)
  have hc_62 := (cwS 1 hts gL_isHearthRight_L_many rfl rfl rfl (by decide +kernel) ⟨by rw [hR1]; exact Nat.le_of_ble_eq_true rfl, by rw [hR2]; exact Nat.le_of_ble_eq_true rfl⟩ : CallB R s args RL 62 yL_many cL_many 3 (some .int) wsL_many rmL_many 0 0 1 ∧ (Cond.static yL_many).before args s = true)
  have hc_68 := (cwV 2 hts gL_isHearthRight_X8_place rfl rfl rfl (by decide +kernel) ⟨by rw [hR1]; exact Nat.le_of_ble_eq_true rfl, by rw [hR2]; exact Nat.le_of_ble_eq_true rfl⟩ : CallW R s args RL RX8 68 yX8_place cX8_place 3 (some .int) wsX8_place rmX8_place 0 0 2)
  have hc_35 := (cwV 1 hts gL_isHearthRight_X8_line rfl rfl rfl (by decide +kernel) ⟨by rw [hR1]; exact Nat.le_of_ble_eq_true rfl, by rw [hR2]; exact Nat.le_of_ble_eq_true rfl⟩ : CallW R s args RL RX8 35 yX8_line cX8_line 2 (some .int) wsX8_line rmX8_line 0 0 1)
  have hc_59 := (cwV 2 hts gL_isHearthRight_X8_dough rfl rfl rfl (by decide +kernel) ⟨by rw [hR1]; exact Nat.le_of_ble_eq_true rfl, by rw [hR2]; exact Nat.le_of_ble_eq_true rfl⟩ : CallW R s args RL RX8 59 yX8_dough cX8_dough 3 (some .int) wsX8_dough rmX8_dough 0 0 2)
  have hc_65 := (cwV 1 hts gL_isHearthRight_X8_reason rfl rfl rfl (by decide +kernel) ⟨by rw [hR1]; exact Nat.le_of_ble_eq_true rfl, by rw [hR2]; exact Nat.le_of_ble_eq_true rfl⟩ : CallW R s args RL RX8 65 yX8_reason cX8_reason 2 (some .int) wsX8_reason rmX8_reason 0 0 1)
  unfold mL_isHearthRight at hf
  refine lv_iconst (v := 0) hx hb dL_isHearthRight_0 (by decide) ?_
  refine lv_istore_n (lv' := [(1, .int 0), (0, .ref (xa X 306))]) hx hb dL_isHearthRight_1 rfl hl (by decide) rfl (fun ls hl => ?_)
  refine lv_iconst (v := 0) hx hb dL_isHearthRight_2 (by decide) ?_
  refine lv_istore_n (lv' := [(2, .int 0), (1, .int 0), (0, .ref (xa X 306))]) hx hb dL_isHearthRight_3 rfl hl (by decide) rfl (fun ls hl => ?_)
  refine lv_iconst (v := 0) hx hb dL_isHearthRight_4 (by decide) ?_
  refine lv_istore_n (lv' := [(3, .int 0), (2, .int 0), (1, .int 0), (0, .ref (xa X 306))]) hx hb dL_isHearthRight_5 rfl hl (by decide) rfl (fun ls hl => ?_)
  have L6 : ∀ (n : Nat) (x2 : Int32) (x3 : Int32) (x4 : Int32)  (H : Heap) (locs : List Loc) (ls : Array Slot), mL_isHearthRight_L6 N n x2 x3 x4 f0 c0 = some res9 → HW X (pbt w f0 g0 c0 y0 o0) H → va_S (xF b0) s.heap H locs → lv_has ls 7 [(0, .ref (xa X 306)), (1, .int x2), (2, .int x3), (3, .int x4)] → W p l e R s m args below meth c H locs 0 0 Q (F0 m 6 ls []) := by
    intro n; induction n with
    | zero => intro x2 x3 x4 H locs ls hf; rw [mL_isHearthRight_L6] at hf; cases hf
    | succ n ih =>
      intro x2 x3 x4 H locs ls hf hP hS hl
      rw [mL_isHearthRight_L6] at hf
      refine lv_iload_n hx hb dL_isHearthRight_6 rfl (lv_at hl 3 rfl) ?_
      refine lv_aload_n hx hb dL_isHearthRight_7 rfl (lv_at hl 0 rfl) ?_
      refine lv_iconst (v := 2) hx hb dL_isHearthRight_8 (by decide) ?_
      obtain ⟨x5, hc6, hf⟩ := ob1_e hf
      refine w_ci ⟨hx, hb, hml, hown, hts⟩ hP hK hS (k8_whole l hX w hc6) hc_8 (w_recv hP hK (by decide) emb_bt rfl) rfl hl.1 rfl (Nat.le_of_ble_eq_true rfl) dL_isHearthRight_9 ⟨Nat.zero_le _, Nat.zero_le _⟩ (fun H locs hP hS => ?_)
      refine lv_icmp_ge (tgt := 215) hx hb dL_isHearthRight_12 (by decide) (fun h7 => ?_) (fun h7 => ?_)
      · rw [if_pos h7] at hf
        refine lv_iconst (v := 0) hx hb dL_isHearthRight_215 (by decide) ?_
        refine lv_istore_n (lv' := [(3, .int 0), (0, .ref (xa X 306)), (1, .int x2), (2, .int x3)]) hx hb dL_isHearthRight_216 rfl hl (by decide) rfl (fun ls hl => ?_)
        have L217 : ∀ (n : Nat) (x9 : Int32) (x10 : Int32) (x11 : Int32)  (H : Heap) (locs : List Loc) (ls : Array Slot), mL_isHearthRight_L217 N n x9 x10 x11 f0 c0 = some res9 → HW X (pbt w f0 g0 c0 y0 o0) H → va_S (xF b0) s.heap H locs → lv_has ls 7 [(0, .ref (xa X 306)), (1, .int x9), (2, .int x10), (3, .int x11)] → W p l e R s m args below meth c H locs 0 0 Q (F0 m 217 ls []) := by
          intro n; induction n with
          | zero => intro x9 x10 x11 H locs ls hf; rw [mL_isHearthRight_L217] at hf; cases hf
          | succ n ih =>
            intro x9 x10 x11 H locs ls hf hP hS hl
            rw [mL_isHearthRight_L217] at hf
            refine lv_iload_n hx hb dL_isHearthRight_217 rfl (lv_at hl 3 rfl) ?_
            refine lv_bipush (v := 12) hx hb dL_isHearthRight_218 (by decide) ?_
            refine lv_icmp_ge (tgt := 358) hx hb dL_isHearthRight_220 (by decide) (fun h12 => ?_) (fun h12 => ?_)
            · rw [if_pos h12] at hf
              refine lv_iload_n hx hb dL_isHearthRight_358 rfl (lv_at hl 2 rfl) ?_
              refine lv_aload_n hx hb dL_isHearthRight_359 rfl (lv_at hl 0 rfl) ?_
              refine lv_iconst (v := 5) hx hb dL_isHearthRight_360 (by decide) ?_
              obtain ⟨x13, hc14, hf⟩ := ob1_e hf
              refine w_ci ⟨hx, hb, hml, hown, hts⟩ hP hK hS (k8_whole l hX w hc14) hc_8 (w_recv hP hK (by decide) emb_bt rfl) rfl hl.1 rfl (Nat.le_of_ble_eq_true rfl) dL_isHearthRight_361 ⟨Nat.zero_le _, Nat.zero_le _⟩ (fun H locs hP hS => ?_)
              refine lv_icmp_ne (tgt := 410) hx hb dL_isHearthRight_364 (by decide) (fun h15 => ?_) (fun h15 => ?_)
              · rw [if_neg h15] at hf
                refine lv_iconst (v := 0) hx hb dL_isHearthRight_410 (by decide) ?_
                have hf := Option.some.inj hf
                obtain rfl := hf
                rw [hQ]
                exact w_zret hx hb hr hlocks hP hK hS dL_isHearthRight_411 (by decide) rfl rfl
              · rw [if_pos h15] at hf
                refine lv_aload_n hx hb dL_isHearthRight_367 rfl (lv_at hl 0 rfl) ?_
                refine lv_bipush (v := 6) hx hb dL_isHearthRight_368 (by decide) ?_
                obtain ⟨x16, hc17, hf⟩ := ob1_e hf
                refine w_ci ⟨hx, hb, hml, hown, hts⟩ hP hK hS (k8_whole l hX w hc17) hc_8 (w_recv hP hK (by decide) emb_bt rfl) rfl hl.1 rfl (Nat.le_of_ble_eq_true rfl) dL_isHearthRight_370 ⟨Nat.zero_le _, Nat.zero_le _⟩ (fun H locs hP hS => ?_)
                refine lv_bipush (v := 12) hx hb dL_isHearthRight_373 (by decide) ?_
                refine lv_iload_n hx hb dL_isHearthRight_375 rfl (lv_at hl 1 rfl) ?_
                obtain ⟨x18, hc19, hf⟩ := ob1_e hf
                refine w_csi ⟨hx, hb, hml, hown, hts⟩ hP hK hS (kL_many l hX (pbt w f0 g0 c0 y0 o0) hc19) hc_62 rfl hl.1 rfl (Nat.le_of_ble_eq_true rfl) dL_isHearthRight_376 ⟨Nat.zero_le _, Nat.zero_le _⟩ (fun H locs hP hS => ?_)
                refine lv_isub hx hb dL_isHearthRight_379 ?_
                refine lv_icmp_ne (tgt := 410) hx hb dL_isHearthRight_380 (by decide) (fun h20 => ?_) (fun h20 => ?_)
                · rw [if_neg h20] at hf
                  refine lv_iconst (v := 0) hx hb dL_isHearthRight_410 (by decide) ?_
                  have hf := Option.some.inj hf
                  obtain rfl := hf
                  rw [hQ]
                  exact w_zret hx hb hr hlocks hP hK hS dL_isHearthRight_411 (by decide) rfl rfl
                · rw [if_pos h20] at hf
                  refine lv_aload_n hx hb dL_isHearthRight_383 rfl (lv_at hl 0 rfl) ?_
                  refine lv_iconst (v := 0) hx hb dL_isHearthRight_384 (by decide) ?_
                  refine lv_iconst (v := 0) hx hb dL_isHearthRight_385 (by decide) ?_
                  obtain ⟨x21, hc22, hf⟩ := ob1_e hf
                  refine w_ci ⟨hx, hb, hml, hown, hts⟩ hP hK hS (k8_place l hX w hc22) hc_68 (w_recv hP hK (by decide) emb_bt rfl) rfl hl.1 rfl (Nat.le_of_ble_eq_true rfl) dL_isHearthRight_386 ⟨Nat.zero_le _, Nat.zero_le _⟩ (fun H locs hP hS => ?_)
                  refine lv_aload_n hx hb dL_isHearthRight_389 rfl (lv_at hl 0 rfl) ?_
                  refine lv_iconst (v := 3) hx hb dL_isHearthRight_390 (by decide) ?_
                  obtain ⟨x23, hc24, hf⟩ := ob1_e hf
                  refine w_ci ⟨hx, hb, hml, hown, hts⟩ hP hK hS (k8_whole l hX w hc24) hc_8 (w_recv hP hK (by decide) emb_bt rfl) rfl hl.1 rfl (Nat.le_of_ble_eq_true rfl) dL_isHearthRight_391 ⟨Nat.zero_le _, Nat.zero_le _⟩ (fun H locs hP hS => ?_)
                  refine lv_icmp_ne (tgt := 410) hx hb dL_isHearthRight_394 (by decide) (fun h25 => ?_) (fun h25 => ?_)
                  · rw [if_neg h25] at hf
                    refine lv_iconst (v := 0) hx hb dL_isHearthRight_410 (by decide) ?_
                    have hf := Option.some.inj hf
                    obtain rfl := hf
                    rw [hQ]
                    exact w_zret hx hb hr hlocks hP hK hS dL_isHearthRight_411 (by decide) rfl rfl
                  · rw [if_pos h25] at hf
                    refine lv_aload_n hx hb dL_isHearthRight_397 rfl (lv_at hl 0 rfl) ?_
                    refine lv_iload_n hx hb dL_isHearthRight_398 rfl (lv_at hl 2 rfl) ?_
                    obtain ⟨x26, hc27, hf⟩ := ob1_e hf
                    refine w_ci ⟨hx, hb, hml, hown, hts⟩ hP hK hS (k8_line l hX w hc27) hc_35 (w_recv hP hK (by decide) emb_bt rfl) rfl hl.1 rfl (Nat.le_of_ble_eq_true rfl) dL_isHearthRight_399 ⟨Nat.zero_le _, Nat.zero_le _⟩ (fun H locs hP hS => ?_)
                    refine lv_iconst (v := (-1)) hx hb dL_isHearthRight_402 (by decide) ?_
                    refine lv_icmp_ne (tgt := 410) hx hb dL_isHearthRight_403 (by decide) (fun h28 => ?_) (fun h28 => ?_)
                    · rw [if_neg h28] at hf
                      refine lv_iconst (v := 0) hx hb dL_isHearthRight_410 (by decide) ?_
                      have hf := Option.some.inj hf
                      obtain rfl := hf
                      rw [hQ]
                      exact w_zret hx hb hr hlocks hP hK hS dL_isHearthRight_411 (by decide) rfl rfl
                    · rw [if_pos h28] at hf
                      refine lv_iconst (v := 1) hx hb dL_isHearthRight_406 (by decide) ?_
                      refine lv_goto (tgt := 411) hx hb dL_isHearthRight_407 (by decide) ?_
                      have hf := Option.some.inj hf
                      obtain rfl := hf
                      rw [hQ]
                      exact w_zret hx hb hr hlocks hP hK hS dL_isHearthRight_411 (by decide) rfl rfl
            · rw [if_neg h12] at hf
              refine lv_aload_n hx hb dL_isHearthRight_223 rfl (lv_at hl 0 rfl) ?_
              refine lv_iload_n hx hb dL_isHearthRight_224 rfl (lv_at hl 3 rfl) ?_
              refine lv_iconst (v := 1) hx hb dL_isHearthRight_225 (by decide) ?_
              obtain ⟨x29, hc30, hf⟩ := ob1_e hf
              refine w_ci ⟨hx, hb, hml, hown, hts⟩ hP hK hS (k8_place l hX w hc30) hc_68 (w_recv hP hK (by decide) emb_bt rfl) rfl hl.1 rfl (Nat.le_of_ble_eq_true rfl) dL_isHearthRight_226 ⟨Nat.zero_le _, Nat.zero_le _⟩ (fun H locs hP hS => ?_)
              refine lv_istore (lv' := [(4, .int x29), (0, .ref (xa X 306)), (1, .int x9), (2, .int x10), (3, .int x11)]) hx hb dL_isHearthRight_229 hl (by decide) rfl (fun ls hl => ?_)
              refine lv_iload hx hb dL_isHearthRight_231 (lv_at hl 0 rfl) ?_
              obtain ⟨x32, ejK33, hf⟩ := lt1_e hf
              have K33 : ∀ (H : Heap) (locs : List Loc) (ls : Array Slot), HW X (pbt w f0 g0 c0 y0 o0) H → va_S (xF b0) s.heap H locs → lv_has ls 7 [(0, .ref (xa X 306)), (1, .int x9), (2, .int x10), (3, .int x11), (4, .int x29)] → W p l e R s m args below meth c H locs 0 0 Q (F0 m 241 ls [.int x32]) := by
                intro H locs ls hP hS hl
                refine lv_iload_n hx hb dL_isHearthRight_241 rfl (lv_at hl 1 rfl) ?_
                refine lv_iload_n hx hb dL_isHearthRight_242 rfl (lv_at hl 3 rfl) ?_
                refine lv_ishr hx hb dL_isHearthRight_243 ?_
                refine lv_iconst (v := 1) hx hb dL_isHearthRight_244 (by decide) ?_
                refine lv_iand hx hb dL_isHearthRight_245 ?_
                refine lv_iconst (v := 1) hx hb dL_isHearthRight_246 (by decide) ?_
                obtain ⟨x35, ejK36, hf⟩ := lt1_e hf
                have K36 : ∀ (H : Heap) (locs : List Loc) (ls : Array Slot), HW X (pbt w f0 g0 c0 y0 o0) H → va_S (xF b0) s.heap H locs → lv_has ls 7 [(0, .ref (xa X 306)), (1, .int x9), (2, .int x10), (3, .int x11), (4, .int x29)] → W p l e R s m args below meth c H locs 0 0 Q (F0 m 255 ls [.int x35, .int x32]) := by
                  intro H locs ls hP hS hl
                  refine lv_icmp_ne (tgt := 350) hx hb dL_isHearthRight_255 (by decide) (fun h37 => ?_) (fun h37 => ?_)
                  · rw [if_neg h37] at hf
                    refine lv_iconst (v := 0) hx hb dL_isHearthRight_350 (by decide) ?_
                    have hf := Option.some.inj hf
                    obtain rfl := hf
                    rw [hQ]
                    exact w_zret hx hb hr hlocks hP hK hS dL_isHearthRight_351 (by decide) rfl rfl
                  · rw [if_pos h37] at hf
                    refine lv_iload hx hb dL_isHearthRight_258 (lv_at hl 4 rfl) ?_
                    refine lv_if_lt (tgt := 278) hx hb dL_isHearthRight_260 (by decide) (fun h38 => ?_) (fun h38 => ?_)
                    · rw [if_pos h38] at hf
                      refine lv_iload_n hx hb dL_isHearthRight_278 rfl (lv_at hl 3 rfl) ?_
                      refine lv_if_le (tgt := 299) hx hb dL_isHearthRight_279 (by decide) (fun h39 => ?_) (fun h39 => ?_)
                      · rw [if_pos h39] at hf
                        refine lv_iload hx hb dL_isHearthRight_299 (lv_at hl 4 rfl) ?_
                        obtain ⟨x41, ejK42, hf⟩ := lt1_e hf
                        have K42 : ∀ (H : Heap) (locs : List Loc) (ls : Array Slot), HW X (pbt w f0 g0 c0 y0 o0) H → va_S (xF b0) s.heap H locs → lv_has ls 7 [(0, .ref (xa X 306)), (1, .int x9), (2, .int x10), (3, .int x11)] → W p l e R s m args below meth c H locs 0 0 Q (F0 m 309 ls [.int x41]) := by
                          intro H locs ls hP hS hl
                          refine lv_aload_n hx hb dL_isHearthRight_309 rfl (lv_at hl 0 rfl) ?_
                          refine lv_iload_n hx hb dL_isHearthRight_310 rfl (lv_at hl 3 rfl) ?_
                          refine lv_iconst (v := 2) hx hb dL_isHearthRight_311 (by decide) ?_
                          obtain ⟨x43, hc44, hf⟩ := ob1_e hf
                          refine w_ci ⟨hx, hb, hml, hown, hts⟩ hP hK hS (k8_place l hX w hc44) hc_68 (w_recv hP hK (by decide) emb_bt rfl) rfl hl.1 rfl (Nat.le_of_ble_eq_true rfl) dL_isHearthRight_312 ⟨Nat.zero_le _, Nat.zero_le _⟩ (fun H locs hP hS => ?_)
                          obtain ⟨x46, ejK47, hf⟩ := lt1_e hf
                          have K47 : ∀ (H : Heap) (locs : List Loc) (ls : Array Slot), HW X (pbt w f0 g0 c0 y0 o0) H → va_S (xF b0) s.heap H locs → lv_has ls 7 [(0, .ref (xa X 306)), (1, .int x9), (2, .int x10), (3, .int x11)] → W p l e R s m args below meth c H locs 0 0 Q (F0 m 323 ls [.int x46, .int x41]) := by
                            intro H locs ls hP hS hl
                            refine lv_icmp_ne (tgt := 350) hx hb dL_isHearthRight_323 (by decide) (fun h48 => ?_) (fun h48 => ?_)
                            · rw [if_neg h48] at hf
                              refine lv_iconst (v := 0) hx hb dL_isHearthRight_350 (by decide) ?_
                              have hf := Option.some.inj hf
                              obtain rfl := hf
                              rw [hQ]
                              exact w_zret hx hb hr hlocks hP hK hS dL_isHearthRight_351 (by decide) rfl rfl
                            · rw [if_pos h48] at hf
                              refine lv_aload_n hx hb dL_isHearthRight_326 rfl (lv_at hl 0 rfl) ?_
                              refine lv_iload_n hx hb dL_isHearthRight_327 rfl (lv_at hl 3 rfl) ?_
                              refine lv_iconst (v := 3) hx hb dL_isHearthRight_328 (by decide) ?_
                              obtain ⟨x49, hc50, hf⟩ := ob1_e hf
                              refine w_ci ⟨hx, hb, hml, hown, hts⟩ hP hK hS (k8_place l hX w hc50) hc_68 (w_recv hP hK (by decide) emb_bt rfl) rfl hl.1 rfl (Nat.le_of_ble_eq_true rfl) dL_isHearthRight_329 ⟨Nat.zero_le _, Nat.zero_le _⟩ (fun H locs hP hS => ?_)
                              refine lv_if_le (tgt := 352) hx hb dL_isHearthRight_332 (by decide) (fun h51 => ?_) (fun h51 => ?_)
                              · rw [if_pos h51] at hf
                                obtain ⟨x52, ex52⟩ : ∃ y : Int32, y = x11 + 1 := ⟨_, rfl⟩
                                replace hf := ltn_s ex52 hf
                                refine lv_iinc (v := x52) (lv' := [(3, .int x52), (0, .ref (xa X 306)), (1, .int x9), (2, .int x10)]) hx hb dL_isHearthRight_352 hl (k := 3) rfl (by rw [ex52]; rfl) (by decide) rfl (fun ls hl => ?_)
                                refine lv_goto (tgt := 217) hx hb dL_isHearthRight_355 (by decide) ?_
                                exact ih x9 x10 x52  _ _ _ hf hP hS (lv_sub hl [1, 2, 3, 0] rfl)
                              · rw [if_neg h51] at hf
                                refine lv_aload_n hx hb dL_isHearthRight_335 rfl (lv_at hl 0 rfl) ?_
                                refine lv_iload_n hx hb dL_isHearthRight_336 rfl (lv_at hl 3 rfl) ?_
                                refine lv_iconst (v := 3) hx hb dL_isHearthRight_337 (by decide) ?_
                                obtain ⟨x53, hc54, hf⟩ := ob1_e hf
                                refine w_ci ⟨hx, hb, hml, hown, hts⟩ hP hK hS (k8_place l hX w hc54) hc_68 (w_recv hP hK (by decide) emb_bt rfl) rfl hl.1 rfl (Nat.le_of_ble_eq_true rfl) dL_isHearthRight_338 ⟨Nat.zero_le _, Nat.zero_le _⟩ (fun H locs hP hS => ?_)
                                refine lv_aload_n hx hb dL_isHearthRight_341 rfl (lv_at hl 0 rfl) ?_
                                refine lv_iload_n hx hb dL_isHearthRight_342 rfl (lv_at hl 3 rfl) ?_
                                refine lv_iconst (v := 2) hx hb dL_isHearthRight_343 (by decide) ?_
                                obtain ⟨x55, hc56, hf⟩ := ob1_e hf
                                refine w_ci ⟨hx, hb, hml, hown, hts⟩ hP hK hS (k8_place l hX w hc56) hc_68 (w_recv hP hK (by decide) emb_bt rfl) rfl hl.1 rfl (Nat.le_of_ble_eq_true rfl) dL_isHearthRight_344 ⟨Nat.zero_le _, Nat.zero_le _⟩ (fun H locs hP hS => ?_)
                                refine lv_icmp_le (tgt := 352) hx hb dL_isHearthRight_347 (by decide) (fun h57 => ?_) (fun h57 => ?_)
                                · rw [if_pos h57] at hf
                                  obtain ⟨x58, ex58⟩ : ∃ y : Int32, y = x11 + 1 := ⟨_, rfl⟩
                                  replace hf := ltn_s ex58 hf
                                  refine lv_iinc (v := x58) (lv' := [(3, .int x58), (0, .ref (xa X 306)), (1, .int x9), (2, .int x10)]) hx hb dL_isHearthRight_352 hl (k := 3) rfl (by rw [ex58]; rfl) (by decide) rfl (fun ls hl => ?_)
                                  refine lv_goto (tgt := 217) hx hb dL_isHearthRight_355 (by decide) ?_
                                  exact ih x9 x10 x58  _ _ _ hf hP hS (lv_sub hl [1, 2, 3, 0] rfl)
                                · rw [if_neg h57] at hf
                                  refine lv_iconst (v := 0) hx hb dL_isHearthRight_350 (by decide) ?_
                                  have hf := Option.some.inj hf
                                  obtain rfl := hf
                                  rw [hQ]
                                  exact w_zret hx hb hr hlocks hP hK hS dL_isHearthRight_351 (by decide) rfl rfl
                          clear hf
                          refine lv_if_lt (tgt := 322) hx hb dL_isHearthRight_315 (by decide) (fun h45 => ?_) (fun h45 => ?_)
                          · rw [if_pos h45] at ejK47
                            refine lv_iconst (v := 0) hx hb dL_isHearthRight_322 (by decide) ?_
                            obtain rfl := ejK47
                            exact K47 _ _ _ hP hS (lv_sub hl [0, 1, 2, 3] rfl)
                          · rw [if_neg h45] at ejK47
                            refine lv_iconst (v := 1) hx hb dL_isHearthRight_318 (by decide) ?_
                            refine lv_goto (tgt := 323) hx hb dL_isHearthRight_319 (by decide) ?_
                            obtain rfl := ejK47
                            exact K47 _ _ _ hP hS (lv_sub hl [0, 1, 2, 3] rfl)
                        clear hf
                        refine lv_if_lt (tgt := 308) hx hb dL_isHearthRight_301 (by decide) (fun h40 => ?_) (fun h40 => ?_)
                        · rw [if_pos h40] at ejK42
                          refine lv_iconst (v := 0) hx hb dL_isHearthRight_308 (by decide) ?_
                          obtain rfl := ejK42
                          exact K42 _ _ _ hP hS (lv_sub hl [0, 1, 2, 3] rfl)
                        · rw [if_neg h40] at ejK42
                          refine lv_iconst (v := 1) hx hb dL_isHearthRight_304 (by decide) ?_
                          refine lv_goto (tgt := 309) hx hb dL_isHearthRight_305 (by decide) ?_
                          obtain rfl := ejK42
                          exact K42 _ _ _ hP hS (lv_sub hl [0, 1, 2, 3] rfl)
                      · rw [if_neg h39] at hf
                        refine lv_aload_n hx hb dL_isHearthRight_282 rfl (lv_at hl 0 rfl) ?_
                        refine lv_iload_n hx hb dL_isHearthRight_283 rfl (lv_at hl 3 rfl) ?_
                        refine lv_iconst (v := 0) hx hb dL_isHearthRight_284 (by decide) ?_
                        obtain ⟨x59, hc60, hf⟩ := ob1_e hf
                        refine w_ci ⟨hx, hb, hml, hown, hts⟩ hP hK hS (k8_place l hX w hc60) hc_68 (w_recv hP hK (by decide) emb_bt rfl) rfl hl.1 rfl (Nat.le_of_ble_eq_true rfl) dL_isHearthRight_285 ⟨Nat.zero_le _, Nat.zero_le _⟩ (fun H locs hP hS => ?_)
                        refine lv_aload_n hx hb dL_isHearthRight_288 rfl (lv_at hl 0 rfl) ?_
                        refine lv_iload_n hx hb dL_isHearthRight_289 rfl (lv_at hl 3 rfl) ?_
                        refine lv_iconst (v := 1) hx hb dL_isHearthRight_290 (by decide) ?_
                        refine lv_isub hx hb dL_isHearthRight_291 ?_
                        refine lv_iconst (v := 0) hx hb dL_isHearthRight_292 (by decide) ?_
                        obtain ⟨x61, hc62, hf⟩ := ob1_e hf
                        refine w_ci ⟨hx, hb, hml, hown, hts⟩ hP hK hS (k8_place l hX w hc62) hc_68 (w_recv hP hK (by decide) emb_bt rfl) rfl hl.1 rfl (Nat.le_of_ble_eq_true rfl) dL_isHearthRight_293 ⟨Nat.zero_le _, Nat.zero_le _⟩ (fun H locs hP hS => ?_)
                        refine lv_icmp_gt (tgt := 350) hx hb dL_isHearthRight_296 (by decide) (fun h63 => ?_) (fun h63 => ?_)
                        · rw [if_pos h63] at hf
                          refine lv_iconst (v := 0) hx hb dL_isHearthRight_350 (by decide) ?_
                          have hf := Option.some.inj hf
                          obtain rfl := hf
                          rw [hQ]
                          exact w_zret hx hb hr hlocks hP hK hS dL_isHearthRight_351 (by decide) rfl rfl
                        · rw [if_neg h63] at hf
                          refine lv_iload hx hb dL_isHearthRight_299 (lv_at hl 4 rfl) ?_
                          obtain ⟨x65, ejK66, hf⟩ := lt1_e hf
                          have K66 : ∀ (H : Heap) (locs : List Loc) (ls : Array Slot), HW X (pbt w f0 g0 c0 y0 o0) H → va_S (xF b0) s.heap H locs → lv_has ls 7 [(0, .ref (xa X 306)), (1, .int x9), (2, .int x10), (3, .int x11)] → W p l e R s m args below meth c H locs 0 0 Q (F0 m 309 ls [.int x65]) := by
                            intro H locs ls hP hS hl
                            refine lv_aload_n hx hb dL_isHearthRight_309 rfl (lv_at hl 0 rfl) ?_
                            refine lv_iload_n hx hb dL_isHearthRight_310 rfl (lv_at hl 3 rfl) ?_
                            refine lv_iconst (v := 2) hx hb dL_isHearthRight_311 (by decide) ?_
                            obtain ⟨x67, hc68, hf⟩ := ob1_e hf
                            refine w_ci ⟨hx, hb, hml, hown, hts⟩ hP hK hS (k8_place l hX w hc68) hc_68 (w_recv hP hK (by decide) emb_bt rfl) rfl hl.1 rfl (Nat.le_of_ble_eq_true rfl) dL_isHearthRight_312 ⟨Nat.zero_le _, Nat.zero_le _⟩ (fun H locs hP hS => ?_)
                            obtain ⟨x70, ejK71, hf⟩ := lt1_e hf
                            have K71 : ∀ (H : Heap) (locs : List Loc) (ls : Array Slot), HW X (pbt w f0 g0 c0 y0 o0) H → va_S (xF b0) s.heap H locs → lv_has ls 7 [(0, .ref (xa X 306)), (1, .int x9), (2, .int x10), (3, .int x11)] → W p l e R s m args below meth c H locs 0 0 Q (F0 m 323 ls [.int x70, .int x65]) := by
                              intro H locs ls hP hS hl
                              refine lv_icmp_ne (tgt := 350) hx hb dL_isHearthRight_323 (by decide) (fun h72 => ?_) (fun h72 => ?_)
                              · rw [if_neg h72] at hf
                                refine lv_iconst (v := 0) hx hb dL_isHearthRight_350 (by decide) ?_
                                have hf := Option.some.inj hf
                                obtain rfl := hf
                                rw [hQ]
                                exact w_zret hx hb hr hlocks hP hK hS dL_isHearthRight_351 (by decide) rfl rfl
                              · rw [if_pos h72] at hf
                                refine lv_aload_n hx hb dL_isHearthRight_326 rfl (lv_at hl 0 rfl) ?_
                                refine lv_iload_n hx hb dL_isHearthRight_327 rfl (lv_at hl 3 rfl) ?_
                                refine lv_iconst (v := 3) hx hb dL_isHearthRight_328 (by decide) ?_
                                obtain ⟨x73, hc74, hf⟩ := ob1_e hf
                                refine w_ci ⟨hx, hb, hml, hown, hts⟩ hP hK hS (k8_place l hX w hc74) hc_68 (w_recv hP hK (by decide) emb_bt rfl) rfl hl.1 rfl (Nat.le_of_ble_eq_true rfl) dL_isHearthRight_329 ⟨Nat.zero_le _, Nat.zero_le _⟩ (fun H locs hP hS => ?_)
                                refine lv_if_le (tgt := 352) hx hb dL_isHearthRight_332 (by decide) (fun h75 => ?_) (fun h75 => ?_)
                                · rw [if_pos h75] at hf
                                  obtain ⟨x76, ex76⟩ : ∃ y : Int32, y = x11 + 1 := ⟨_, rfl⟩
                                  replace hf := ltn_s ex76 hf
                                  refine lv_iinc (v := x76) (lv' := [(3, .int x76), (0, .ref (xa X 306)), (1, .int x9), (2, .int x10)]) hx hb dL_isHearthRight_352 hl (k := 3) rfl (by rw [ex76]; rfl) (by decide) rfl (fun ls hl => ?_)
                                  refine lv_goto (tgt := 217) hx hb dL_isHearthRight_355 (by decide) ?_
                                  exact ih x9 x10 x76  _ _ _ hf hP hS (lv_sub hl [1, 2, 3, 0] rfl)
                                · rw [if_neg h75] at hf
                                  refine lv_aload_n hx hb dL_isHearthRight_335 rfl (lv_at hl 0 rfl) ?_
                                  refine lv_iload_n hx hb dL_isHearthRight_336 rfl (lv_at hl 3 rfl) ?_
                                  refine lv_iconst (v := 3) hx hb dL_isHearthRight_337 (by decide) ?_
                                  obtain ⟨x77, hc78, hf⟩ := ob1_e hf
                                  refine w_ci ⟨hx, hb, hml, hown, hts⟩ hP hK hS (k8_place l hX w hc78) hc_68 (w_recv hP hK (by decide) emb_bt rfl) rfl hl.1 rfl (Nat.le_of_ble_eq_true rfl) dL_isHearthRight_338 ⟨Nat.zero_le _, Nat.zero_le _⟩ (fun H locs hP hS => ?_)
                                  refine lv_aload_n hx hb dL_isHearthRight_341 rfl (lv_at hl 0 rfl) ?_
                                  refine lv_iload_n hx hb dL_isHearthRight_342 rfl (lv_at hl 3 rfl) ?_
                                  refine lv_iconst (v := 2) hx hb dL_isHearthRight_343 (by decide) ?_
                                  obtain ⟨x79, hc80, hf⟩ := ob1_e hf
                                  refine w_ci ⟨hx, hb, hml, hown, hts⟩ hP hK hS (k8_place l hX w hc80) hc_68 (w_recv hP hK (by decide) emb_bt rfl) rfl hl.1 rfl (Nat.le_of_ble_eq_true rfl) dL_isHearthRight_344 ⟨Nat.zero_le _, Nat.zero_le _⟩ (fun H locs hP hS => ?_)
                                  refine lv_icmp_le (tgt := 352) hx hb dL_isHearthRight_347 (by decide) (fun h81 => ?_) (fun h81 => ?_)
                                  · rw [if_pos h81] at hf
                                    obtain ⟨x82, ex82⟩ : ∃ y : Int32, y = x11 + 1 := ⟨_, rfl⟩
                                    replace hf := ltn_s ex82 hf
                                    refine lv_iinc (v := x82) (lv' := [(3, .int x82), (0, .ref (xa X 306)), (1, .int x9), (2, .int x10)]) hx hb dL_isHearthRight_352 hl (k := 3) rfl (by rw [ex82]; rfl) (by decide) rfl (fun ls hl => ?_)
                                    refine lv_goto (tgt := 217) hx hb dL_isHearthRight_355 (by decide) ?_
                                    exact ih x9 x10 x82  _ _ _ hf hP hS (lv_sub hl [1, 2, 3, 0] rfl)
                                  · rw [if_neg h81] at hf
                                    refine lv_iconst (v := 0) hx hb dL_isHearthRight_350 (by decide) ?_
                                    have hf := Option.some.inj hf
                                    obtain rfl := hf
                                    rw [hQ]
                                    exact w_zret hx hb hr hlocks hP hK hS dL_isHearthRight_351 (by decide) rfl rfl
                            clear hf
                            refine lv_if_lt (tgt := 322) hx hb dL_isHearthRight_315 (by decide) (fun h69 => ?_) (fun h69 => ?_)
                            · rw [if_pos h69] at ejK71
                              refine lv_iconst (v := 0) hx hb dL_isHearthRight_322 (by decide) ?_
                              obtain rfl := ejK71
                              exact K71 _ _ _ hP hS (lv_sub hl [0, 1, 2, 3] rfl)
                            · rw [if_neg h69] at ejK71
                              refine lv_iconst (v := 1) hx hb dL_isHearthRight_318 (by decide) ?_
                              refine lv_goto (tgt := 323) hx hb dL_isHearthRight_319 (by decide) ?_
                              obtain rfl := ejK71
                              exact K71 _ _ _ hP hS (lv_sub hl [0, 1, 2, 3] rfl)
                          clear hf
                          refine lv_if_lt (tgt := 308) hx hb dL_isHearthRight_301 (by decide) (fun h64 => ?_) (fun h64 => ?_)
                          · rw [if_pos h64] at ejK66
                            refine lv_iconst (v := 0) hx hb dL_isHearthRight_308 (by decide) ?_
                            obtain rfl := ejK66
                            exact K66 _ _ _ hP hS (lv_sub hl [0, 1, 2, 3] rfl)
                          · rw [if_neg h64] at ejK66
                            refine lv_iconst (v := 1) hx hb dL_isHearthRight_304 (by decide) ?_
                            refine lv_goto (tgt := 309) hx hb dL_isHearthRight_305 (by decide) ?_
                            obtain rfl := ejK66
                            exact K66 _ _ _ hP hS (lv_sub hl [0, 1, 2, 3] rfl)
                    · rw [if_neg h38] at hf
                      refine lv_aload_n hx hb dL_isHearthRight_263 rfl (lv_at hl 0 rfl) ?_
                      refine lv_iload hx hb dL_isHearthRight_264 (lv_at hl 4 rfl) ?_
                      refine lv_bipush (v := 8) hx hb dL_isHearthRight_266 (by decide) ?_
                      obtain ⟨x83, hc84, hf⟩ := ob1_e hf
                      refine w_ci ⟨hx, hb, hml, hown, hts⟩ hP hK hS (k8_dough l hX w hc84) hc_59 (w_recv hP hK (by decide) emb_bt rfl) rfl hl.1 rfl (Nat.le_of_ble_eq_true rfl) dL_isHearthRight_268 ⟨Nat.zero_le _, Nat.zero_le _⟩ (fun H locs hP hS => ?_)
                      refine lv_iload_n hx hb dL_isHearthRight_271 rfl (lv_at hl 3 rfl) ?_
                      refine lv_ishr hx hb dL_isHearthRight_272 ?_
                      refine lv_iconst (v := 1) hx hb dL_isHearthRight_273 (by decide) ?_
                      refine lv_iand hx hb dL_isHearthRight_274 ?_
                      refine lv_if_eq (tgt := 350) hx hb dL_isHearthRight_275 (by decide) (fun h85 => ?_) (fun h85 => ?_)
                      · rw [if_pos h85] at hf
                        refine lv_iconst (v := 0) hx hb dL_isHearthRight_350 (by decide) ?_
                        have hf := Option.some.inj hf
                        obtain rfl := hf
                        rw [hQ]
                        exact w_zret hx hb hr hlocks hP hK hS dL_isHearthRight_351 (by decide) rfl rfl
                      · rw [if_neg h85] at hf
                        refine lv_iload_n hx hb dL_isHearthRight_278 rfl (lv_at hl 3 rfl) ?_
                        refine lv_if_le (tgt := 299) hx hb dL_isHearthRight_279 (by decide) (fun h86 => ?_) (fun h86 => ?_)
                        · rw [if_pos h86] at hf
                          refine lv_iload hx hb dL_isHearthRight_299 (lv_at hl 4 rfl) ?_
                          obtain ⟨x88, ejK89, hf⟩ := lt1_e hf
                          have K89 : ∀ (H : Heap) (locs : List Loc) (ls : Array Slot), HW X (pbt w f0 g0 c0 y0 o0) H → va_S (xF b0) s.heap H locs → lv_has ls 7 [(0, .ref (xa X 306)), (1, .int x9), (2, .int x10), (3, .int x11)] → W p l e R s m args below meth c H locs 0 0 Q (F0 m 309 ls [.int x88]) := by
                            intro H locs ls hP hS hl
                            refine lv_aload_n hx hb dL_isHearthRight_309 rfl (lv_at hl 0 rfl) ?_
                            refine lv_iload_n hx hb dL_isHearthRight_310 rfl (lv_at hl 3 rfl) ?_
                            refine lv_iconst (v := 2) hx hb dL_isHearthRight_311 (by decide) ?_
                            obtain ⟨x90, hc91, hf⟩ := ob1_e hf
                            refine w_ci ⟨hx, hb, hml, hown, hts⟩ hP hK hS (k8_place l hX w hc91) hc_68 (w_recv hP hK (by decide) emb_bt rfl) rfl hl.1 rfl (Nat.le_of_ble_eq_true rfl) dL_isHearthRight_312 ⟨Nat.zero_le _, Nat.zero_le _⟩ (fun H locs hP hS => ?_)
                            obtain ⟨x93, ejK94, hf⟩ := lt1_e hf
                            have K94 : ∀ (H : Heap) (locs : List Loc) (ls : Array Slot), HW X (pbt w f0 g0 c0 y0 o0) H → va_S (xF b0) s.heap H locs → lv_has ls 7 [(0, .ref (xa X 306)), (1, .int x9), (2, .int x10), (3, .int x11)] → W p l e R s m args below meth c H locs 0 0 Q (F0 m 323 ls [.int x93, .int x88]) := by
                              intro H locs ls hP hS hl
                              refine lv_icmp_ne (tgt := 350) hx hb dL_isHearthRight_323 (by decide) (fun h95 => ?_) (fun h95 => ?_)
                              · rw [if_neg h95] at hf
                                refine lv_iconst (v := 0) hx hb dL_isHearthRight_350 (by decide) ?_
                                have hf := Option.some.inj hf
                                obtain rfl := hf
                                rw [hQ]
                                exact w_zret hx hb hr hlocks hP hK hS dL_isHearthRight_351 (by decide) rfl rfl
                              · rw [if_pos h95] at hf
                                refine lv_aload_n hx hb dL_isHearthRight_326 rfl (lv_at hl 0 rfl) ?_
                                refine lv_iload_n hx hb dL_isHearthRight_327 rfl (lv_at hl 3 rfl) ?_
                                refine lv_iconst (v := 3) hx hb dL_isHearthRight_328 (by decide) ?_
                                obtain ⟨x96, hc97, hf⟩ := ob1_e hf
                                refine w_ci ⟨hx, hb, hml, hown, hts⟩ hP hK hS (k8_place l hX w hc97) hc_68 (w_recv hP hK (by decide) emb_bt rfl) rfl hl.1 rfl (Nat.le_of_ble_eq_true rfl) dL_isHearthRight_329 ⟨Nat.zero_le _, Nat.zero_le _⟩ (fun H locs hP hS => ?_)
                                refine lv_if_le (tgt := 352) hx hb dL_isHearthRight_332 (by decide) (fun h98 => ?_) (fun h98 => ?_)
                                · rw [if_pos h98] at hf
                                  obtain ⟨x99, ex99⟩ : ∃ y : Int32, y = x11 + 1 := ⟨_, rfl⟩
                                  replace hf := ltn_s ex99 hf
                                  refine lv_iinc (v := x99) (lv' := [(3, .int x99), (0, .ref (xa X 306)), (1, .int x9), (2, .int x10)]) hx hb dL_isHearthRight_352 hl (k := 3) rfl (by rw [ex99]; rfl) (by decide) rfl (fun ls hl => ?_)
                                  refine lv_goto (tgt := 217) hx hb dL_isHearthRight_355 (by decide) ?_
                                  exact ih x9 x10 x99  _ _ _ hf hP hS (lv_sub hl [1, 2, 3, 0] rfl)
                                · rw [if_neg h98] at hf
                                  refine lv_aload_n hx hb dL_isHearthRight_335 rfl (lv_at hl 0 rfl) ?_
                                  refine lv_iload_n hx hb dL_isHearthRight_336 rfl (lv_at hl 3 rfl) ?_
                                  refine lv_iconst (v := 3) hx hb dL_isHearthRight_337 (by decide) ?_
                                  obtain ⟨x100, hc101, hf⟩ := ob1_e hf
                                  refine w_ci ⟨hx, hb, hml, hown, hts⟩ hP hK hS (k8_place l hX w hc101) hc_68 (w_recv hP hK (by decide) emb_bt rfl) rfl hl.1 rfl (Nat.le_of_ble_eq_true rfl) dL_isHearthRight_338 ⟨Nat.zero_le _, Nat.zero_le _⟩ (fun H locs hP hS => ?_)
                                  refine lv_aload_n hx hb dL_isHearthRight_341 rfl (lv_at hl 0 rfl) ?_
                                  refine lv_iload_n hx hb dL_isHearthRight_342 rfl (lv_at hl 3 rfl) ?_
                                  refine lv_iconst (v := 2) hx hb dL_isHearthRight_343 (by decide) ?_
                                  obtain ⟨x102, hc103, hf⟩ := ob1_e hf
                                  refine w_ci ⟨hx, hb, hml, hown, hts⟩ hP hK hS (k8_place l hX w hc103) hc_68 (w_recv hP hK (by decide) emb_bt rfl) rfl hl.1 rfl (Nat.le_of_ble_eq_true rfl) dL_isHearthRight_344 ⟨Nat.zero_le _, Nat.zero_le _⟩ (fun H locs hP hS => ?_)
                                  refine lv_icmp_le (tgt := 352) hx hb dL_isHearthRight_347 (by decide) (fun h104 => ?_) (fun h104 => ?_)
                                  · rw [if_pos h104] at hf
                                    obtain ⟨x105, ex105⟩ : ∃ y : Int32, y = x11 + 1 := ⟨_, rfl⟩
                                    replace hf := ltn_s ex105 hf
                                    refine lv_iinc (v := x105) (lv' := [(3, .int x105), (0, .ref (xa X 306)), (1, .int x9), (2, .int x10)]) hx hb dL_isHearthRight_352 hl (k := 3) rfl (by rw [ex105]; rfl) (by decide) rfl (fun ls hl => ?_)
                                    refine lv_goto (tgt := 217) hx hb dL_isHearthRight_355 (by decide) ?_
                                    exact ih x9 x10 x105  _ _ _ hf hP hS (lv_sub hl [1, 2, 3, 0] rfl)
                                  · rw [if_neg h104] at hf
                                    refine lv_iconst (v := 0) hx hb dL_isHearthRight_350 (by decide) ?_
                                    have hf := Option.some.inj hf
                                    obtain rfl := hf
                                    rw [hQ]
                                    exact w_zret hx hb hr hlocks hP hK hS dL_isHearthRight_351 (by decide) rfl rfl
                            clear hf
                            refine lv_if_lt (tgt := 322) hx hb dL_isHearthRight_315 (by decide) (fun h92 => ?_) (fun h92 => ?_)
                            · rw [if_pos h92] at ejK94
                              refine lv_iconst (v := 0) hx hb dL_isHearthRight_322 (by decide) ?_
                              obtain rfl := ejK94
                              exact K94 _ _ _ hP hS (lv_sub hl [0, 1, 2, 3] rfl)
                            · rw [if_neg h92] at ejK94
                              refine lv_iconst (v := 1) hx hb dL_isHearthRight_318 (by decide) ?_
                              refine lv_goto (tgt := 323) hx hb dL_isHearthRight_319 (by decide) ?_
                              obtain rfl := ejK94
                              exact K94 _ _ _ hP hS (lv_sub hl [0, 1, 2, 3] rfl)
                          clear hf
                          refine lv_if_lt (tgt := 308) hx hb dL_isHearthRight_301 (by decide) (fun h87 => ?_) (fun h87 => ?_)
                          · rw [if_pos h87] at ejK89
                            refine lv_iconst (v := 0) hx hb dL_isHearthRight_308 (by decide) ?_
                            obtain rfl := ejK89
                            exact K89 _ _ _ hP hS (lv_sub hl [0, 1, 2, 3] rfl)
                          · rw [if_neg h87] at ejK89
                            refine lv_iconst (v := 1) hx hb dL_isHearthRight_304 (by decide) ?_
                            refine lv_goto (tgt := 309) hx hb dL_isHearthRight_305 (by decide) ?_
                            obtain rfl := ejK89
                            exact K89 _ _ _ hP hS (lv_sub hl [0, 1, 2, 3] rfl)
                        · rw [if_neg h86] at hf
                          refine lv_aload_n hx hb dL_isHearthRight_282 rfl (lv_at hl 0 rfl) ?_
                          refine lv_iload_n hx hb dL_isHearthRight_283 rfl (lv_at hl 3 rfl) ?_
                          refine lv_iconst (v := 0) hx hb dL_isHearthRight_284 (by decide) ?_
                          obtain ⟨x106, hc107, hf⟩ := ob1_e hf
                          refine w_ci ⟨hx, hb, hml, hown, hts⟩ hP hK hS (k8_place l hX w hc107) hc_68 (w_recv hP hK (by decide) emb_bt rfl) rfl hl.1 rfl (Nat.le_of_ble_eq_true rfl) dL_isHearthRight_285 ⟨Nat.zero_le _, Nat.zero_le _⟩ (fun H locs hP hS => ?_)
                          refine lv_aload_n hx hb dL_isHearthRight_288 rfl (lv_at hl 0 rfl) ?_
                          refine lv_iload_n hx hb dL_isHearthRight_289 rfl (lv_at hl 3 rfl) ?_
                          refine lv_iconst (v := 1) hx hb dL_isHearthRight_290 (by decide) ?_
                          refine lv_isub hx hb dL_isHearthRight_291 ?_
                          refine lv_iconst (v := 0) hx hb dL_isHearthRight_292 (by decide) ?_
                          obtain ⟨x108, hc109, hf⟩ := ob1_e hf
                          refine w_ci ⟨hx, hb, hml, hown, hts⟩ hP hK hS (k8_place l hX w hc109) hc_68 (w_recv hP hK (by decide) emb_bt rfl) rfl hl.1 rfl (Nat.le_of_ble_eq_true rfl) dL_isHearthRight_293 ⟨Nat.zero_le _, Nat.zero_le _⟩ (fun H locs hP hS => ?_)
                          refine lv_icmp_gt (tgt := 350) hx hb dL_isHearthRight_296 (by decide) (fun h110 => ?_) (fun h110 => ?_)
                          · rw [if_pos h110] at hf
                            refine lv_iconst (v := 0) hx hb dL_isHearthRight_350 (by decide) ?_
                            have hf := Option.some.inj hf
                            obtain rfl := hf
                            rw [hQ]
                            exact w_zret hx hb hr hlocks hP hK hS dL_isHearthRight_351 (by decide) rfl rfl
                          · rw [if_neg h110] at hf
                            refine lv_iload hx hb dL_isHearthRight_299 (lv_at hl 4 rfl) ?_
                            obtain ⟨x112, ejK113, hf⟩ := lt1_e hf
                            have K113 : ∀ (H : Heap) (locs : List Loc) (ls : Array Slot), HW X (pbt w f0 g0 c0 y0 o0) H → va_S (xF b0) s.heap H locs → lv_has ls 7 [(0, .ref (xa X 306)), (1, .int x9), (2, .int x10), (3, .int x11)] → W p l e R s m args below meth c H locs 0 0 Q (F0 m 309 ls [.int x112]) := by
                              intro H locs ls hP hS hl
                              refine lv_aload_n hx hb dL_isHearthRight_309 rfl (lv_at hl 0 rfl) ?_
                              refine lv_iload_n hx hb dL_isHearthRight_310 rfl (lv_at hl 3 rfl) ?_
                              refine lv_iconst (v := 2) hx hb dL_isHearthRight_311 (by decide) ?_
                              obtain ⟨x114, hc115, hf⟩ := ob1_e hf
                              refine w_ci ⟨hx, hb, hml, hown, hts⟩ hP hK hS (k8_place l hX w hc115) hc_68 (w_recv hP hK (by decide) emb_bt rfl) rfl hl.1 rfl (Nat.le_of_ble_eq_true rfl) dL_isHearthRight_312 ⟨Nat.zero_le _, Nat.zero_le _⟩ (fun H locs hP hS => ?_)
                              obtain ⟨x117, ejK118, hf⟩ := lt1_e hf
                              have K118 : ∀ (H : Heap) (locs : List Loc) (ls : Array Slot), HW X (pbt w f0 g0 c0 y0 o0) H → va_S (xF b0) s.heap H locs → lv_has ls 7 [(0, .ref (xa X 306)), (1, .int x9), (2, .int x10), (3, .int x11)] → W p l e R s m args below meth c H locs 0 0 Q (F0 m 323 ls [.int x117, .int x112]) := by
                                intro H locs ls hP hS hl
                                refine lv_icmp_ne (tgt := 350) hx hb dL_isHearthRight_323 (by decide) (fun h119 => ?_) (fun h119 => ?_)
                                · rw [if_neg h119] at hf
                                  refine lv_iconst (v := 0) hx hb dL_isHearthRight_350 (by decide) ?_
                                  have hf := Option.some.inj hf
                                  obtain rfl := hf
                                  rw [hQ]
                                  exact w_zret hx hb hr hlocks hP hK hS dL_isHearthRight_351 (by decide) rfl rfl
                                · rw [if_pos h119] at hf
                                  refine lv_aload_n hx hb dL_isHearthRight_326 rfl (lv_at hl 0 rfl) ?_
                                  refine lv_iload_n hx hb dL_isHearthRight_327 rfl (lv_at hl 3 rfl) ?_
                                  refine lv_iconst (v := 3) hx hb dL_isHearthRight_328 (by decide) ?_
                                  obtain ⟨x120, hc121, hf⟩ := ob1_e hf
                                  refine w_ci ⟨hx, hb, hml, hown, hts⟩ hP hK hS (k8_place l hX w hc121) hc_68 (w_recv hP hK (by decide) emb_bt rfl) rfl hl.1 rfl (Nat.le_of_ble_eq_true rfl) dL_isHearthRight_329 ⟨Nat.zero_le _, Nat.zero_le _⟩ (fun H locs hP hS => ?_)
                                  refine lv_if_le (tgt := 352) hx hb dL_isHearthRight_332 (by decide) (fun h122 => ?_) (fun h122 => ?_)
                                  · rw [if_pos h122] at hf
                                    obtain ⟨x123, ex123⟩ : ∃ y : Int32, y = x11 + 1 := ⟨_, rfl⟩
                                    replace hf := ltn_s ex123 hf
                                    refine lv_iinc (v := x123) (lv' := [(3, .int x123), (0, .ref (xa X 306)), (1, .int x9), (2, .int x10)]) hx hb dL_isHearthRight_352 hl (k := 3) rfl (by rw [ex123]; rfl) (by decide) rfl (fun ls hl => ?_)
                                    refine lv_goto (tgt := 217) hx hb dL_isHearthRight_355 (by decide) ?_
                                    exact ih x9 x10 x123  _ _ _ hf hP hS (lv_sub hl [1, 2, 3, 0] rfl)
                                  · rw [if_neg h122] at hf
                                    refine lv_aload_n hx hb dL_isHearthRight_335 rfl (lv_at hl 0 rfl) ?_
                                    refine lv_iload_n hx hb dL_isHearthRight_336 rfl (lv_at hl 3 rfl) ?_
                                    refine lv_iconst (v := 3) hx hb dL_isHearthRight_337 (by decide) ?_
                                    obtain ⟨x124, hc125, hf⟩ := ob1_e hf
                                    refine w_ci ⟨hx, hb, hml, hown, hts⟩ hP hK hS (k8_place l hX w hc125) hc_68 (w_recv hP hK (by decide) emb_bt rfl) rfl hl.1 rfl (Nat.le_of_ble_eq_true rfl) dL_isHearthRight_338 ⟨Nat.zero_le _, Nat.zero_le _⟩ (fun H locs hP hS => ?_)
                                    refine lv_aload_n hx hb dL_isHearthRight_341 rfl (lv_at hl 0 rfl) ?_
                                    refine lv_iload_n hx hb dL_isHearthRight_342 rfl (lv_at hl 3 rfl) ?_
                                    refine lv_iconst (v := 2) hx hb dL_isHearthRight_343 (by decide) ?_
                                    obtain ⟨x126, hc127, hf⟩ := ob1_e hf
                                    refine w_ci ⟨hx, hb, hml, hown, hts⟩ hP hK hS (k8_place l hX w hc127) hc_68 (w_recv hP hK (by decide) emb_bt rfl) rfl hl.1 rfl (Nat.le_of_ble_eq_true rfl) dL_isHearthRight_344 ⟨Nat.zero_le _, Nat.zero_le _⟩ (fun H locs hP hS => ?_)
                                    refine lv_icmp_le (tgt := 352) hx hb dL_isHearthRight_347 (by decide) (fun h128 => ?_) (fun h128 => ?_)
                                    · rw [if_pos h128] at hf
                                      obtain ⟨x129, ex129⟩ : ∃ y : Int32, y = x11 + 1 := ⟨_, rfl⟩
                                      replace hf := ltn_s ex129 hf
                                      refine lv_iinc (v := x129) (lv' := [(3, .int x129), (0, .ref (xa X 306)), (1, .int x9), (2, .int x10)]) hx hb dL_isHearthRight_352 hl (k := 3) rfl (by rw [ex129]; rfl) (by decide) rfl (fun ls hl => ?_)
                                      refine lv_goto (tgt := 217) hx hb dL_isHearthRight_355 (by decide) ?_
                                      exact ih x9 x10 x129  _ _ _ hf hP hS (lv_sub hl [1, 2, 3, 0] rfl)
                                    · rw [if_neg h128] at hf
                                      refine lv_iconst (v := 0) hx hb dL_isHearthRight_350 (by decide) ?_
                                      have hf := Option.some.inj hf
                                      obtain rfl := hf
                                      rw [hQ]
                                      exact w_zret hx hb hr hlocks hP hK hS dL_isHearthRight_351 (by decide) rfl rfl
                              clear hf
                              refine lv_if_lt (tgt := 322) hx hb dL_isHearthRight_315 (by decide) (fun h116 => ?_) (fun h116 => ?_)
                              · rw [if_pos h116] at ejK118
                                refine lv_iconst (v := 0) hx hb dL_isHearthRight_322 (by decide) ?_
                                obtain rfl := ejK118
                                exact K118 _ _ _ hP hS (lv_sub hl [0, 1, 2, 3] rfl)
                              · rw [if_neg h116] at ejK118
                                refine lv_iconst (v := 1) hx hb dL_isHearthRight_318 (by decide) ?_
                                refine lv_goto (tgt := 323) hx hb dL_isHearthRight_319 (by decide) ?_
                                obtain rfl := ejK118
                                exact K118 _ _ _ hP hS (lv_sub hl [0, 1, 2, 3] rfl)
                            clear hf
                            refine lv_if_lt (tgt := 308) hx hb dL_isHearthRight_301 (by decide) (fun h111 => ?_) (fun h111 => ?_)
                            · rw [if_pos h111] at ejK113
                              refine lv_iconst (v := 0) hx hb dL_isHearthRight_308 (by decide) ?_
                              obtain rfl := ejK113
                              exact K113 _ _ _ hP hS (lv_sub hl [0, 1, 2, 3] rfl)
                            · rw [if_neg h111] at ejK113
                              refine lv_iconst (v := 1) hx hb dL_isHearthRight_304 (by decide) ?_
                              refine lv_goto (tgt := 309) hx hb dL_isHearthRight_305 (by decide) ?_
                              obtain rfl := ejK113
                              exact K113 _ _ _ hP hS (lv_sub hl [0, 1, 2, 3] rfl)
                clear hf
                refine lv_icmp_ne (tgt := 254) hx hb dL_isHearthRight_247 (by decide) (fun h34 => ?_) (fun h34 => ?_)
                · rw [if_neg h34] at ejK36
                  refine lv_iconst (v := 0) hx hb dL_isHearthRight_254 (by decide) ?_
                  obtain rfl := ejK36
                  exact K36 _ _ _ hP hS (lv_sub hl [0, 1, 2, 3, 4] rfl)
                · rw [if_pos h34] at ejK36
                  refine lv_iconst (v := 1) hx hb dL_isHearthRight_250 (by decide) ?_
                  refine lv_goto (tgt := 255) hx hb dL_isHearthRight_251 (by decide) ?_
                  obtain rfl := ejK36
                  exact K36 _ _ _ hP hS (lv_sub hl [0, 1, 2, 3, 4] rfl)
              clear hf
              refine lv_if_lt (tgt := 240) hx hb dL_isHearthRight_233 (by decide) (fun h31 => ?_) (fun h31 => ?_)
              · rw [if_pos h31] at ejK33
                refine lv_iconst (v := 0) hx hb dL_isHearthRight_240 (by decide) ?_
                obtain rfl := ejK33
                exact K33 _ _ _ hP hS (lv_sub hl [1, 2, 3, 4, 0] rfl)
              · rw [if_neg h31] at ejK33
                refine lv_iconst (v := 1) hx hb dL_isHearthRight_236 (by decide) ?_
                refine lv_goto (tgt := 241) hx hb dL_isHearthRight_237 (by decide) ?_
                obtain rfl := ejK33
                exact K33 _ _ _ hP hS (lv_sub hl [1, 2, 3, 4, 0] rfl)
        exact L217 N x2 x3 0  _ _ _ hf hP hS (lv_sub hl [1, 2, 3, 0] rfl)
      · rw [if_neg h7] at hf
        refine lv_aload_n hx hb dL_isHearthRight_15 rfl (lv_at hl 0 rfl) ?_
        refine lv_iload_n hx hb dL_isHearthRight_16 rfl (lv_at hl 3 rfl) ?_
        refine lv_bipush (v := 8) hx hb dL_isHearthRight_17 (by decide) ?_
        obtain ⟨x130, hc131, hf⟩ := ob1_e hf
        refine w_ci ⟨hx, hb, hml, hown, hts⟩ hP hK hS (k8_dough l hX w hc131) hc_59 (w_recv hP hK (by decide) emb_bt rfl) rfl hl.1 rfl (Nat.le_of_ble_eq_true rfl) dL_isHearthRight_19 ⟨Nat.zero_le _, Nat.zero_le _⟩ (fun H locs hP hS => ?_)
        refine lv_istore (lv' := [(4, .int x130), (0, .ref (xa X 306)), (1, .int x2), (2, .int x3), (3, .int x4)]) hx hb dL_isHearthRight_22 hl (by decide) rfl (fun ls hl => ?_)
        refine lv_aload_n hx hb dL_isHearthRight_24 rfl (lv_at hl 1 rfl) ?_
        refine lv_iload_n hx hb dL_isHearthRight_25 rfl (lv_at hl 4 rfl) ?_
        refine lv_iconst (v := 4) hx hb dL_isHearthRight_26 (by decide) ?_
        obtain ⟨x132, hc133, hf⟩ := ob1_e hf
        refine w_ci ⟨hx, hb, hml, hown, hts⟩ hP hK hS (k8_dough l hX w hc133) hc_59 (w_recv hP hK (by decide) emb_bt rfl) rfl hl.1 rfl (Nat.le_of_ble_eq_true rfl) dL_isHearthRight_27 ⟨Nat.zero_le _, Nat.zero_le _⟩ (fun H locs hP hS => ?_)
        refine lv_istore (lv' := [(5, .int x132), (4, .int x130), (0, .ref (xa X 306)), (1, .int x2), (2, .int x3), (3, .int x4)]) hx hb dL_isHearthRight_30 hl (by decide) rfl (fun ls hl => ?_)
        refine lv_aload_n hx hb dL_isHearthRight_32 rfl (lv_at hl 2 rfl) ?_
        refine lv_iload_n hx hb dL_isHearthRight_33 rfl (lv_at hl 5 rfl) ?_
        refine lv_bipush (v := 7) hx hb dL_isHearthRight_34 (by decide) ?_
        obtain ⟨x134, hc135, hf⟩ := ob1_e hf
        refine w_ci ⟨hx, hb, hml, hown, hts⟩ hP hK hS (k8_dough l hX w hc135) hc_59 (w_recv hP hK (by decide) emb_bt rfl) rfl hl.1 rfl (Nat.le_of_ble_eq_true rfl) dL_isHearthRight_36 ⟨Nat.zero_le _, Nat.zero_le _⟩ (fun H locs hP hS => ?_)
        refine lv_istore (lv' := [(6, .int x134), (5, .int x132), (4, .int x130), (0, .ref (xa X 306)), (1, .int x2), (2, .int x3), (3, .int x4)]) hx hb dL_isHearthRight_39 hl (by decide) rfl (fun ls hl => ?_)
        refine lv_iload hx hb dL_isHearthRight_41 (lv_at hl 2 rfl) ?_
        refine lv_iload_n hx hb dL_isHearthRight_43 rfl (lv_at hl 4 rfl) ?_
        refine lv_iand hx hb dL_isHearthRight_44 ?_
        refine lv_if_ne (tgt := 137) hx hb dL_isHearthRight_45 (by decide) (fun h136 => ?_) (fun h136 => ?_)
        · rw [if_neg h136] at hf
          refine lv_iconst (v := 0) hx hb dL_isHearthRight_137 (by decide) ?_
          have hf := Option.some.inj hf
          obtain rfl := hf
          rw [hQ]
          exact w_zret hx hb hr hlocks hP hK hS dL_isHearthRight_138 (by decide) rfl rfl
        · rw [if_pos h136] at hf
          refine lv_iload hx hb dL_isHearthRight_48 (lv_at hl 2 rfl) ?_
          obtain ⟨x137, hc138, hf⟩ := ob1_e hf
          refine w_csi ⟨hx, hb, hml, hown, hts⟩ hP hK hS (kL_many l hX (pbt w f0 g0 c0 y0 o0) hc138) hc_62 rfl hl.1 rfl (Nat.le_of_ble_eq_true rfl) dL_isHearthRight_50 ⟨Nat.zero_le _, Nat.zero_le _⟩ (fun H locs hP hS => ?_)
          refine lv_iload hx hb dL_isHearthRight_53 (lv_at hl 1 rfl) ?_
          refine lv_iconst (v := 1) hx hb dL_isHearthRight_55 (by decide) ?_
          obtain ⟨x142, ejK143, hf⟩ := ob1_e hf
          have K143 : ∀ (H : Heap) (locs : List Loc) (ls : Array Slot), HW X (pbt w f0 g0 c0 y0 o0) H → va_S (xF b0) s.heap H locs → lv_has ls 7 [(0, .ref (xa X 306)), (1, .int x2), (2, .int x3), (3, .int x4), (4, .int x130), (5, .int x132), (6, .int x134)] → W p l e R s m args below meth c H locs 0 0 Q (F0 m 69 ls [.int x142, .int x137]) := by
            intro H locs ls hP hS hl
            refine lv_icmp_ne (tgt := 137) hx hb dL_isHearthRight_69 (by decide) (fun h146 => ?_) (fun h146 => ?_)
            · rw [if_neg h146] at hf
              refine lv_iconst (v := 0) hx hb dL_isHearthRight_137 (by decide) ?_
              have hf := Option.some.inj hf
              obtain rfl := hf
              rw [hQ]
              exact w_zret hx hb hr hlocks hP hK hS dL_isHearthRight_138 (by decide) rfl rfl
            · rw [if_pos h146] at hf
              refine lv_iload hx hb dL_isHearthRight_72 (lv_at hl 5 rfl) ?_
              obtain ⟨x148, ejK149, hf⟩ := lt1_e hf
              have K149 : ∀ (H : Heap) (locs : List Loc) (ls : Array Slot), HW X (pbt w f0 g0 c0 y0 o0) H → va_S (xF b0) s.heap H locs → lv_has ls 7 [(0, .ref (xa X 306)), (1, .int x2), (2, .int x3), (3, .int x4), (4, .int x130), (5, .int x132), (6, .int x134)] → W p l e R s m args below meth c H locs 0 0 Q (F0 m 82 ls [.int x148]) := by
                intro H locs ls hP hS hl
                refine lv_iload hx hb dL_isHearthRight_82 (lv_at hl 6 rfl) ?_
                obtain ⟨x151, ejK152, hf⟩ := lt1_e hf
                have K152 : ∀ (H : Heap) (locs : List Loc) (ls : Array Slot), HW X (pbt w f0 g0 c0 y0 o0) H → va_S (xF b0) s.heap H locs → lv_has ls 7 [(0, .ref (xa X 306)), (1, .int x2), (2, .int x3), (3, .int x4), (4, .int x130), (5, .int x132), (6, .int x134)] → W p l e R s m args below meth c H locs 0 0 Q (F0 m 92 ls [.int x151, .int x148]) := by
                  intro H locs ls hP hS hl
                  refine lv_icmp_ne (tgt := 137) hx hb dL_isHearthRight_92 (by decide) (fun h153 => ?_) (fun h153 => ?_)
                  · rw [if_neg h153] at hf
                    refine lv_iconst (v := 0) hx hb dL_isHearthRight_137 (by decide) ?_
                    have hf := Option.some.inj hf
                    obtain rfl := hf
                    rw [hQ]
                    exact w_zret hx hb hr hlocks hP hK hS dL_isHearthRight_138 (by decide) rfl rfl
                  · rw [if_pos h153] at hf
                    refine lv_iload hx hb dL_isHearthRight_95 (lv_at hl 5 rfl) ?_
                    obtain ⟨x155, ejK156, hf⟩ := lt1_e hf
                    have K156 : ∀ (H : Heap) (locs : List Loc) (ls : Array Slot), HW X (pbt w f0 g0 c0 y0 o0) H → va_S (xF b0) s.heap H locs → lv_has ls 7 [(0, .ref (xa X 306)), (1, .int x2), (2, .int x3), (3, .int x4), (4, .int x130), (5, .int x132), (6, .int x134)] → W p l e R s m args below meth c H locs 0 0 Q (F0 m 105 ls [.int x155]) := by
                      intro H locs ls hP hS hl
                      refine lv_aload_n hx hb dL_isHearthRight_105 rfl (lv_at hl 0 rfl) ?_
                      refine lv_iload_n hx hb dL_isHearthRight_106 rfl (lv_at hl 3 rfl) ?_
                      obtain ⟨x157, hc158, hf⟩ := ob1_e hf
                      refine w_ci ⟨hx, hb, hml, hown, hts⟩ hP hK hS (k8_reason l hX w hc158) hc_65 (w_recv hP hK (by decide) emb_bt rfl) rfl hl.1 rfl (Nat.le_of_ble_eq_true rfl) dL_isHearthRight_107 ⟨Nat.zero_le _, Nat.zero_le _⟩ (fun H locs hP hS => ?_)
                      obtain ⟨x160, ejK161, hf⟩ := lt1_e hf
                      have K161 : ∀ (H : Heap) (locs : List Loc) (ls : Array Slot), HW X (pbt w f0 g0 c0 y0 o0) H → va_S (xF b0) s.heap H locs → lv_has ls 7 [(0, .ref (xa X 306)), (1, .int x2), (2, .int x3), (3, .int x4), (4, .int x130), (5, .int x132), (6, .int x134)] → W p l e R s m args below meth c H locs 0 0 Q (F0 m 118 ls [.int x160, .int x155]) := by
                        intro H locs ls hP hS hl
                        refine lv_icmp_ne (tgt := 137) hx hb dL_isHearthRight_118 (by decide) (fun h162 => ?_) (fun h162 => ?_)
                        · rw [if_neg h162] at hf
                          refine lv_iconst (v := 0) hx hb dL_isHearthRight_137 (by decide) ?_
                          have hf := Option.some.inj hf
                          obtain rfl := hf
                          rw [hQ]
                          exact w_zret hx hb hr hlocks hP hK hS dL_isHearthRight_138 (by decide) rfl rfl
                        · rw [if_pos h162] at hf
                          refine lv_aload_n hx hb dL_isHearthRight_121 rfl (lv_at hl 0 rfl) ?_
                          refine lv_iload_n hx hb dL_isHearthRight_122 rfl (lv_at hl 3 rfl) ?_
                          refine lv_bipush (v := 9) hx hb dL_isHearthRight_123 (by decide) ?_
                          obtain ⟨x163, hc164, hf⟩ := ob1_e hf
                          refine w_ci ⟨hx, hb, hml, hown, hts⟩ hP hK hS (k8_dough l hX w hc164) hc_59 (w_recv hP hK (by decide) emb_bt rfl) rfl hl.1 rfl (Nat.le_of_ble_eq_true rfl) dL_isHearthRight_125 ⟨Nat.zero_le _, Nat.zero_le _⟩ (fun H locs hP hS => ?_)
                          refine lv_aload_n hx hb dL_isHearthRight_128 rfl (lv_at hl 0 rfl) ?_
                          refine lv_iload_n hx hb dL_isHearthRight_129 rfl (lv_at hl 3 rfl) ?_
                          refine lv_iconst (v := 2) hx hb dL_isHearthRight_130 (by decide) ?_
                          obtain ⟨x165, hc166, hf⟩ := ob1_e hf
                          refine w_ci ⟨hx, hb, hml, hown, hts⟩ hP hK hS (k8_dough l hX w hc166) hc_59 (w_recv hP hK (by decide) emb_bt rfl) rfl hl.1 rfl (Nat.le_of_ble_eq_true rfl) dL_isHearthRight_131 ⟨Nat.zero_le _, Nat.zero_le _⟩ (fun H locs hP hS => ?_)
                          refine lv_icmp_le (tgt := 139) hx hb dL_isHearthRight_134 (by decide) (fun h167 => ?_) (fun h167 => ?_)
                          · rw [if_pos h167] at hf
                            refine lv_iload hx hb dL_isHearthRight_139 (lv_at hl 5 rfl) ?_
                            refine lv_if_ne (tgt := 154) hx hb dL_isHearthRight_141 (by decide) (fun h168 => ?_) (fun h168 => ?_)
                            · rw [if_neg h168] at hf
                              refine lv_iload hx hb dL_isHearthRight_154 (lv_at hl 5 rfl) ?_
                              refine lv_iconst (v := 1) hx hb dL_isHearthRight_156 (by decide) ?_
                              obtain ⟨x171, ejK172, hf⟩ := lt1_e hf
                              have K172 : ∀ (H : Heap) (locs : List Loc) (ls : Array Slot), HW X (pbt w f0 g0 c0 y0 o0) H → va_S (xF b0) s.heap H locs → lv_has ls 7 [(0, .ref (xa X 306)), (1, .int x2), (2, .int x3), (3, .int x4), (4, .int x130), (5, .int x132)] → W p l e R s m args below meth c H locs 0 0 Q (F0 m 171 ls [.int x171]) := by
                                intro H locs ls hP hS hl
                                refine lv_aload_n hx hb dL_isHearthRight_171 rfl (lv_at hl 0 rfl) ?_
                                refine lv_iload_n hx hb dL_isHearthRight_172 rfl (lv_at hl 3 rfl) ?_
                                refine lv_bipush (v := 6) hx hb dL_isHearthRight_173 (by decide) ?_
                                obtain ⟨x174, hc175, hf⟩ := ob1_e hf
                                refine w_ci ⟨hx, hb, hml, hown, hts⟩ hP hK hS (k8_dough l hX w hc175) hc_59 (w_recv hP hK (by decide) emb_bt rfl) rfl hl.1 rfl (Nat.le_of_ble_eq_true rfl) dL_isHearthRight_175 ⟨Nat.zero_le _, Nat.zero_le _⟩ (fun H locs hP hS => ?_)
                                obtain ⟨x177, ejK178, hf⟩ := lt1_e hf
                                have K178 : ∀ (H : Heap) (locs : List Loc) (ls : Array Slot), HW X (pbt w f0 g0 c0 y0 o0) H → va_S (xF b0) s.heap H locs → lv_has ls 7 [(0, .ref (xa X 306)), (1, .int x2), (2, .int x3), (3, .int x4), (4, .int x130), (5, .int x132)] → W p l e R s m args below meth c H locs 0 0 Q (F0 m 186 ls [.int x177, .int x171]) := by
                                  intro H locs ls hP hS hl
                                  refine lv_icmp_eq (tgt := 191) hx hb dL_isHearthRight_186 (by decide) (fun h179 => ?_) (fun h179 => ?_)
                                  · rw [if_pos h179] at hf
                                    refine lv_iload_n hx hb dL_isHearthRight_191 rfl (lv_at hl 1 rfl) ?_
                                    refine lv_iload hx hb dL_isHearthRight_192 (lv_at hl 4 rfl) ?_
                                    refine lv_ior hx hb dL_isHearthRight_194 ?_
                                    refine lv_topi (fun x180 ex180 => ?_)
                                    replace hf := ltn_s ex180 hf
                                    refine lv_istore_n (lv' := [(1, .int x180), (0, .ref (xa X 306)), (2, .int x3), (3, .int x4), (4, .int x130), (5, .int x132)]) hx hb dL_isHearthRight_195 rfl hl (by decide) rfl (fun ls hl => ?_)
                                    refine lv_iload_n hx hb dL_isHearthRight_196 rfl (lv_at hl 2 rfl) ?_
                                    refine lv_iload hx hb dL_isHearthRight_197 (lv_at hl 5 rfl) ?_
                                    obtain ⟨x182, ejK183, hf⟩ := lt1_e hf
                                    have K183 : ∀ (H : Heap) (locs : List Loc) (ls : Array Slot), HW X (pbt w f0 g0 c0 y0 o0) H → va_S (xF b0) s.heap H locs → lv_has ls 7 [(0, .ref (xa X 306)), (1, .int x180), (3, .int x4)] → W p l e R s m args below meth c H locs 0 0 Q (F0 m 207 ls [.int x182, .int x3]) := by
                                      intro H locs ls hP hS hl
                                      refine lv_iadd hx hb dL_isHearthRight_207 ?_
                                      refine lv_topi (fun x184 ex184 => ?_)
                                      replace hf := ltn_s ex184 hf
                                      refine lv_istore_n (lv' := [(2, .int x184), (0, .ref (xa X 306)), (1, .int x180), (3, .int x4)]) hx hb dL_isHearthRight_208 rfl hl (by decide) rfl (fun ls hl => ?_)
                                      obtain ⟨x185, ex185⟩ : ∃ y : Int32, y = x4 + 1 := ⟨_, rfl⟩
                                      replace hf := ltn_s ex185 hf
                                      refine lv_iinc (v := x185) (lv' := [(3, .int x185), (2, .int x184), (0, .ref (xa X 306)), (1, .int x180)]) hx hb dL_isHearthRight_209 hl (k := 3) rfl (by rw [ex185]; rfl) (by decide) rfl (fun ls hl => ?_)
                                      refine lv_goto (tgt := 6) hx hb dL_isHearthRight_212 (by decide) ?_
                                      exact ih x180 x184 x185  _ _ _ hf hP hS (lv_sub hl [2, 3, 1, 0] rfl)
                                    clear hf
                                    refine lv_if_ne (tgt := 206) hx hb dL_isHearthRight_199 (by decide) (fun h181 => ?_) (fun h181 => ?_)
                                    · rw [if_neg h181] at ejK183
                                      refine lv_iconst (v := 0) hx hb dL_isHearthRight_206 (by decide) ?_
                                      obtain rfl := ejK183
                                      exact K183 _ _ _ hP hS (lv_sub hl [1, 0, 3] rfl)
                                    · rw [if_pos h181] at ejK183
                                      refine lv_iconst (v := 1) hx hb dL_isHearthRight_202 (by decide) ?_
                                      refine lv_goto (tgt := 207) hx hb dL_isHearthRight_203 (by decide) ?_
                                      obtain rfl := ejK183
                                      exact K183 _ _ _ hP hS (lv_sub hl [1, 0, 3] rfl)
                                  · rw [if_neg h179] at hf
                                    refine lv_iconst (v := 0) hx hb dL_isHearthRight_189 (by decide) ?_
                                    have hf := Option.some.inj hf
                                    obtain rfl := hf
                                    rw [hQ]
                                    exact w_zret hx hb hr hlocks hP hK hS dL_isHearthRight_190 (by decide) rfl rfl
                                clear hf
                                refine lv_if_lt (tgt := 185) hx hb dL_isHearthRight_178 (by decide) (fun h176 => ?_) (fun h176 => ?_)
                                · rw [if_pos h176] at ejK178
                                  refine lv_iconst (v := 0) hx hb dL_isHearthRight_185 (by decide) ?_
                                  obtain rfl := ejK178
                                  exact K178 _ _ _ hP hS (lv_sub hl [0, 1, 2, 3, 4, 5] rfl)
                                · rw [if_neg h176] at ejK178
                                  refine lv_iconst (v := 1) hx hb dL_isHearthRight_181 (by decide) ?_
                                  refine lv_goto (tgt := 186) hx hb dL_isHearthRight_182 (by decide) ?_
                                  obtain rfl := ejK178
                                  exact K178 _ _ _ hP hS (lv_sub hl [0, 1, 2, 3, 4, 5] rfl)
                              clear hf
                              refine lv_icmp_eq (tgt := 166) hx hb dL_isHearthRight_157 (by decide) (fun h169 => ?_) (fun h169 => ?_)
                              · rw [if_pos h169] at ejK172
                                refine lv_iconst (v := 1) hx hb dL_isHearthRight_166 (by decide) ?_
                                refine lv_goto (tgt := 171) hx hb dL_isHearthRight_167 (by decide) ?_
                                obtain rfl := ejK172
                                exact K172 _ _ _ hP hS (lv_sub hl [0, 1, 2, 3, 4, 5] rfl)
                              · rw [if_neg h169] at ejK172
                                refine lv_iload hx hb dL_isHearthRight_160 (lv_at hl 5 rfl) ?_
                                refine lv_iconst (v := 2) hx hb dL_isHearthRight_162 (by decide) ?_
                                refine lv_icmp_ne (tgt := 170) hx hb dL_isHearthRight_163 (by decide) (fun h173 => ?_) (fun h173 => ?_)
                                · rw [if_neg h173] at ejK172
                                  refine lv_iconst (v := 0) hx hb dL_isHearthRight_170 (by decide) ?_
                                  obtain rfl := ejK172
                                  exact K172 _ _ _ hP hS (lv_sub hl [0, 1, 2, 3, 4, 5] rfl)
                                · rw [if_pos h173] at ejK172
                                  refine lv_iconst (v := 1) hx hb dL_isHearthRight_166 (by decide) ?_
                                  refine lv_goto (tgt := 171) hx hb dL_isHearthRight_167 (by decide) ?_
                                  obtain rfl := ejK172
                                  exact K172 _ _ _ hP hS (lv_sub hl [0, 1, 2, 3, 4, 5] rfl)
                            · rw [if_pos h168] at hf
                              refine lv_aload_n hx hb dL_isHearthRight_144 rfl (lv_at hl 0 rfl) ?_
                              refine lv_iload hx hb dL_isHearthRight_145 (lv_at hl 6 rfl) ?_
                              obtain ⟨x186, hc187, hf⟩ := ob1_e hf
                              refine w_ci ⟨hx, hb, hml, hown, hts⟩ hP hK hS (k8_line l hX w hc187) hc_35 (w_recv hP hK (by decide) emb_bt rfl) rfl hl.1 rfl (Nat.le_of_ble_eq_true rfl) dL_isHearthRight_147 ⟨Nat.zero_le _, Nat.zero_le _⟩ (fun H locs hP hS => ?_)
                              refine lv_iload_n hx hb dL_isHearthRight_150 rfl (lv_at hl 3 rfl) ?_
                              refine lv_icmp_ne (tgt := 189) hx hb dL_isHearthRight_151 (by decide) (fun h188 => ?_) (fun h188 => ?_)
                              · rw [if_neg h188] at hf
                                refine lv_iconst (v := 0) hx hb dL_isHearthRight_189 (by decide) ?_
                                have hf := Option.some.inj hf
                                obtain rfl := hf
                                rw [hQ]
                                exact w_zret hx hb hr hlocks hP hK hS dL_isHearthRight_190 (by decide) rfl rfl
                              · rw [if_pos h188] at hf
                                refine lv_iload hx hb dL_isHearthRight_154 (lv_at hl 5 rfl) ?_
                                refine lv_iconst (v := 1) hx hb dL_isHearthRight_156 (by decide) ?_
                                obtain ⟨x191, ejK192, hf⟩ := lt1_e hf
                                have K192 : ∀ (H : Heap) (locs : List Loc) (ls : Array Slot), HW X (pbt w f0 g0 c0 y0 o0) H → va_S (xF b0) s.heap H locs → lv_has ls 7 [(0, .ref (xa X 306)), (1, .int x2), (2, .int x3), (3, .int x4), (4, .int x130), (5, .int x132)] → W p l e R s m args below meth c H locs 0 0 Q (F0 m 171 ls [.int x191]) := by
                                  intro H locs ls hP hS hl
                                  refine lv_aload_n hx hb dL_isHearthRight_171 rfl (lv_at hl 0 rfl) ?_
                                  refine lv_iload_n hx hb dL_isHearthRight_172 rfl (lv_at hl 3 rfl) ?_
                                  refine lv_bipush (v := 6) hx hb dL_isHearthRight_173 (by decide) ?_
                                  obtain ⟨x194, hc195, hf⟩ := ob1_e hf
                                  refine w_ci ⟨hx, hb, hml, hown, hts⟩ hP hK hS (k8_dough l hX w hc195) hc_59 (w_recv hP hK (by decide) emb_bt rfl) rfl hl.1 rfl (Nat.le_of_ble_eq_true rfl) dL_isHearthRight_175 ⟨Nat.zero_le _, Nat.zero_le _⟩ (fun H locs hP hS => ?_)
                                  obtain ⟨x197, ejK198, hf⟩ := lt1_e hf
                                  have K198 : ∀ (H : Heap) (locs : List Loc) (ls : Array Slot), HW X (pbt w f0 g0 c0 y0 o0) H → va_S (xF b0) s.heap H locs → lv_has ls 7 [(0, .ref (xa X 306)), (1, .int x2), (2, .int x3), (3, .int x4), (4, .int x130), (5, .int x132)] → W p l e R s m args below meth c H locs 0 0 Q (F0 m 186 ls [.int x197, .int x191]) := by
                                    intro H locs ls hP hS hl
                                    refine lv_icmp_eq (tgt := 191) hx hb dL_isHearthRight_186 (by decide) (fun h199 => ?_) (fun h199 => ?_)
                                    · rw [if_pos h199] at hf
                                      refine lv_iload_n hx hb dL_isHearthRight_191 rfl (lv_at hl 1 rfl) ?_
                                      refine lv_iload hx hb dL_isHearthRight_192 (lv_at hl 4 rfl) ?_
                                      refine lv_ior hx hb dL_isHearthRight_194 ?_
                                      refine lv_topi (fun x200 ex200 => ?_)
                                      replace hf := ltn_s ex200 hf
                                      refine lv_istore_n (lv' := [(1, .int x200), (0, .ref (xa X 306)), (2, .int x3), (3, .int x4), (4, .int x130), (5, .int x132)]) hx hb dL_isHearthRight_195 rfl hl (by decide) rfl (fun ls hl => ?_)
                                      refine lv_iload_n hx hb dL_isHearthRight_196 rfl (lv_at hl 2 rfl) ?_
                                      refine lv_iload hx hb dL_isHearthRight_197 (lv_at hl 5 rfl) ?_
                                      obtain ⟨x202, ejK203, hf⟩ := lt1_e hf
                                      have K203 : ∀ (H : Heap) (locs : List Loc) (ls : Array Slot), HW X (pbt w f0 g0 c0 y0 o0) H → va_S (xF b0) s.heap H locs → lv_has ls 7 [(0, .ref (xa X 306)), (1, .int x200), (3, .int x4)] → W p l e R s m args below meth c H locs 0 0 Q (F0 m 207 ls [.int x202, .int x3]) := by
                                        intro H locs ls hP hS hl
                                        refine lv_iadd hx hb dL_isHearthRight_207 ?_
                                        refine lv_topi (fun x204 ex204 => ?_)
                                        replace hf := ltn_s ex204 hf
                                        refine lv_istore_n (lv' := [(2, .int x204), (0, .ref (xa X 306)), (1, .int x200), (3, .int x4)]) hx hb dL_isHearthRight_208 rfl hl (by decide) rfl (fun ls hl => ?_)
                                        obtain ⟨x205, ex205⟩ : ∃ y : Int32, y = x4 + 1 := ⟨_, rfl⟩
                                        replace hf := ltn_s ex205 hf
                                        refine lv_iinc (v := x205) (lv' := [(3, .int x205), (2, .int x204), (0, .ref (xa X 306)), (1, .int x200)]) hx hb dL_isHearthRight_209 hl (k := 3) rfl (by rw [ex205]; rfl) (by decide) rfl (fun ls hl => ?_)
                                        refine lv_goto (tgt := 6) hx hb dL_isHearthRight_212 (by decide) ?_
                                        exact ih x200 x204 x205  _ _ _ hf hP hS (lv_sub hl [2, 3, 1, 0] rfl)
                                      clear hf
                                      refine lv_if_ne (tgt := 206) hx hb dL_isHearthRight_199 (by decide) (fun h201 => ?_) (fun h201 => ?_)
                                      · rw [if_neg h201] at ejK203
                                        refine lv_iconst (v := 0) hx hb dL_isHearthRight_206 (by decide) ?_
                                        obtain rfl := ejK203
                                        exact K203 _ _ _ hP hS (lv_sub hl [1, 0, 3] rfl)
                                      · rw [if_pos h201] at ejK203
                                        refine lv_iconst (v := 1) hx hb dL_isHearthRight_202 (by decide) ?_
                                        refine lv_goto (tgt := 207) hx hb dL_isHearthRight_203 (by decide) ?_
                                        obtain rfl := ejK203
                                        exact K203 _ _ _ hP hS (lv_sub hl [1, 0, 3] rfl)
                                    · rw [if_neg h199] at hf
                                      refine lv_iconst (v := 0) hx hb dL_isHearthRight_189 (by decide) ?_
                                      have hf := Option.some.inj hf
                                      obtain rfl := hf
                                      rw [hQ]
                                      exact w_zret hx hb hr hlocks hP hK hS dL_isHearthRight_190 (by decide) rfl rfl
                                  clear hf
                                  refine lv_if_lt (tgt := 185) hx hb dL_isHearthRight_178 (by decide) (fun h196 => ?_) (fun h196 => ?_)
                                  · rw [if_pos h196] at ejK198
                                    refine lv_iconst (v := 0) hx hb dL_isHearthRight_185 (by decide) ?_
                                    obtain rfl := ejK198
                                    exact K198 _ _ _ hP hS (lv_sub hl [0, 1, 2, 3, 4, 5] rfl)
                                  · rw [if_neg h196] at ejK198
                                    refine lv_iconst (v := 1) hx hb dL_isHearthRight_181 (by decide) ?_
                                    refine lv_goto (tgt := 186) hx hb dL_isHearthRight_182 (by decide) ?_
                                    obtain rfl := ejK198
                                    exact K198 _ _ _ hP hS (lv_sub hl [0, 1, 2, 3, 4, 5] rfl)
                                clear hf
                                refine lv_icmp_eq (tgt := 166) hx hb dL_isHearthRight_157 (by decide) (fun h189 => ?_) (fun h189 => ?_)
                                · rw [if_pos h189] at ejK192
                                  refine lv_iconst (v := 1) hx hb dL_isHearthRight_166 (by decide) ?_
                                  refine lv_goto (tgt := 171) hx hb dL_isHearthRight_167 (by decide) ?_
                                  obtain rfl := ejK192
                                  exact K192 _ _ _ hP hS (lv_sub hl [0, 1, 2, 3, 4, 5] rfl)
                                · rw [if_neg h189] at ejK192
                                  refine lv_iload hx hb dL_isHearthRight_160 (lv_at hl 5 rfl) ?_
                                  refine lv_iconst (v := 2) hx hb dL_isHearthRight_162 (by decide) ?_
                                  refine lv_icmp_ne (tgt := 170) hx hb dL_isHearthRight_163 (by decide) (fun h193 => ?_) (fun h193 => ?_)
                                  · rw [if_neg h193] at ejK192
                                    refine lv_iconst (v := 0) hx hb dL_isHearthRight_170 (by decide) ?_
                                    obtain rfl := ejK192
                                    exact K192 _ _ _ hP hS (lv_sub hl [0, 1, 2, 3, 4, 5] rfl)
                                  · rw [if_pos h193] at ejK192
                                    refine lv_iconst (v := 1) hx hb dL_isHearthRight_166 (by decide) ?_
                                    refine lv_goto (tgt := 171) hx hb dL_isHearthRight_167 (by decide) ?_
                                    obtain rfl := ejK192
                                    exact K192 _ _ _ hP hS (lv_sub hl [0, 1, 2, 3, 4, 5] rfl)
                          · rw [if_neg h167] at hf
                            refine lv_iconst (v := 0) hx hb dL_isHearthRight_137 (by decide) ?_
                            have hf := Option.some.inj hf
                            obtain rfl := hf
                            rw [hQ]
                            exact w_zret hx hb hr hlocks hP hK hS dL_isHearthRight_138 (by decide) rfl rfl
                      clear hf
                      refine lv_if_lt (tgt := 117) hx hb dL_isHearthRight_110 (by decide) (fun h159 => ?_) (fun h159 => ?_)
                      · rw [if_pos h159] at ejK161
                        refine lv_iconst (v := 0) hx hb dL_isHearthRight_117 (by decide) ?_
                        obtain rfl := ejK161
                        exact K161 _ _ _ hP hS (lv_sub hl [0, 1, 2, 3, 4, 5, 6] rfl)
                      · rw [if_neg h159] at ejK161
                        refine lv_iconst (v := 1) hx hb dL_isHearthRight_113 (by decide) ?_
                        refine lv_goto (tgt := 118) hx hb dL_isHearthRight_114 (by decide) ?_
                        obtain rfl := ejK161
                        exact K161 _ _ _ hP hS (lv_sub hl [0, 1, 2, 3, 4, 5, 6] rfl)
                    clear hf
                    refine lv_if_ne (tgt := 104) hx hb dL_isHearthRight_97 (by decide) (fun h154 => ?_) (fun h154 => ?_)
                    · rw [if_neg h154] at ejK156
                      refine lv_iconst (v := 0) hx hb dL_isHearthRight_104 (by decide) ?_
                      obtain rfl := ejK156
                      exact K156 _ _ _ hP hS (lv_sub hl [0, 1, 2, 3, 4, 5, 6] rfl)
                    · rw [if_pos h154] at ejK156
                      refine lv_iconst (v := 1) hx hb dL_isHearthRight_100 (by decide) ?_
                      refine lv_goto (tgt := 105) hx hb dL_isHearthRight_101 (by decide) ?_
                      obtain rfl := ejK156
                      exact K156 _ _ _ hP hS (lv_sub hl [0, 1, 2, 3, 4, 5, 6] rfl)
                clear hf
                refine lv_if_lt (tgt := 91) hx hb dL_isHearthRight_84 (by decide) (fun h150 => ?_) (fun h150 => ?_)
                · rw [if_pos h150] at ejK152
                  refine lv_iconst (v := 0) hx hb dL_isHearthRight_91 (by decide) ?_
                  obtain rfl := ejK152
                  exact K152 _ _ _ hP hS (lv_sub hl [0, 1, 2, 3, 4, 5, 6] rfl)
                · rw [if_neg h150] at ejK152
                  refine lv_iconst (v := 1) hx hb dL_isHearthRight_87 (by decide) ?_
                  refine lv_goto (tgt := 92) hx hb dL_isHearthRight_88 (by decide) ?_
                  obtain rfl := ejK152
                  exact K152 _ _ _ hP hS (lv_sub hl [0, 1, 2, 3, 4, 5, 6] rfl)
              clear hf
              refine lv_if_ne (tgt := 81) hx hb dL_isHearthRight_74 (by decide) (fun h147 => ?_) (fun h147 => ?_)
              · rw [if_neg h147] at ejK149
                refine lv_iconst (v := 0) hx hb dL_isHearthRight_81 (by decide) ?_
                obtain rfl := ejK149
                exact K149 _ _ _ hP hS (lv_sub hl [0, 1, 2, 3, 4, 5, 6] rfl)
              · rw [if_pos h147] at ejK149
                refine lv_iconst (v := 1) hx hb dL_isHearthRight_77 (by decide) ?_
                refine lv_goto (tgt := 82) hx hb dL_isHearthRight_78 (by decide) ?_
                obtain rfl := ejK149
                exact K149 _ _ _ hP hS (lv_sub hl [0, 1, 2, 3, 4, 5, 6] rfl)
          clear hf
          refine lv_icmp_ne (tgt := 68) hx hb dL_isHearthRight_56 (by decide) (fun h139 => ?_) (fun h139 => ?_)
          · rw [if_neg h139] at ejK143
            refine lv_iconst (v := 0) hx hb dL_isHearthRight_68 (by decide) ?_
            have ejK143 := Option.some.inj ejK143
            obtain rfl := ejK143
            exact K143 _ _ _ hP hS (lv_sub hl [3, 4, 5, 6, 2, 1, 0] rfl)
          · rw [if_pos h139] at ejK143
            refine lv_aload_n hx hb dL_isHearthRight_59 rfl (lv_at hl 3 rfl) ?_
            refine lv_iload_n hx hb dL_isHearthRight_60 rfl (lv_at hl 6 rfl) ?_
            refine lv_iconst (v := 2) hx hb dL_isHearthRight_61 (by decide) ?_
            obtain ⟨x144, hc145, ejK143⟩ := ob1_e ejK143
            refine w_ci ⟨hx, hb, hml, hown, hts⟩ hP hK hS (k8_dough l hX w hc145) hc_59 (w_recv hP hK (by decide) emb_bt rfl) rfl hl.1 rfl (Nat.le_of_ble_eq_true rfl) dL_isHearthRight_62 ⟨Nat.zero_le _, Nat.zero_le _⟩ (fun H locs hP hS => ?_)
            refine lv_goto (tgt := 69) hx hb dL_isHearthRight_65 (by decide) ?_
            have ejK143 := Option.some.inj ejK143
            obtain rfl := ejK143
            exact K143 _ _ _ hP hS (lv_sub hl [3, 4, 5, 6, 2, 1, 0] rfl)
  exact L6 N 0 0 0  _ _ _ hf hP hS (lv_sub hl [3, 2, 1, 0] rfl)
