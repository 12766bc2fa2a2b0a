abbrev rmL_addsUp : Room := { frames := 6, cells := 0, slots := 0, locals := 127 }
set_option maxHeartbeats 4000000 in
set_option maxRecDepth 100000 in
theorem kL_addsUp (l : Launch) {X : bkX} {b0 : Nat} (hX : XO X b0) (w : bkW) {N : Nat} {f0 : bkA} {g0 : bkA} {c0 : bkA} {y0 : Nat → bkA} {o0 : Nat → Int32} {a1 : Int32} {res9 : Int32} (hf : mL_addsUp N f0 c0 a1 = some res9) : cI l yL_addsUp wsL_addsUp rmL_addsUp X b0 [.ref (xa X 306), .int a1] (pbt w f0 g0 c0 y0 o0) res9 (pbt w f0 g0 c0 y0 o0) := by
  refine Met.ofW (cc := cL_addsUp) (maxL := 10) (ret := (some .boolean)) (by decide) rfl ?_
  intro p e s m args below meth c s₁ B hml hv
  obtain ⟨ha, hP, hK⟩ := hv
  have hx := B.exec
  have hb := B.bytes
  have hr := B.returns
  have hts := atoms_spec (ws := wsL_addsUp) B.pre
  have hown : s.vm.findClass RL = some m.cls := findClass_of_methodNamed B.named
  have hlocks := B.notSynchronized
  obtain ⟨R, hR⟩ : ∃ R, R = (headSpec wsL_addsUp rmL_addsUp).room := ⟨_, rfl⟩
  rw [← hR]
  have hR1 : R.frames = 6 := by rw [hR]; rfl
  have hR2 : R.locals = 127 := by rw [hR]; rfl
  obtain ⟨Q, hQ⟩ : ∃ Q : State → Prop, Q = MQ below (va_Qi (fun r' (_ : Unit) => r' = res9) (fun _ t => WU X (pbt w f0 g0 c0 y0 o0) t) (xF b0)) args s 0 0 (xF b0) := ⟨_, rfl⟩
  rw [← hQ]
  have hS : va_S (xF b0) s.heap s.heap [] := va_S.rf
  have hl := lv_entry ([.ref (xa X 306), .int a1]) (n := 10) (Nat.le_of_ble_eq_true rfl)
  refine W.eq ((congrArg (fun z => entryFrame m z 10) ha).trans (lg_entry_eq m _ 10)) ?_
  generalize (lg_sl ([.ref (xa X 306), .int a1]) ++ List.replicate (10 - (lg_sl ([.ref (xa X 306), .int a1])).length) Slot.unset).toArray = ls at hl ⊢
  have hl : lv_has ls 10 [(0, .ref (xa X 306)), (1, .int a1)] := hl
  have hc_8 := (cwV 1 hts gL_addsUp_X8_whole rfl rfl rfl (by decide +kernel) ⟨by rw [hR1]; exact Nat.le_of_ble_eq_true rfl, by rw [hR2]; exact Nat.le_of_ble_eq_true rfl⟩ : CallW R s args RL RX8 8 yX8_whole cX8_whole 2 (some .int) wsX8_whole rmX8_whole 0 0 1)
  have hc_41 := (cwV 2 hts gL_addsUp_X8_house rfl rfl rfl (by decide +kernel) ⟨by rw [hR1]; exact Nat.le_of_ble_eq_true rfl, by rw [hR2]; exact Nat.le_of_ble_eq_true rfl⟩ : CallW R s args RL RX8 41 yX8_house cX8_house 3 (some .int) wsX8_house rmX8_house 0 0 2)
  have hc_56 := (cwV 1 hts gL_addsUp_X8_owes rfl rfl rfl (by decide +kernel) ⟨by rw [hR1]; exact Nat.le_of_ble_eq_true rfl, by rw [hR2]; exact Nat.le_of_ble_eq_true rfl⟩ : CallW R s args RL RX8 56 yX8_owes cX8_owes 2 (some .int) wsX8_owes rmX8_owes 0 0 1)
  unfold mL_addsUp at hf
  refine lv_iconst (v := 0) hx hb dL_addsUp_0 (by decide) ?_
  refine lv_istore_n (lv' := [(2, .int 0), (0, .ref (xa X 306)), (1, .int a1)]) hx hb dL_addsUp_1 rfl hl (by decide) rfl (fun ls hl => ?_)
  refine lv_iconst (v := 0) hx hb dL_addsUp_2 (by decide) ?_
  refine lv_istore_n (lv' := [(3, .int 0), (2, .int 0), (0, .ref (xa X 306)), (1, .int a1)]) hx hb dL_addsUp_3 rfl hl (by decide) rfl (fun ls hl => ?_)
  refine lv_iconst (v := 0) hx hb dL_addsUp_4 (by decide) ?_
  refine lv_istore (lv' := [(4, .int 0), (3, .int 0), (2, .int 0), (0, .ref (xa X 306)), (1, .int a1)]) hx hb dL_addsUp_5 hl (by decide) rfl (fun ls hl => ?_)
  refine lv_iconst (v := 0) hx hb dL_addsUp_7 (by decide) ?_
  refine lv_istore (lv' := [(5, .int 0), (4, .int 0), (3, .int 0), (2, .int 0), (0, .ref (xa X 306)), (1, .int a1)]) hx hb dL_addsUp_8 hl (by decide) rfl (fun ls hl => ?_)
  refine lv_iconst (v := 0) hx hb dL_addsUp_10 (by decide) ?_
  refine lv_istore (lv' := [(6, .int 0), (5, .int 0), (4, .int 0), (3, .int 0), (2, .int 0), (0, .ref (xa X 306)), (1, .int a1)]) hx hb dL_addsUp_11 hl (by decide) rfl (fun ls hl => ?_)
  refine lv_iconst (v := 0) hx hb dL_addsUp_13 (by decide) ?_
  refine lv_istore (lv' := [(7, .int 0), (6, .int 0), (5, .int 0), (4, .int 0), (3, .int 0), (2, .int 0), (0, .ref (xa X 306)), (1, .int a1)]) hx hb dL_addsUp_14 hl (by decide) rfl (fun ls hl => ?_)
  refine lv_iconst (v := 0) hx hb dL_addsUp_16 (by decide) ?_
  refine lv_istore (lv' := [(8, .int 0), (7, .int 0), (6, .int 0), (5, .int 0), (4, .int 0), (3, .int 0), (2, .int 0), (0, .ref (xa X 306)), (1, .int a1)]) hx hb dL_addsUp_17 hl (by decide) rfl (fun ls hl => ?_)
  refine lv_iconst (v := 0) hx hb dL_addsUp_19 (by decide) ?_
  refine lv_istore (lv' := [(9, .int 0), (8, .int 0), (7, .int 0), (6, .int 0), (5, .int 0), (4, .int 0), (3, .int 0), (2, .int 0), (0, .ref (xa X 306)), (1, .int a1)]) hx hb dL_addsUp_20 hl (by decide) rfl (fun ls hl => ?_)
  have L22 : ∀ (n : Nat) (x2 : Int32) (x3 : Int32) (x4 : Int32) (x5 : Int32) (x6 : Int32) (x7 : Int32) (x8 : Int32) (x9 : Int32) (x10 : Int32)  (H : Heap) (locs : List Loc) (ls : Array Slot), mL_addsUp_L22 N n x2 x3 x4 x5 x6 x7 x8 x9 x10 f0 c0 = some res9 → HW X (pbt w f0 g0 c0 y0 o0) H → va_S (xF b0) s.heap H locs → lv_has ls 10 [(0, .ref (xa X 306)), (1, .int x2), (2, .int x3), (3, .int x4), (4, .int x5), (5, .int x6), (6, .int x7), (7, .int x8), (8, .int x9), (9, .int x10)] → W p l e R s m args below meth c H locs 0 0 Q (F0 m 22 ls []) := by
    intro n; induction n with
    | zero => intro x2 x3 x4 x5 x6 x7 x8 x9 x10 H locs ls hf; rw [mL_addsUp_L22] at hf; cases hf
    | succ n ih =>
      intro x2 x3 x4 x5 x6 x7 x8 x9 x10 H locs ls hf hP hS hl
      rw [mL_addsUp_L22] at hf
      refine lv_iload hx hb dL_addsUp_22 (lv_at hl 9 rfl) ?_
      refine lv_aload_n hx hb dL_addsUp_24 rfl (lv_at hl 0 rfl) ?_
      refine lv_iconst (v := 1) hx hb dL_addsUp_25 (by decide) ?_
      obtain ⟨x11, hc12, hf⟩ := ob1_e hf
      refine w_ci ⟨hx, hb, hml, hown, hts⟩ hP hK hS (k8_whole l hX w hc12) hc_8 (w_recv hP hK (by decide) emb_bt rfl) rfl hl.1 rfl (Nat.le_of_ble_eq_true rfl) dL_addsUp_26 ⟨Nat.zero_le _, Nat.zero_le _⟩ (fun H locs hP hS => ?_)
      refine lv_icmp_ge (tgt := 170) hx hb dL_addsUp_29 (by decide) (fun h13 => ?_) (fun h13 => ?_)
      · rw [if_pos h13] at hf
        refine lv_iload_n hx hb dL_addsUp_170 rfl (lv_at hl 2 rfl) ?_
        refine lv_iload_n hx hb dL_addsUp_171 rfl (lv_at hl 3 rfl) ?_
        refine lv_iadd hx hb dL_addsUp_172 ?_
        refine lv_iload_n hx hb dL_addsUp_173 rfl (lv_at hl 1 rfl) ?_
        refine lv_iadd hx hb dL_addsUp_174 ?_
        refine lv_aload_n hx hb dL_addsUp_175 rfl (lv_at hl 0 rfl) ?_
        refine lv_bipush (v := 10) hx hb dL_addsUp_176 (by decide) ?_
        obtain ⟨x14, hc15, hf⟩ := ob1_e hf
        refine w_ci ⟨hx, hb, hml, hown, hts⟩ hP hK hS (k8_whole l hX w hc15) hc_8 (w_recv hP hK (by decide) emb_bt rfl) rfl hl.1 rfl (Nat.le_of_ble_eq_true rfl) dL_addsUp_178 ⟨Nat.zero_le _, Nat.zero_le _⟩ (fun H locs hP hS => ?_)
        refine lv_icmp_ne (tgt := 273) hx hb dL_addsUp_181 (by decide) (fun h16 => ?_) (fun h16 => ?_)
        · rw [if_neg h16] at hf
          refine lv_iconst (v := 0) hx hb dL_addsUp_273 (by decide) ?_
          have hf := Option.some.inj hf
          obtain rfl := hf
          rw [hQ]
          exact w_zret hx hb hr hlocks hP hK hS dL_addsUp_274 (by decide) rfl rfl
        · rw [if_pos h16] at hf
          refine lv_iload hx hb dL_addsUp_184 (lv_at hl 6 rfl) ?_
          refine lv_aload_n hx hb dL_addsUp_186 rfl (lv_at hl 0 rfl) ?_
          refine lv_bipush (v := 10) hx hb dL_addsUp_187 (by decide) ?_
          obtain ⟨x17, hc18, hf⟩ := ob1_e hf
          refine w_ci ⟨hx, hb, hml, hown, hts⟩ hP hK hS (k8_whole l hX w hc18) hc_8 (w_recv hP hK (by decide) emb_bt rfl) rfl hl.1 rfl (Nat.le_of_ble_eq_true rfl) dL_addsUp_189 ⟨Nat.zero_le _, Nat.zero_le _⟩ (fun H locs hP hS => ?_)
          refine lv_icmp_ne (tgt := 273) hx hb dL_addsUp_192 (by decide) (fun h19 => ?_) (fun h19 => ?_)
          · rw [if_neg h19] at hf
            refine lv_iconst (v := 0) hx hb dL_addsUp_273 (by decide) ?_
            have hf := Option.some.inj hf
            obtain rfl := hf
            rw [hQ]
            exact w_zret hx hb hr hlocks hP hK hS dL_addsUp_274 (by decide) rfl rfl
          · rw [if_pos h19] at hf
            refine lv_iload_n hx hb dL_addsUp_195 rfl (lv_at hl 3 rfl) ?_
            refine lv_aload_n hx hb dL_addsUp_196 rfl (lv_at hl 0 rfl) ?_
            refine lv_bipush (v := 7) hx hb dL_addsUp_197 (by decide) ?_
            obtain ⟨x20, hc21, hf⟩ := ob1_e hf
            refine w_ci ⟨hx, hb, hml, hown, hts⟩ hP hK hS (k8_whole l hX w hc21) hc_8 (w_recv hP hK (by decide) emb_bt rfl) rfl hl.1 rfl (Nat.le_of_ble_eq_true rfl) dL_addsUp_199 ⟨Nat.zero_le _, Nat.zero_le _⟩ (fun H locs hP hS => ?_)
            refine lv_icmp_ne (tgt := 273) hx hb dL_addsUp_202 (by decide) (fun h22 => ?_) (fun h22 => ?_)
            · rw [if_neg h22] at hf
              refine lv_iconst (v := 0) hx hb dL_addsUp_273 (by decide) ?_
              have hf := Option.some.inj hf
              obtain rfl := hf
              rw [hQ]
              exact w_zret hx hb hr hlocks hP hK hS dL_addsUp_274 (by decide) rfl rfl
            · rw [if_pos h22] at hf
              refine lv_iload hx hb dL_addsUp_205 (lv_at hl 4 rfl) ?_
              refine lv_aload_n hx hb dL_addsUp_207 rfl (lv_at hl 0 rfl) ?_
              refine lv_bipush (v := 8) hx hb dL_addsUp_208 (by decide) ?_
              obtain ⟨x23, hc24, hf⟩ := ob1_e hf
              refine w_ci ⟨hx, hb, hml, hown, hts⟩ hP hK hS (k8_whole l hX w hc24) hc_8 (w_recv hP hK (by decide) emb_bt rfl) rfl hl.1 rfl (Nat.le_of_ble_eq_true rfl) dL_addsUp_210 ⟨Nat.zero_le _, Nat.zero_le _⟩ (fun H locs hP hS => ?_)
              refine lv_icmp_ne (tgt := 273) hx hb dL_addsUp_213 (by decide) (fun h25 => ?_) (fun h25 => ?_)
              · rw [if_neg h25] at hf
                refine lv_iconst (v := 0) hx hb dL_addsUp_273 (by decide) ?_
                have hf := Option.some.inj hf
                obtain rfl := hf
                rw [hQ]
                exact w_zret hx hb hr hlocks hP hK hS dL_addsUp_274 (by decide) rfl rfl
              · rw [if_pos h25] at hf
                refine lv_aload_n hx hb dL_addsUp_216 rfl (lv_at hl 0 rfl) ?_
                refine lv_bipush (v := 9) hx hb dL_addsUp_217 (by decide) ?_
                obtain ⟨x26, hc27, hf⟩ := ob1_e hf
                refine w_ci ⟨hx, hb, hml, hown, hts⟩ hP hK hS (k8_whole l hX w hc27) hc_8 (w_recv hP hK (by decide) emb_bt rfl) rfl hl.1 rfl (Nat.le_of_ble_eq_true rfl) dL_addsUp_219 ⟨Nat.zero_le _, Nat.zero_le _⟩ (fun H locs hP hS => ?_)
                refine lv_aload_n hx hb dL_addsUp_222 rfl (lv_at hl 0 rfl) ?_
                refine lv_bipush (v := 7) hx hb dL_addsUp_223 (by decide) ?_
                obtain ⟨x28, hc29, hf⟩ := ob1_e hf
                refine w_ci ⟨hx, hb, hml, hown, hts⟩ hP hK hS (k8_whole l hX w hc29) hc_8 (w_recv hP hK (by decide) emb_bt rfl) rfl hl.1 rfl (Nat.le_of_ble_eq_true rfl) dL_addsUp_225 ⟨Nat.zero_le _, Nat.zero_le _⟩ (fun H locs hP hS => ?_)
                refine lv_isub hx hb dL_addsUp_228 ?_
                refine lv_iload_n hx hb dL_addsUp_229 rfl (lv_at hl 1 rfl) ?_
                refine lv_icmp_ne (tgt := 273) hx hb dL_addsUp_230 (by decide) (fun h30 => ?_) (fun h30 => ?_)
                · rw [if_neg h30] at hf
                  refine lv_iconst (v := 0) hx hb dL_addsUp_273 (by decide) ?_
                  have hf := Option.some.inj hf
                  obtain rfl := hf
                  rw [hQ]
                  exact w_zret hx hb hr hlocks hP hK hS dL_addsUp_274 (by decide) rfl rfl
                · rw [if_pos h30] at hf
                  refine lv_iload hx hb dL_addsUp_233 (lv_at hl 5 rfl) ?_
                  refine lv_iload hx hb dL_addsUp_235 (lv_at hl 4 rfl) ?_
                  obtain ⟨x32, ejK33, hf⟩ := lt1_e hf
                  have K33 : ∀ (H : Heap) (locs : List Loc) (ls : Array Slot), HW X (pbt w f0 g0 c0 y0 o0) H → va_S (xF b0) s.heap H locs → lv_has ls 10 [(0, .ref (xa X 306)), (7, .int x8), (8, .int x9)] → W p l e R s m args below meth c H locs 0 0 Q (F0 m 245 ls [.int x32, .int x6]) := by
                    intro H locs ls hP hS hl
                    refine lv_icmp_ne (tgt := 273) hx hb dL_addsUp_245 (by decide) (fun h34 => ?_) (fun h34 => ?_)
                    · rw [if_neg h34] at hf
                      refine lv_iconst (v := 0) hx hb dL_addsUp_273 (by decide) ?_
                      have hf := Option.some.inj hf
                      obtain rfl := hf
                      rw [hQ]
                      exact w_zret hx hb hr hlocks hP hK hS dL_addsUp_274 (by decide) rfl rfl
                    · rw [if_pos h34] at hf
                      refine lv_iload hx hb dL_addsUp_248 (lv_at hl 1 rfl) ?_
                      refine lv_aload_n hx hb dL_addsUp_250 rfl (lv_at hl 0 rfl) ?_
                      refine lv_iconst (v := 2) hx hb dL_addsUp_251 (by decide) ?_
                      obtain ⟨x35, hc36, hf⟩ := ob1_e hf
                      refine w_ci ⟨hx, hb, hml, hown, hts⟩ hP hK hS (k8_whole l hX w hc36) hc_8 (w_recv hP hK (by decide) emb_bt rfl) rfl hl.1 rfl (Nat.le_of_ble_eq_true rfl) dL_addsUp_252 ⟨Nat.zero_le _, Nat.zero_le _⟩ (fun H locs hP hS => ?_)
                      refine lv_icmp_ne (tgt := 273) hx hb dL_addsUp_255 (by decide) (fun h37 => ?_) (fun h37 => ?_)
                      · rw [if_neg h37] at hf
                        refine lv_iconst (v := 0) hx hb dL_addsUp_273 (by decide) ?_
                        have hf := Option.some.inj hf
                        obtain rfl := hf
                        rw [hQ]
                        exact w_zret hx hb hr hlocks hP hK hS dL_addsUp_274 (by decide) rfl rfl
                      · rw [if_pos h37] at hf
                        refine lv_iload hx hb dL_addsUp_258 (lv_at hl 2 rfl) ?_
                        refine lv_aload_n hx hb dL_addsUp_260 rfl (lv_at hl 0 rfl) ?_
                        refine lv_bipush (v := 12) hx hb dL_addsUp_261 (by decide) ?_
                        obtain ⟨x38, hc39, hf⟩ := ob1_e hf
                        refine w_ci ⟨hx, hb, hml, hown, hts⟩ hP hK hS (k8_whole l hX w hc39) hc_8 (w_recv hP hK (by decide) emb_bt rfl) rfl hl.1 rfl (Nat.le_of_ble_eq_true rfl) dL_addsUp_263 ⟨Nat.zero_le _, Nat.zero_le _⟩ (fun H locs hP hS => ?_)
                        refine lv_icmp_ne (tgt := 273) hx hb dL_addsUp_266 (by decide) (fun h40 => ?_) (fun h40 => ?_)
                        · rw [if_neg h40] at hf
                          refine lv_iconst (v := 0) hx hb dL_addsUp_273 (by decide) ?_
                          have hf := Option.some.inj hf
                          obtain rfl := hf
                          rw [hQ]
                          exact w_zret hx hb hr hlocks hP hK hS dL_addsUp_274 (by decide) rfl rfl
                        · rw [if_pos h40] at hf
                          refine lv_iconst (v := 1) hx hb dL_addsUp_269 (by decide) ?_
                          refine lv_goto (tgt := 274) hx hb dL_addsUp_270 (by decide) ?_
                          have hf := Option.some.inj hf
                          obtain rfl := hf
                          rw [hQ]
                          exact w_zret hx hb hr hlocks hP hK hS dL_addsUp_274 (by decide) rfl rfl
                  clear hf
                  refine lv_if_le (tgt := 244) hx hb dL_addsUp_237 (by decide) (fun h31 => ?_) (fun h31 => ?_)
                  · rw [if_pos h31] at ejK33
                    refine lv_iconst (v := 0) hx hb dL_addsUp_244 (by decide) ?_
                    obtain rfl := ejK33
                    exact K33 _ _ _ hP hS (lv_sub hl [0, 7, 8] rfl)
                  · rw [if_neg h31] at ejK33
                    refine lv_iload_n hx hb dL_addsUp_240 rfl (lv_at hl 3 rfl) ?_
                    refine lv_goto (tgt := 245) hx hb dL_addsUp_241 (by decide) ?_
                    obtain rfl := ejK33
                    exact K33 _ _ _ hP hS (lv_sub hl [0, 7, 8] rfl)
      · rw [if_neg h13] at hf
        refine lv_iload_n hx hb dL_addsUp_32 rfl (lv_at hl 2 rfl) ?_
        refine lv_aload_n hx hb dL_addsUp_33 rfl (lv_at hl 0 rfl) ?_
        refine lv_iload hx hb dL_addsUp_34 (lv_at hl 9 rfl) ?_
        refine lv_iconst (v := 0) hx hb dL_addsUp_36 (by decide) ?_
        obtain ⟨x41, hc42, hf⟩ := ob1_e hf
        refine w_ci ⟨hx, hb, hml, hown, hts⟩ hP hK hS (k8_house l hX w hc42) hc_41 (w_recv hP hK (by decide) emb_bt rfl) rfl hl.1 rfl (Nat.le_of_ble_eq_true rfl) dL_addsUp_37 ⟨Nat.zero_le _, Nat.zero_le _⟩ (fun H locs hP hS => ?_)
        refine lv_iadd hx hb dL_addsUp_40 ?_
        refine lv_topi (fun x43 ex43 => ?_)
        replace hf := ltn_s ex43 hf
        refine lv_istore_n (lv' := [(2, .int x43), (0, .ref (xa X 306)), (1, .int x2), (3, .int x4), (4, .int x5), (5, .int x6), (6, .int x7), (7, .int x8), (8, .int x9), (9, .int x10)]) hx hb dL_addsUp_41 rfl hl (by decide) rfl (fun ls hl => ?_)
        refine lv_iload hx hb dL_addsUp_42 (lv_at hl 4 rfl) ?_
        refine lv_aload_n hx hb dL_addsUp_44 rfl (lv_at hl 1 rfl) ?_
        refine lv_iload hx hb dL_addsUp_45 (lv_at hl 9 rfl) ?_
        refine lv_iconst (v := 1) hx hb dL_addsUp_47 (by decide) ?_
        obtain ⟨x44, hc45, hf⟩ := ob1_e hf
        refine w_ci ⟨hx, hb, hml, hown, hts⟩ hP hK hS (k8_house l hX w hc45) hc_41 (w_recv hP hK (by decide) emb_bt rfl) rfl hl.1 rfl (Nat.le_of_ble_eq_true rfl) dL_addsUp_48 ⟨Nat.zero_le _, Nat.zero_le _⟩ (fun H locs hP hS => ?_)
        refine lv_iadd hx hb dL_addsUp_51 ?_
        refine lv_topi (fun x46 ex46 => ?_)
        replace hf := ltn_s ex46 hf
        refine lv_istore (lv' := [(4, .int x46), (2, .int x43), (0, .ref (xa X 306)), (1, .int x2), (3, .int x4), (5, .int x6), (6, .int x7), (7, .int x8), (8, .int x9), (9, .int x10)]) hx hb dL_addsUp_52 hl (by decide) rfl (fun ls hl => ?_)
        refine lv_iload_n hx hb dL_addsUp_54 rfl (lv_at hl 4 rfl) ?_
        refine lv_aload_n hx hb dL_addsUp_55 rfl (lv_at hl 2 rfl) ?_
        refine lv_iload hx hb dL_addsUp_56 (lv_at hl 9 rfl) ?_
        refine lv_iconst (v := 2) hx hb dL_addsUp_58 (by decide) ?_
        obtain ⟨x47, hc48, hf⟩ := ob1_e hf
        refine w_ci ⟨hx, hb, hml, hown, hts⟩ hP hK hS (k8_house l hX w hc48) hc_41 (w_recv hP hK (by decide) emb_bt rfl) rfl hl.1 rfl (Nat.le_of_ble_eq_true rfl) dL_addsUp_59 ⟨Nat.zero_le _, Nat.zero_le _⟩ (fun H locs hP hS => ?_)
        refine lv_iadd hx hb dL_addsUp_62 ?_
        refine lv_topi (fun x49 ex49 => ?_)
        replace hf := ltn_s ex49 hf
        refine lv_istore_n (lv' := [(3, .int x49), (4, .int x46), (2, .int x43), (0, .ref (xa X 306)), (1, .int x2), (5, .int x6), (6, .int x7), (7, .int x8), (8, .int x9), (9, .int x10)]) hx hb dL_addsUp_63 rfl hl (by decide) rfl (fun ls hl => ?_)
        refine lv_iload hx hb dL_addsUp_64 (lv_at hl 6 rfl) ?_
        refine lv_aload_n hx hb dL_addsUp_66 rfl (lv_at hl 3 rfl) ?_
        refine lv_iload hx hb dL_addsUp_67 (lv_at hl 9 rfl) ?_
        refine lv_iconst (v := 3) hx hb dL_addsUp_69 (by decide) ?_
        obtain ⟨x50, hc51, hf⟩ := ob1_e hf
        refine w_ci ⟨hx, hb, hml, hown, hts⟩ hP hK hS (k8_house l hX w hc51) hc_41 (w_recv hP hK (by decide) emb_bt rfl) rfl hl.1 rfl (Nat.le_of_ble_eq_true rfl) dL_addsUp_70 ⟨Nat.zero_le _, Nat.zero_le _⟩ (fun H locs hP hS => ?_)
        refine lv_iadd hx hb dL_addsUp_73 ?_
        refine lv_topi (fun x52 ex52 => ?_)
        replace hf := ltn_s ex52 hf
        refine lv_istore (lv' := [(6, .int x52), (3, .int x49), (4, .int x46), (2, .int x43), (0, .ref (xa X 306)), (1, .int x2), (5, .int x6), (7, .int x8), (8, .int x9), (9, .int x10)]) hx hb dL_addsUp_74 hl (by decide) rfl (fun ls hl => ?_)
        refine lv_iload hx hb dL_addsUp_76 (lv_at hl 7 rfl) ?_
        refine lv_aload_n hx hb dL_addsUp_78 rfl (lv_at hl 4 rfl) ?_
        refine lv_iload hx hb dL_addsUp_79 (lv_at hl 9 rfl) ?_
        refine lv_iconst (v := 4) hx hb dL_addsUp_81 (by decide) ?_
        obtain ⟨x53, hc54, hf⟩ := ob1_e hf
        refine w_ci ⟨hx, hb, hml, hown, hts⟩ hP hK hS (k8_house l hX w hc54) hc_41 (w_recv hP hK (by decide) emb_bt rfl) rfl hl.1 rfl (Nat.le_of_ble_eq_true rfl) dL_addsUp_82 ⟨Nat.zero_le _, Nat.zero_le _⟩ (fun H locs hP hS => ?_)
        refine lv_iadd hx hb dL_addsUp_85 ?_
        refine lv_topi (fun x55 ex55 => ?_)
        replace hf := ltn_s ex55 hf
        refine lv_istore (lv' := [(7, .int x55), (6, .int x52), (3, .int x49), (4, .int x46), (2, .int x43), (0, .ref (xa X 306)), (1, .int x2), (5, .int x6), (8, .int x9), (9, .int x10)]) hx hb dL_addsUp_86 hl (by decide) rfl (fun ls hl => ?_)
        refine lv_iload hx hb dL_addsUp_88 (lv_at hl 8 rfl) ?_
        refine lv_aload_n hx hb dL_addsUp_90 rfl (lv_at hl 5 rfl) ?_
        refine lv_iload hx hb dL_addsUp_91 (lv_at hl 9 rfl) ?_
        refine lv_iconst (v := 5) hx hb dL_addsUp_93 (by decide) ?_
        obtain ⟨x56, hc57, hf⟩ := ob1_e hf
        refine w_ci ⟨hx, hb, hml, hown, hts⟩ hP hK hS (k8_house l hX w hc57) hc_41 (w_recv hP hK (by decide) emb_bt rfl) rfl hl.1 rfl (Nat.le_of_ble_eq_true rfl) dL_addsUp_94 ⟨Nat.zero_le _, Nat.zero_le _⟩ (fun H locs hP hS => ?_)
        refine lv_iadd hx hb dL_addsUp_97 ?_
        refine lv_topi (fun x58 ex58 => ?_)
        replace hf := ltn_s ex58 hf
        refine lv_istore (lv' := [(8, .int x58), (7, .int x55), (6, .int x52), (3, .int x49), (4, .int x46), (2, .int x43), (0, .ref (xa X 306)), (1, .int x2), (5, .int x6), (9, .int x10)]) hx hb dL_addsUp_98 hl (by decide) rfl (fun ls hl => ?_)
        refine lv_iload hx hb dL_addsUp_100 (lv_at hl 8 rfl) ?_
        refine lv_aload_n hx hb dL_addsUp_102 rfl (lv_at hl 6 rfl) ?_
        refine lv_iload hx hb dL_addsUp_103 (lv_at hl 9 rfl) ?_
        obtain ⟨x59, hc60, hf⟩ := ob1_e hf
        refine w_ci ⟨hx, hb, hml, hown, hts⟩ hP hK hS (k8_owes l hX w hc60) hc_56 (w_recv hP hK (by decide) emb_bt rfl) rfl hl.1 rfl (Nat.le_of_ble_eq_true rfl) dL_addsUp_105 ⟨Nat.zero_le _, Nat.zero_le _⟩ (fun H locs hP hS => ?_)
        refine lv_iadd hx hb dL_addsUp_108 ?_
        refine lv_topi (fun x61 ex61 => ?_)
        replace hf := ltn_s ex61 hf
        refine lv_istore (lv' := [(5, .int x61), (8, .int x58), (7, .int x55), (6, .int x52), (3, .int x49), (4, .int x46), (2, .int x43), (0, .ref (xa X 306)), (1, .int x2), (9, .int x10)]) hx hb dL_addsUp_109 hl (by decide) rfl (fun ls hl => ?_)
        refine lv_aload_n hx hb dL_addsUp_111 rfl (lv_at hl 7 rfl) ?_
        refine lv_iload hx hb dL_addsUp_112 (lv_at hl 9 rfl) ?_
        refine lv_bipush (v := 6) hx hb dL_addsUp_114 (by decide) ?_
        obtain ⟨x62, hc63, hf⟩ := ob1_e hf
        refine w_ci ⟨hx, hb, hml, hown, hts⟩ hP hK hS (k8_house l hX w hc63) hc_41 (w_recv hP hK (by decide) emb_bt rfl) rfl hl.1 rfl (Nat.le_of_ble_eq_true rfl) dL_addsUp_116 ⟨Nat.zero_le _, Nat.zero_le _⟩ (fun H locs hP hS => ?_)
        refine lv_aload_n hx hb dL_addsUp_119 rfl (lv_at hl 7 rfl) ?_
        refine lv_iload hx hb dL_addsUp_120 (lv_at hl 9 rfl) ?_
        refine lv_iconst (v := 5) hx hb dL_addsUp_122 (by decide) ?_
        obtain ⟨x64, hc65, hf⟩ := ob1_e hf
        refine w_ci ⟨hx, hb, hml, hown, hts⟩ hP hK hS (k8_house l hX w hc65) hc_41 (w_recv hP hK (by decide) emb_bt rfl) rfl hl.1 rfl (Nat.le_of_ble_eq_true rfl) dL_addsUp_123 ⟨Nat.zero_le _, Nat.zero_le _⟩ (fun H locs hP hS => ?_)
        refine lv_icmp_gt (tgt := 162) hx hb dL_addsUp_126 (by decide) (fun h66 => ?_) (fun h66 => ?_)
        · rw [if_pos h66] at hf
          refine lv_iconst (v := 0) hx hb dL_addsUp_162 (by decide) ?_
          have hf := Option.some.inj hf
          obtain rfl := hf
          rw [hQ]
          exact w_zret hx hb hr hlocks hP hK hS dL_addsUp_163 (by decide) rfl rfl
        · rw [if_neg h66] at hf
          refine lv_aload_n hx hb dL_addsUp_129 rfl (lv_at hl 7 rfl) ?_
          refine lv_iload hx hb dL_addsUp_130 (lv_at hl 9 rfl) ?_
          obtain ⟨x67, hc68, hf⟩ := ob1_e hf
          refine w_ci ⟨hx, hb, hml, hown, hts⟩ hP hK hS (k8_owes l hX w hc68) hc_56 (w_recv hP hK (by decide) emb_bt rfl) rfl hl.1 rfl (Nat.le_of_ble_eq_true rfl) dL_addsUp_132 ⟨Nat.zero_le _, Nat.zero_le _⟩ (fun H locs hP hS => ?_)
          refine lv_if_le (tgt := 164) hx hb dL_addsUp_135 (by decide) (fun h69 => ?_) (fun h69 => ?_)
          · rw [if_pos h69] at hf
            obtain ⟨x70, ex70⟩ : ∃ y : Int32, y = x10 + 1 := ⟨_, rfl⟩
            replace hf := ltn_s ex70 hf
            refine lv_iinc (v := x70) (lv' := [(9, .int x70), (5, .int x61), (8, .int x58), (7, .int x55), (6, .int x52), (3, .int x49), (4, .int x46), (2, .int x43), (0, .ref (xa X 306)), (1, .int x2)]) hx hb dL_addsUp_164 hl (k := 9) rfl (by rw [ex70]; rfl) (by decide) rfl (fun ls hl => ?_)
            refine lv_goto (tgt := 22) hx hb dL_addsUp_167 (by decide) ?_
            exact ih x2 x43 x49 x46 x61 x52 x55 x58 x70  _ _ _ hf hP hS (lv_sub hl [8, 9, 7, 5, 6, 1, 4, 3, 2, 0] rfl)
          · rw [if_neg h69] at hf
            refine lv_aload_n hx hb dL_addsUp_138 rfl (lv_at hl 7 rfl) ?_
            refine lv_iload hx hb dL_addsUp_139 (lv_at hl 9 rfl) ?_
            refine lv_iconst (v := 1) hx hb dL_addsUp_141 (by decide) ?_
            obtain ⟨x71, hc72, hf⟩ := ob1_e hf
            refine w_ci ⟨hx, hb, hml, hown, hts⟩ hP hK hS (k8_house l hX w hc72) hc_41 (w_recv hP hK (by decide) emb_bt rfl) rfl hl.1 rfl (Nat.le_of_ble_eq_true rfl) dL_addsUp_142 ⟨Nat.zero_le _, Nat.zero_le _⟩ (fun H locs hP hS => ?_)
            refine lv_if_ne (tgt := 164) hx hb dL_addsUp_145 (by decide) (fun h73 => ?_) (fun h73 => ?_)
            · rw [if_neg h73] at hf
              obtain ⟨x74, ex74⟩ : ∃ y : Int32, y = x10 + 1 := ⟨_, rfl⟩
              replace hf := ltn_s ex74 hf
              refine lv_iinc (v := x74) (lv' := [(9, .int x74), (5, .int x61), (8, .int x58), (7, .int x55), (6, .int x52), (3, .int x49), (4, .int x46), (2, .int x43), (0, .ref (xa X 306)), (1, .int x2)]) hx hb dL_addsUp_164 hl (k := 9) rfl (by rw [ex74]; rfl) (by decide) rfl (fun ls hl => ?_)
              refine lv_goto (tgt := 22) hx hb dL_addsUp_167 (by decide) ?_
              exact ih x2 x43 x49 x46 x61 x52 x55 x58 x74  _ _ _ hf hP hS (lv_sub hl [8, 9, 7, 5, 6, 1, 4, 3, 2, 0] rfl)
            · rw [if_pos h73] at hf
              refine lv_aload_n hx hb dL_addsUp_148 rfl (lv_at hl 7 rfl) ?_
              refine lv_bipush (v := 7) hx hb dL_addsUp_149 (by decide) ?_
              obtain ⟨x75, hc76, hf⟩ := ob1_e hf
              refine w_ci ⟨hx, hb, hml, hown, hts⟩ hP hK hS (k8_whole l hX w hc76) hc_8 (w_recv hP hK (by decide) emb_bt rfl) rfl hl.1 rfl (Nat.le_of_ble_eq_true rfl) dL_addsUp_151 ⟨Nat.zero_le _, Nat.zero_le _⟩ (fun H locs hP hS => ?_)
              refine lv_aload_n hx hb dL_addsUp_154 rfl (lv_at hl 7 rfl) ?_
              refine lv_iconst (v := 1) hx hb dL_addsUp_155 (by decide) ?_
              obtain ⟨x77, hc78, hf⟩ := ob1_e hf
              refine w_ci ⟨hx, hb, hml, hown, hts⟩ hP hK hS (k8_whole l hX w hc78) hc_8 (w_recv hP hK (by decide) emb_bt rfl) rfl hl.1 rfl (Nat.le_of_ble_eq_true rfl) dL_addsUp_156 ⟨Nat.zero_le _, Nat.zero_le _⟩ (fun H locs hP hS => ?_)
              refine lv_icmp_ge (tgt := 164) hx hb dL_addsUp_159 (by decide) (fun h79 => ?_) (fun h79 => ?_)
              · rw [if_pos h79] at hf
                obtain ⟨x80, ex80⟩ : ∃ y : Int32, y = x10 + 1 := ⟨_, rfl⟩
                replace hf := ltn_s ex80 hf
                refine lv_iinc (v := x80) (lv' := [(9, .int x80), (5, .int x61), (8, .int x58), (7, .int x55), (6, .int x52), (3, .int x49), (4, .int x46), (2, .int x43), (0, .ref (xa X 306)), (1, .int x2)]) hx hb dL_addsUp_164 hl (k := 9) rfl (by rw [ex80]; rfl) (by decide) rfl (fun ls hl => ?_)
                refine lv_goto (tgt := 22) hx hb dL_addsUp_167 (by decide) ?_
                exact ih x2 x43 x49 x46 x61 x52 x55 x58 x80  _ _ _ hf hP hS (lv_sub hl [8, 9, 7, 5, 6, 1, 4, 3, 2, 0] rfl)
              · rw [if_neg h79] at hf
                refine lv_iconst (v := 0) hx hb dL_addsUp_162 (by decide) ?_
                have hf := Option.some.inj hf
                obtain rfl := hf
                rw [hQ]
                exact w_zret hx hb hr hlocks hP hK hS dL_addsUp_163 (by decide) rfl rfl
  exact L22 N a1 0 0 0 0 0 0 0 0  _ _ _ hf hP hS (lv_sub hl [8, 9, 7, 6, 5, 4, 3, 2, 1, 0] rfl)
