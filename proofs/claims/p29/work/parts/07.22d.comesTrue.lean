abbrev rmL_comesTrue : Room := { frames := 7, cells := 0, slots := 0, locals := 166 }
set_option maxHeartbeats 4000000 in
set_option maxRecDepth 100000 in
theorem kL_comesTrue (l : Launch) {X : bkX} {b0 : Nat} (hX : XO X b0) (w : bkW) {N : Nat} {f0 : bkA} {g0 : bkA} {c0 : bkA} {y0 : Nat → bkA} {o0 : Nat → Int32} {a1 : Int32} {res9 : Int32} {f9 : bkA} {g9 : bkA} {y9 : Nat → bkA} {o9 : Nat → Int32} (hf : mL_comesTrue N f0 g0 c0 y0 o0 a1 = some (res9, f9, g9, y9, o9)) : cI l yL_comesTrue wsL_comesTrue rmL_comesTrue X b0 [.ref (xa X 306), .int a1] (pbt w f0 g0 c0 y0 o0) res9 (pbt w f9 g9 c0 y9 o9) := by
  refine Met.ofW (cc := cL_comesTrue) (maxL := 11) (ret := (some .boolean)) (by decide) rfl ?_
  intro p e s m args below meth c s₁ B hml hv
  obtain ⟨ha, hP, hK⟩ := hv
  have hx := B.exec
  have hb := B.bytes
  have hr := B.returns
  have hts := atoms_spec (ws := wsL_comesTrue) B.pre
  have hown : s.vm.findClass RL = some m.cls := findClass_of_methodNamed B.named
  have hlocks := B.notSynchronized
  obtain ⟨R, hR⟩ : ∃ R, R = (headSpec wsL_comesTrue rmL_comesTrue).room := ⟨_, rfl⟩
  rw [← hR]
  have hR1 : R.frames = 7 := by rw [hR]; rfl
  have hR2 : R.locals = 166 := by rw [hR]; rfl
  obtain ⟨Q, hQ⟩ : ∃ Q : State → Prop, Q = MQ below (va_Qi (fun r' (_ : Unit) => r' = res9) (fun _ t => WU X (pbt w f9 g9 c0 y9 o9) t) (xF b0)) args s 0 0 (xF b0) := ⟨_, rfl⟩
  rw [← hQ]
  have hS : va_S (xF b0) s.heap s.heap [] := va_S.rf
  have hl := lv_entry ([.ref (xa X 306), .int a1]) (n := 11) (Nat.le_of_ble_eq_true rfl)
  refine W.eq ((congrArg (fun z => entryFrame m z 11) ha).trans (lg_entry_eq m _ 11)) ?_
  generalize (lg_sl ([.ref (xa X 306), .int a1]) ++ List.replicate (11 - (lg_sl ([.ref (xa X 306), .int a1])).length) Slot.unset).toArray = ls at hl ⊢
  have hl : lv_has ls 11 [(0, .ref (xa X 306)), (1, .int a1)] := hl
  have hc_71 := (cwV 1 hts gL_comesTrue_X8_heatIn rfl rfl rfl (by decide +kernel) ⟨by rw [hR1]; exact Nat.le_of_ble_eq_true rfl, by rw [hR2]; exact Nat.le_of_ble_eq_true rfl⟩ : CallW R s args RL RX8 71 yX8_heatIn cX8_heatIn 2 (some .int) wsX8_heatIn rmX8_heatIn 0 0 1)
  have hc_74 := (cwV 1 hts gL_comesTrue_X8_spoiledIn rfl rfl rfl (by decide +kernel) ⟨by rw [hR1]; exact Nat.le_of_ble_eq_true rfl, by rw [hR2]; exact Nat.le_of_ble_eq_true rfl⟩ : CallW R s args RL RX8 74 yX8_spoiledIn cX8_spoiledIn 2 (some .int) wsX8_spoiledIn rmX8_spoiledIn 0 0 1)
  have hc_8 := (cwV 1 hts gL_comesTrue_X8_whole rfl rfl rfl (by decide +kernel) ⟨by rw [hR1]; exact Nat.le_of_ble_eq_true rfl, by rw [hR2]; exact Nat.le_of_ble_eq_true rfl⟩ : CallW R s args RL RX8 8 yX8_whole cX8_whole 2 (some .int) wsX8_whole rmX8_whole 0 0 1)
  have hc_53 := (cwV 1 hts gL_comesTrue_X8_pass rfl rfl rfl (by decide +kernel) ⟨by rw [hR1]; exact Nat.le_of_ble_eq_true rfl, by rw [hR2]; exact Nat.le_of_ble_eq_true rfl⟩ : CallW R s args RL RX8 53 yX8_pass cX8_pass 2 (some .int) wsX8_pass rmX8_pass 0 0 1)
  have hc_59 := (cwV 2 hts gL_comesTrue_X8_dough rfl rfl rfl (by decide +kernel) ⟨by rw [hR1]; exact Nat.le_of_ble_eq_true rfl, by rw [hR2]; exact Nat.le_of_ble_eq_true rfl⟩ : CallW R s args RL RX8 59 yX8_dough cX8_dough 3 (some .int) wsX8_dough rmX8_dough 0 0 2)
  have hc_77 := (cwV 1 hts gL_comesTrue_X8_loadedIn rfl rfl rfl (by decide +kernel) ⟨by rw [hR1]; exact Nat.le_of_ble_eq_true rfl, by rw [hR2]; exact Nat.le_of_ble_eq_true rfl⟩ : CallW R s args RL RX8 77 yX8_loadedIn cX8_loadedIn 3 (some .int) wsX8_loadedIn rmX8_loadedIn 0 0 1)
  have hc_80 := (cwV 1 hts gL_comesTrue_X8_neededLogs rfl rfl rfl (by decide +kernel) ⟨by rw [hR1]; exact Nat.le_of_ble_eq_true rfl, by rw [hR2]; exact Nat.le_of_ble_eq_true rfl⟩ : CallW R s args RL RX8 80 yX8_neededLogs cX8_neededLogs 2 (some .int) wsX8_neededLogs rmX8_neededLogs 0 0 1)
  have hc_65 := (cwV 1 hts gL_comesTrue_X8_reason rfl rfl rfl (by decide +kernel) ⟨by rw [hR1]; exact Nat.le_of_ble_eq_true rfl, by rw [hR2]; exact Nat.le_of_ble_eq_true rfl⟩ : CallW R s args RL RX8 65 yX8_reason cX8_reason 2 (some .int) wsX8_reason rmX8_reason 0 0 1)
  unfold mL_comesTrue at hf
  refine lv_aload_n hx hb dL_comesTrue_0 rfl (lv_at hl 0 rfl) ?_
  refine lv_iload_n hx hb dL_comesTrue_1 rfl (lv_at hl 1 rfl) ?_
  obtain ⟨x1, g2, hc3, hf⟩ := ob2_e hf
  refine w_ci ⟨hx, hb, hml, hown, hts⟩ hP hK hS (k8_heatIn l hX w hc3) hc_71 (w_recv hP hK (by decide) emb_bt rfl) rfl hl.1 rfl (Nat.le_of_ble_eq_true rfl) dL_comesTrue_2 ⟨Nat.zero_le _, Nat.zero_le _⟩ (fun H locs hP hS => ?_)
  refine lv_istore_n (lv' := [(2, .int x1), (0, .ref (xa X 306)), (1, .int a1)]) hx hb dL_comesTrue_5 rfl hl (by decide) rfl (fun ls hl => ?_)
  refine lv_aload_n hx hb dL_comesTrue_6 rfl (lv_at hl 1 rfl) ?_
  refine lv_iload_n hx hb dL_comesTrue_7 rfl (lv_at hl 2 rfl) ?_
  obtain ⟨x4, g5, hc6, hf⟩ := ob2_e hf
  refine w_ci ⟨hx, hb, hml, hown, hts⟩ hP hK hS (k8_spoiledIn l hX w hc6) hc_74 (w_recv hP hK (by decide) emb_bt rfl) rfl hl.1 rfl (Nat.le_of_ble_eq_true rfl) dL_comesTrue_8 ⟨Nat.zero_le _, Nat.zero_le _⟩ (fun H locs hP hS => ?_)
  refine lv_istore_n (lv' := [(3, .int x4), (2, .int x1), (0, .ref (xa X 306)), (1, .int a1)]) hx hb dL_comesTrue_11 rfl hl (by decide) rfl (fun ls hl => ?_)
  refine lv_aload_n hx hb dL_comesTrue_12 rfl (lv_at hl 2 rfl) ?_
  refine lv_iload_n hx hb dL_comesTrue_13 rfl (lv_at hl 3 rfl) ?_
  refine lv_iconst (v := 1) hx hb dL_comesTrue_14 (by decide) ?_
  refine lv_isub hx hb dL_comesTrue_15 ?_
  obtain ⟨x7, g8, hc9, hf⟩ := ob2_e hf
  refine w_ci ⟨hx, hb, hml, hown, hts⟩ hP hK hS (k8_spoiledIn l hX w hc9) hc_74 (w_recv hP hK (by decide) emb_bt rfl) rfl hl.1 rfl (Nat.le_of_ble_eq_true rfl) dL_comesTrue_16 ⟨Nat.zero_le _, Nat.zero_le _⟩ (fun H locs hP hS => ?_)
  refine lv_istore (lv' := [(4, .int x7), (3, .int x4), (2, .int x1), (0, .ref (xa X 306)), (1, .int a1)]) hx hb dL_comesTrue_19 hl (by decide) rfl (fun ls hl => ?_)
  refine lv_iconst (v := 0) hx hb dL_comesTrue_21 (by decide) ?_
  refine lv_istore (lv' := [(5, .int 0), (4, .int x7), (3, .int x4), (2, .int x1), (0, .ref (xa X 306)), (1, .int a1)]) hx hb dL_comesTrue_22 hl (by decide) rfl (fun ls hl => ?_)
  refine lv_iconst (v := 0) hx hb dL_comesTrue_24 (by decide) ?_
  refine lv_istore (lv' := [(6, .int 0), (5, .int 0), (4, .int x7), (3, .int x4), (2, .int x1), (0, .ref (xa X 306)), (1, .int a1)]) hx hb dL_comesTrue_25 hl (by decide) rfl (fun ls hl => ?_)
  refine lv_iconst (v := 0) hx hb dL_comesTrue_27 (by decide) ?_
  refine lv_istore (lv' := [(7, .int 0), (6, .int 0), (5, .int 0), (4, .int x7), (3, .int x4), (2, .int x1), (0, .ref (xa X 306)), (1, .int a1)]) hx hb dL_comesTrue_28 hl (by decide) rfl (fun ls hl => ?_)
  have L30 : ∀ (n : Nat) (x11 : Int32) (x12 : Int32) (x13 : Int32) (x14 : Int32) (x15 : Int32) (x16 : Int32) (x17 : Int32) (g18 : bkA) (H : Heap) (locs : List Loc) (ls : Array Slot), mL_comesTrue_L30 N n x11 x12 x13 x14 x15 x16 x17 f0 g18 c0 y0 o0 = some (res9, f9, g9, y9, o9) → HW X (pbt w f0 g18 c0 y0 o0) H → va_S (xF b0) s.heap H locs → lv_has ls 11 [(0, .ref (xa X 306)), (1, .int x11), (2, .int x12), (3, .int x13), (4, .int x14), (5, .int x15), (6, .int x16), (7, .int x17)] → W p l e R s m args below meth c H locs 0 0 Q (F0 m 30 ls []) := by
    intro n; induction n with
    | zero => intro x11 x12 x13 x14 x15 x16 x17 g18 H locs ls hf; rw [mL_comesTrue_L30] at hf; cases hf
    | succ n ih =>
      intro x11 x12 x13 x14 x15 x16 x17 g18 H locs ls hf hP hS hl
      rw [mL_comesTrue_L30] at hf
      refine lv_iload hx hb dL_comesTrue_30 (lv_at hl 7 rfl) ?_
      refine lv_aload_n hx hb dL_comesTrue_32 rfl (lv_at hl 0 rfl) ?_
      refine lv_iconst (v := 2) hx hb dL_comesTrue_33 (by decide) ?_
      obtain ⟨x19, hc20, hf⟩ := ob1_e hf
      refine w_ci ⟨hx, hb, hml, hown, hts⟩ hP hK hS (k8_whole l hX w hc20) hc_8 (w_recv hP hK (by decide) emb_bt rfl) rfl hl.1 rfl (Nat.le_of_ble_eq_true rfl) dL_comesTrue_34 ⟨Nat.zero_le _, Nat.zero_le _⟩ (fun H locs hP hS => ?_)
      refine lv_icmp_ge (tgt := 162) hx hb dL_comesTrue_37 (by decide) (fun h21 => ?_) (fun h21 => ?_)
      · rw [if_pos h21] at hf
        refine lv_iload hx hb dL_comesTrue_162 (lv_at hl 4 rfl) ?_
        refine lv_iload_n hx hb dL_comesTrue_164 rfl (lv_at hl 3 rfl) ?_
        refine lv_iconst (v := (-1)) hx hb dL_comesTrue_165 (by decide) ?_
        refine lv_ixor hx hb dL_comesTrue_166 ?_
        refine lv_iand hx hb dL_comesTrue_167 ?_
        refine lv_if_ne (tgt := 209) hx hb dL_comesTrue_168 (by decide) (fun h22 => ?_) (fun h22 => ?_)
        · rw [if_neg h22] at hf
          refine lv_iconst (v := 0) hx hb dL_comesTrue_209 (by decide) ?_
          have hf := Option.some.inj hf
          simp only [Prod.mk.injEq] at hf
          obtain ⟨rfl, rfl, rfl, rfl, rfl⟩ := hf
          rw [hQ]
          exact w_zret hx hb hr hlocks hP hK hS dL_comesTrue_210 (by decide) rfl rfl
        · rw [if_pos h22] at hf
          refine lv_iload_n hx hb dL_comesTrue_171 rfl (lv_at hl 3 rfl) ?_
          refine lv_iload hx hb dL_comesTrue_172 (lv_at hl 6 rfl) ?_
          refine lv_iand hx hb dL_comesTrue_174 ?_
          refine lv_if_ne (tgt := 209) hx hb dL_comesTrue_175 (by decide) (fun h23 => ?_) (fun h23 => ?_)
          · rw [if_neg h23] at hf
            refine lv_iconst (v := 0) hx hb dL_comesTrue_209 (by decide) ?_
            have hf := Option.some.inj hf
            simp only [Prod.mk.injEq] at hf
            obtain ⟨rfl, rfl, rfl, rfl, rfl⟩ := hf
            rw [hQ]
            exact w_zret hx hb hr hlocks hP hK hS dL_comesTrue_210 (by decide) rfl rfl
          · rw [if_pos h23] at hf
            refine lv_iload_n hx hb dL_comesTrue_178 rfl (lv_at hl 3 rfl) ?_
            refine lv_iload hx hb dL_comesTrue_179 (lv_at hl 5 rfl) ?_
            refine lv_iand hx hb dL_comesTrue_181 ?_
            refine lv_if_ne (tgt := 209) hx hb dL_comesTrue_182 (by decide) (fun h24 => ?_) (fun h24 => ?_)
            · rw [if_neg h24] at hf
              refine lv_iconst (v := 0) hx hb dL_comesTrue_209 (by decide) ?_
              have hf := Option.some.inj hf
              simp only [Prod.mk.injEq] at hf
              obtain ⟨rfl, rfl, rfl, rfl, rfl⟩ := hf
              rw [hQ]
              exact w_zret hx hb hr hlocks hP hK hS dL_comesTrue_210 (by decide) rfl rfl
            · rw [if_pos h24] at hf
              refine lv_aload_n hx hb dL_comesTrue_185 rfl (lv_at hl 0 rfl) ?_
              refine lv_iconst (v := 0) hx hb dL_comesTrue_186 (by decide) ?_
              obtain ⟨x25, g26, hc27, hf⟩ := ob2_e hf
              refine w_ci ⟨hx, hb, hml, hown, hts⟩ hP hK hS (k8_heatIn l hX w hc27) hc_71 (w_recv hP hK (by decide) emb_bt rfl) rfl hl.1 rfl (Nat.le_of_ble_eq_true rfl) dL_comesTrue_187 ⟨Nat.zero_le _, Nat.zero_le _⟩ (fun H locs hP hS => ?_)
              refine lv_aload_n hx hb dL_comesTrue_190 rfl (lv_at hl 0 rfl) ?_
              refine lv_iconst (v := 3) hx hb dL_comesTrue_191 (by decide) ?_
              obtain ⟨x28, hc29, hf⟩ := ob1_e hf
              refine w_ci ⟨hx, hb, hml, hown, hts⟩ hP hK hS (k8_whole l hX w hc29) hc_8 (w_recv hP hK (by decide) emb_bt rfl) rfl hl.1 rfl (Nat.le_of_ble_eq_true rfl) dL_comesTrue_192 ⟨Nat.zero_le _, Nat.zero_le _⟩ (fun H locs hP hS => ?_)
              refine lv_icmp_ne (tgt := 209) hx hb dL_comesTrue_195 (by decide) (fun h30 => ?_) (fun h30 => ?_)
              · rw [if_neg h30] at hf
                refine lv_iconst (v := 0) hx hb dL_comesTrue_209 (by decide) ?_
                have hf := Option.some.inj hf
                simp only [Prod.mk.injEq] at hf
                obtain ⟨rfl, rfl, rfl, rfl, rfl⟩ := hf
                rw [hQ]
                exact w_zret hx hb hr hlocks hP hK hS dL_comesTrue_210 (by decide) rfl rfl
              · rw [if_pos h30] at hf
                refine lv_aload_n hx hb dL_comesTrue_198 rfl (lv_at hl 0 rfl) ?_
                refine lv_iload_n hx hb dL_comesTrue_199 rfl (lv_at hl 1 rfl) ?_
                refine lv_iconst (v := 1) hx hb dL_comesTrue_200 (by decide) ?_
                refine lv_isub hx hb dL_comesTrue_201 ?_
                obtain ⟨x31, g32, hc33, hf⟩ := ob2_e hf
                refine w_ci ⟨hx, hb, hml, hown, hts⟩ hP hK hS (k8_heatIn l hX w hc33) hc_71 (w_recv hP hK (by decide) emb_bt rfl) rfl hl.1 rfl (Nat.le_of_ble_eq_true rfl) dL_comesTrue_202 ⟨Nat.zero_le _, Nat.zero_le _⟩ (fun H locs hP hS => ?_)
                refine lv_iload_n hx hb dL_comesTrue_205 rfl (lv_at hl 2 rfl) ?_
                refine lv_icmp_ge (tgt := 211) hx hb dL_comesTrue_206 (by decide) (fun h34 => ?_) (fun h34 => ?_)
                · rw [if_pos h34] at hf
                  refine lv_aload_n hx hb dL_comesTrue_211 rfl (lv_at hl 0 rfl) ?_
                  refine lv_iload_n hx hb dL_comesTrue_212 rfl (lv_at hl 1 rfl) ?_
                  obtain ⟨x35, f36, y37, o38, hc39, hf⟩ := ob4_e hf
                  refine w_ci ⟨hx, hb, hml, hown, hts⟩ hP hK hS (k8_pass l hX w hc39) hc_53 (w_recv hP hK (by decide) emb_bt rfl) rfl hl.1 rfl (Nat.le_of_ble_eq_true rfl) dL_comesTrue_213 ⟨Nat.zero_le _, Nat.zero_le _⟩ (fun H locs hP hS => ?_)
                  refine lv_pop hx hb dL_comesTrue_216 rfl ?_
                  refine lv_iconst (v := 0) hx hb dL_comesTrue_217 (by decide) ?_
                  refine lv_istore (lv' := [(7, .int 0), (0, .ref (xa X 306)), (1, .int x11), (2, .int x12), (3, .int x13), (4, .int x14), (5, .int x15), (6, .int x16)]) hx hb dL_comesTrue_218 hl (by decide) rfl (fun ls hl => ?_)
                  have L220 : ∀ (n : Nat) (x41 : Int32) (x42 : Int32) (x43 : Int32) (x44 : Int32) (x45 : Int32)  (H : Heap) (locs : List Loc) (ls : Array Slot), mL_comesTrue_L220 N n x41 x42 x43 x44 x45 f36 g32 c0 y37 o38 = some (res9, f9, g9, y9, o9) → HW X (pbt w f36 g32 c0 y37 o38) H → va_S (xF b0) s.heap H locs → lv_has ls 11 [(0, .ref (xa X 306)), (2, .int x41), (3, .int x42), (5, .int x43), (6, .int x44), (7, .int x45)] → W p l e R s m args below meth c H locs 0 0 Q (F0 m 220 ls []) := by
                    intro n; induction n with
                    | zero => intro x41 x42 x43 x44 x45 H locs ls hf; rw [mL_comesTrue_L220] at hf; cases hf
                    | succ n ih =>
                      intro x41 x42 x43 x44 x45 H locs ls hf hP hS hl
                      rw [mL_comesTrue_L220] at hf
                      refine lv_iload hx hb dL_comesTrue_220 (lv_at hl 5 rfl) ?_
                      refine lv_aload_n hx hb dL_comesTrue_222 rfl (lv_at hl 0 rfl) ?_
                      refine lv_iconst (v := 2) hx hb dL_comesTrue_223 (by decide) ?_
                      obtain ⟨x46, hc47, hf⟩ := ob1_e hf
                      refine w_ci ⟨hx, hb, hml, hown, hts⟩ hP hK hS (k8_whole l hX w hc47) hc_8 (w_recv hP hK (by decide) emb_bt rfl) rfl hl.1 rfl (Nat.le_of_ble_eq_true rfl) dL_comesTrue_224 ⟨Nat.zero_le _, Nat.zero_le _⟩ (fun H locs hP hS => ?_)
                      refine lv_icmp_ge (tgt := 330) hx hb dL_comesTrue_227 (by decide) (fun h48 => ?_) (fun h48 => ?_)
                      · rw [if_pos h48] at hf
                        refine lv_aload_n hx hb dL_comesTrue_330 rfl (lv_at hl 0 rfl) ?_
                        refine lv_iconst (v := 3) hx hb dL_comesTrue_331 (by decide) ?_
                        obtain ⟨x49, hc50, hf⟩ := ob1_e hf
                        refine w_ci ⟨hx, hb, hml, hown, hts⟩ hP hK hS (k8_whole l hX w hc50) hc_8 (w_recv hP hK (by decide) emb_bt rfl) rfl hl.1 rfl (Nat.le_of_ble_eq_true rfl) dL_comesTrue_332 ⟨Nat.zero_le _, Nat.zero_le _⟩ (fun H locs hP hS => ?_)
                        refine lv_iload_n hx hb dL_comesTrue_335 rfl (lv_at hl 1 rfl) ?_
                        refine lv_icmp_ne (tgt := 343) hx hb dL_comesTrue_336 (by decide) (fun h51 => ?_) (fun h51 => ?_)
                        · rw [if_neg h51] at hf
                          refine lv_iconst (v := 0) hx hb dL_comesTrue_343 (by decide) ?_
                          have hf := Option.some.inj hf
                          simp only [Prod.mk.injEq] at hf
                          obtain ⟨rfl, rfl, rfl, rfl, rfl⟩ := hf
                          rw [hQ]
                          exact w_zret hx hb hr hlocks hP hK hS dL_comesTrue_344 (by decide) rfl rfl
                        · rw [if_pos h51] at hf
                          refine lv_iconst (v := 1) hx hb dL_comesTrue_339 (by decide) ?_
                          refine lv_goto (tgt := 344) hx hb dL_comesTrue_340 (by decide) ?_
                          have hf := Option.some.inj hf
                          simp only [Prod.mk.injEq] at hf
                          obtain ⟨rfl, rfl, rfl, rfl, rfl⟩ := hf
                          rw [hQ]
                          exact w_zret hx hb hr hlocks hP hK hS dL_comesTrue_344 (by decide) rfl rfl
                      · rw [if_neg h48] at hf
                        refine lv_iload_n hx hb dL_comesTrue_230 rfl (lv_at hl 2 rfl) ?_
                        refine lv_iload hx hb dL_comesTrue_231 (lv_at hl 5 rfl) ?_
                        refine lv_ishr hx hb dL_comesTrue_233 ?_
                        refine lv_iconst (v := 1) hx hb dL_comesTrue_234 (by decide) ?_
                        refine lv_iand hx hb dL_comesTrue_235 ?_
                        refine lv_iconst (v := 1) hx hb dL_comesTrue_236 (by decide) ?_
                        obtain ⟨x53, ejK54, hf⟩ := lt1_e hf
                        have K54 : ∀ (H : Heap) (locs : List Loc) (ls : Array Slot), HW X (pbt w f36 g32 c0 y37 o38) H → va_S (xF b0) s.heap H locs → lv_has ls 11 [(0, .ref (xa X 306)), (2, .int x41), (3, .int x42), (5, .int x43), (6, .int x44), (7, .int x45)] → W p l e R s m args below meth c H locs 0 0 Q (F0 m 245 ls [.int x53]) := by
                          intro H locs ls hP hS hl
                          refine lv_istore (lv' := [(8, .int x53), (0, .ref (xa X 306)), (2, .int x41), (3, .int x42), (5, .int x43), (6, .int x44), (7, .int x45)]) hx hb dL_comesTrue_245 hl (by decide) rfl (fun ls hl => ?_)
                          refine lv_iload hx hb dL_comesTrue_247 (lv_at hl 4 rfl) ?_
                          refine lv_iload hx hb dL_comesTrue_249 (lv_at hl 6 rfl) ?_
                          refine lv_ishr hx hb dL_comesTrue_251 ?_
                          refine lv_iconst (v := 1) hx hb dL_comesTrue_252 (by decide) ?_
                          refine lv_iand hx hb dL_comesTrue_253 ?_
                          refine lv_iconst (v := 1) hx hb dL_comesTrue_254 (by decide) ?_
                          obtain ⟨x56, ejK57, hf⟩ := lt1_e hf
                          have K57 : ∀ (H : Heap) (locs : List Loc) (ls : Array Slot), HW X (pbt w f36 g32 c0 y37 o38) H → va_S (xF b0) s.heap H locs → lv_has ls 11 [(0, .ref (xa X 306)), (2, .int x41), (3, .int x42), (5, .int x43), (6, .int x44), (7, .int x45), (8, .int x53)] → W p l e R s m args below meth c H locs 0 0 Q (F0 m 263 ls [.int x56]) := by
                            intro H locs ls hP hS hl
                            refine lv_istore (lv' := [(9, .int x56), (0, .ref (xa X 306)), (2, .int x41), (3, .int x42), (5, .int x43), (6, .int x44), (7, .int x45), (8, .int x53)]) hx hb dL_comesTrue_263 hl (by decide) rfl (fun ls hl => ?_)
                            refine lv_aload_n hx hb dL_comesTrue_265 rfl (lv_at hl 1 rfl) ?_
                            refine lv_iload hx hb dL_comesTrue_266 (lv_at hl 6 rfl) ?_
                            refine lv_iconst (v := 4) hx hb dL_comesTrue_268 (by decide) ?_
                            obtain ⟨x58, hc59, hf⟩ := ob1_e hf
                            refine w_ci ⟨hx, hb, hml, hown, hts⟩ hP hK hS (k8_dough l hX w hc59) hc_59 (w_recv hP hK (by decide) emb_bt rfl) rfl hl.1 rfl (Nat.le_of_ble_eq_true rfl) dL_comesTrue_269 ⟨Nat.zero_le _, Nat.zero_le _⟩ (fun H locs hP hS => ?_)
                            refine lv_istore (lv' := [(10, .int x58), (9, .int x56), (0, .ref (xa X 306)), (2, .int x41), (3, .int x42), (5, .int x43), (6, .int x44), (7, .int x45), (8, .int x53)]) hx hb dL_comesTrue_272 hl (by decide) rfl (fun ls hl => ?_)
                            refine lv_iload hx hb dL_comesTrue_274 (lv_at hl 6 rfl) ?_
                            refine lv_iload hx hb dL_comesTrue_276 (lv_at hl 7 rfl) ?_
                            refine lv_ishr hx hb dL_comesTrue_278 ?_
                            refine lv_iconst (v := 1) hx hb dL_comesTrue_279 (by decide) ?_
                            refine lv_iand hx hb dL_comesTrue_280 ?_
                            refine lv_if_ne (tgt := 324) hx hb dL_comesTrue_281 (by decide) (fun h60 => ?_) (fun h60 => ?_)
                            · rw [if_neg h60] at hf
                              obtain ⟨x61, ex61⟩ : ∃ y : Int32, y = x45 + 1 := ⟨_, rfl⟩
                              replace hf := ltn_s ex61 hf
                              refine lv_iinc (v := x61) (lv' := [(7, .int x61), (10, .int x58), (9, .int x56), (0, .ref (xa X 306)), (2, .int x41), (3, .int x42), (5, .int x43), (6, .int x44), (8, .int x53)]) hx hb dL_comesTrue_324 hl (k := 7) rfl (by rw [ex61]; rfl) (by decide) rfl (fun ls hl => ?_)
                              refine lv_goto (tgt := 220) hx hb dL_comesTrue_327 (by decide) ?_
                              exact ih x41 x42 x43 x44 x61  _ _ _ hf hP hS (lv_sub hl [3, 4, 5, 6, 7, 0] rfl)
                            · rw [if_pos h60] at hf
                              refine lv_iload hx hb dL_comesTrue_284 (lv_at hl 8 rfl) ?_
                              refine lv_iload hx hb dL_comesTrue_286 (lv_at hl 0 rfl) ?_
                              refine lv_iconst (v := 3) hx hb dL_comesTrue_288 (by decide) ?_
                              obtain ⟨x63, ejK64, hf⟩ := lt1_e hf
                              have K64 : ∀ (H : Heap) (locs : List Loc) (ls : Array Slot), HW X (pbt w f36 g32 c0 y37 o38) H → va_S (xF b0) s.heap H locs → lv_has ls 11 [(0, .ref (xa X 306)), (2, .int x41), (3, .int x42), (5, .int x43), (6, .int x44), (7, .int x45), (9, .int x56), (10, .int x58)] → W p l e R s m args below meth c H locs 0 0 Q (F0 m 297 ls [.int x63, .int x53]) := by
                                intro H locs ls hP hS hl
                                refine lv_icmp_ne (tgt := 322) hx hb dL_comesTrue_297 (by decide) (fun h65 => ?_) (fun h65 => ?_)
                                · rw [if_neg h65] at hf
                                  refine lv_iconst (v := 0) hx hb dL_comesTrue_322 (by decide) ?_
                                  have hf := Option.some.inj hf
                                  simp only [Prod.mk.injEq] at hf
                                  obtain ⟨rfl, rfl, rfl, rfl, rfl⟩ := hf
                                  rw [hQ]
                                  exact w_zret hx hb hr hlocks hP hK hS dL_comesTrue_323 (by decide) rfl rfl
                                · rw [if_pos h65] at hf
                                  refine lv_iload hx hb dL_comesTrue_300 (lv_at hl 6 rfl) ?_
                                  refine lv_iload hx hb dL_comesTrue_302 (lv_at hl 7 rfl) ?_
                                  refine lv_iconst (v := 1) hx hb dL_comesTrue_304 (by decide) ?_
                                  obtain ⟨x68, ejK69, hf⟩ := lt1_e hf
                                  have K69 : ∀ (H : Heap) (locs : List Loc) (ls : Array Slot), HW X (pbt w f36 g32 c0 y37 o38) H → va_S (xF b0) s.heap H locs → lv_has ls 11 [(0, .ref (xa X 306)), (2, .int x41), (3, .int x42), (5, .int x43), (6, .int x44), (7, .int x45)] → W p l e R s m args below meth c H locs 0 0 Q (F0 m 319 ls [.int x68, .int x56]) := by
                                    intro H locs ls hP hS hl
                                    refine lv_icmp_eq (tgt := 324) hx hb dL_comesTrue_319 (by decide) (fun h71 => ?_) (fun h71 => ?_)
                                    · rw [if_pos h71] at hf
                                      obtain ⟨x72, ex72⟩ : ∃ y : Int32, y = x45 + 1 := ⟨_, rfl⟩
                                      replace hf := ltn_s ex72 hf
                                      refine lv_iinc (v := x72) (lv' := [(7, .int x72), (0, .ref (xa X 306)), (2, .int x41), (3, .int x42), (5, .int x43), (6, .int x44)]) hx hb dL_comesTrue_324 hl (k := 5) rfl (by rw [ex72]; rfl) (by decide) rfl (fun ls hl => ?_)
                                      refine lv_goto (tgt := 220) hx hb dL_comesTrue_327 (by decide) ?_
                                      exact ih x41 x42 x43 x44 x72  _ _ _ hf hP hS (lv_sub hl [1, 2, 3, 4, 5, 0] rfl)
                                    · rw [if_neg h71] at hf
                                      refine lv_iconst (v := 0) hx hb dL_comesTrue_322 (by decide) ?_
                                      have hf := Option.some.inj hf
                                      simp only [Prod.mk.injEq] at hf
                                      obtain ⟨rfl, rfl, rfl, rfl, rfl⟩ := hf
                                      rw [hQ]
                                      exact w_zret hx hb hr hlocks hP hK hS dL_comesTrue_323 (by decide) rfl rfl
                                  clear hf
                                  refine lv_icmp_eq (tgt := 314) hx hb dL_comesTrue_305 (by decide) (fun h66 => ?_) (fun h66 => ?_)
                                  · rw [if_pos h66] at ejK69
                                    refine lv_iconst (v := 1) hx hb dL_comesTrue_314 (by decide) ?_
                                    refine lv_goto (tgt := 319) hx hb dL_comesTrue_315 (by decide) ?_
                                    obtain rfl := ejK69
                                    exact K69 _ _ _ hP hS (lv_sub hl [0, 1, 2, 3, 4, 5] rfl)
                                  · rw [if_neg h66] at ejK69
                                    refine lv_iload hx hb dL_comesTrue_308 (lv_at hl 7 rfl) ?_
                                    refine lv_iconst (v := 2) hx hb dL_comesTrue_310 (by decide) ?_
                                    refine lv_icmp_ne (tgt := 318) hx hb dL_comesTrue_311 (by decide) (fun h70 => ?_) (fun h70 => ?_)
                                    · rw [if_neg h70] at ejK69
                                      refine lv_iconst (v := 0) hx hb dL_comesTrue_318 (by decide) ?_
                                      obtain rfl := ejK69
                                      exact K69 _ _ _ hP hS (lv_sub hl [0, 1, 2, 3, 4, 5] rfl)
                                    · rw [if_pos h70] at ejK69
                                      refine lv_iconst (v := 1) hx hb dL_comesTrue_314 (by decide) ?_
                                      refine lv_goto (tgt := 319) hx hb dL_comesTrue_315 (by decide) ?_
                                      obtain rfl := ejK69
                                      exact K69 _ _ _ hP hS (lv_sub hl [0, 1, 2, 3, 4, 5] rfl)
                              clear hf
                              refine lv_icmp_ne (tgt := 296) hx hb dL_comesTrue_289 (by decide) (fun h62 => ?_) (fun h62 => ?_)
                              · rw [if_neg h62] at ejK64
                                refine lv_iconst (v := 0) hx hb dL_comesTrue_296 (by decide) ?_
                                obtain rfl := ejK64
                                exact K64 _ _ _ hP hS (lv_sub hl [2, 3, 4, 5, 6, 7, 1, 0] rfl)
                              · rw [if_pos h62] at ejK64
                                refine lv_iconst (v := 1) hx hb dL_comesTrue_292 (by decide) ?_
                                refine lv_goto (tgt := 297) hx hb dL_comesTrue_293 (by decide) ?_
                                obtain rfl := ejK64
                                exact K64 _ _ _ hP hS (lv_sub hl [2, 3, 4, 5, 6, 7, 1, 0] rfl)
                          clear hf
                          refine lv_icmp_ne (tgt := 262) hx hb dL_comesTrue_255 (by decide) (fun h55 => ?_) (fun h55 => ?_)
                          · rw [if_neg h55] at ejK57
                            refine lv_iconst (v := 0) hx hb dL_comesTrue_262 (by decide) ?_
                            obtain rfl := ejK57
                            exact K57 _ _ _ hP hS (lv_sub hl [1, 2, 3, 4, 5, 6, 0] rfl)
                          · rw [if_pos h55] at ejK57
                            refine lv_iconst (v := 1) hx hb dL_comesTrue_258 (by decide) ?_
                            refine lv_goto (tgt := 263) hx hb dL_comesTrue_259 (by decide) ?_
                            obtain rfl := ejK57
                            exact K57 _ _ _ hP hS (lv_sub hl [1, 2, 3, 4, 5, 6, 0] rfl)
                        clear hf
                        refine lv_icmp_ne (tgt := 244) hx hb dL_comesTrue_237 (by decide) (fun h52 => ?_) (fun h52 => ?_)
                        · rw [if_neg h52] at ejK54
                          refine lv_iconst (v := 0) hx hb dL_comesTrue_244 (by decide) ?_
                          obtain rfl := ejK54
                          exact K54 _ _ _ hP hS (lv_sub hl [0, 1, 2, 3, 4, 5] rfl)
                        · rw [if_pos h52] at ejK54
                          refine lv_iconst (v := 1) hx hb dL_comesTrue_240 (by decide) ?_
                          refine lv_goto (tgt := 245) hx hb dL_comesTrue_241 (by decide) ?_
                          obtain rfl := ejK54
                          exact K54 _ _ _ hP hS (lv_sub hl [0, 1, 2, 3, 4, 5] rfl)
                  exact L220 N x12 x13 x15 x16 0  _ _ _ hf hP hS (lv_sub hl [1, 3, 4, 6, 7, 0] rfl)
                · rw [if_neg h34] at hf
                  refine lv_iconst (v := 0) hx hb dL_comesTrue_209 (by decide) ?_
                  have hf := Option.some.inj hf
                  simp only [Prod.mk.injEq] at hf
                  obtain ⟨rfl, rfl, rfl, rfl, rfl⟩ := hf
                  rw [hQ]
                  exact w_zret hx hb hr hlocks hP hK hS dL_comesTrue_210 (by decide) rfl rfl
      · rw [if_neg h21] at hf
        refine lv_aload_n hx hb dL_comesTrue_40 rfl (lv_at hl 0 rfl) ?_
        refine lv_iload hx hb dL_comesTrue_41 (lv_at hl 7 rfl) ?_
        obtain ⟨x73, g74, hc75, hf⟩ := ob2_e hf
        refine w_ci ⟨hx, hb, hml, hown, hts⟩ hP hK hS (k8_loadedIn l hX w hc75) hc_77 (w_recv hP hK (by decide) emb_bt rfl) rfl hl.1 rfl (Nat.le_of_ble_eq_true rfl) dL_comesTrue_43 ⟨Nat.zero_le _, Nat.zero_le _⟩ (fun H locs hP hS => ?_)
        refine lv_istore (lv' := [(8, .int x73), (0, .ref (xa X 306)), (1, .int x11), (2, .int x12), (3, .int x13), (4, .int x14), (5, .int x15), (6, .int x16), (7, .int x17)]) hx hb dL_comesTrue_46 hl (by decide) rfl (fun ls hl => ?_)
        refine lv_iload hx hb dL_comesTrue_48 (lv_at hl 6 rfl) ?_
        refine lv_iload hx hb dL_comesTrue_50 (lv_at hl 0 rfl) ?_
        obtain ⟨x78, ejK79, hf⟩ := lt1_e hf
        have K79 : ∀ (H : Heap) (locs : List Loc) (ls : Array Slot), HW X (pbt w f0 g74 c0 y0 o0) H → va_S (xF b0) s.heap H locs → lv_has ls 11 [(0, .ref (xa X 306)), (1, .int x11), (2, .int x12), (3, .int x13), (4, .int x14), (6, .int x16), (7, .int x17)] → W p l e R s m args below meth c H locs 0 0 Q (F0 m 69 ls [.int x78, .int x15]) := by
          intro H locs ls hP hS hl
          refine lv_ior hx hb dL_comesTrue_69 ?_
          refine lv_topi (fun x81 ex81 => ?_)
          replace hf := ltn_s ex81 hf
          refine lv_istore (lv' := [(5, .int x81), (0, .ref (xa X 306)), (1, .int x11), (2, .int x12), (3, .int x13), (4, .int x14), (6, .int x16), (7, .int x17)]) hx hb dL_comesTrue_70 hl (by decide) rfl (fun ls hl => ?_)
          refine lv_iload hx hb dL_comesTrue_72 (lv_at hl 6 rfl) ?_
          refine lv_aload_n hx hb dL_comesTrue_74 rfl (lv_at hl 1 rfl) ?_
          refine lv_iload hx hb dL_comesTrue_75 (lv_at hl 7 rfl) ?_
          refine lv_iconst (v := 4) hx hb dL_comesTrue_77 (by decide) ?_
          obtain ⟨x82, hc83, hf⟩ := ob1_e hf
          refine w_ci ⟨hx, hb, hml, hown, hts⟩ hP hK hS (k8_dough l hX w hc83) hc_59 (w_recv hP hK (by decide) emb_bt rfl) rfl hl.1 rfl (Nat.le_of_ble_eq_true rfl) dL_comesTrue_78 ⟨Nat.zero_le _, Nat.zero_le _⟩ (fun H locs hP hS => ?_)
          obtain ⟨x85, ejK86, hf⟩ := lt1_e hf
          have K86 : ∀ (H : Heap) (locs : List Loc) (ls : Array Slot), HW X (pbt w f0 g74 c0 y0 o0) H → va_S (xF b0) s.heap H locs → lv_has ls 11 [(0, .ref (xa X 306)), (1, .int x11), (2, .int x12), (3, .int x13), (4, .int x14), (5, .int x81), (7, .int x17)] → W p l e R s m args below meth c H locs 0 0 Q (F0 m 92 ls [.int x85, .int x16]) := by
            intro H locs ls hP hS hl
            refine lv_ior hx hb dL_comesTrue_92 ?_
            refine lv_topi (fun x87 ex87 => ?_)
            replace hf := ltn_s ex87 hf
            refine lv_istore (lv' := [(6, .int x87), (0, .ref (xa X 306)), (1, .int x11), (2, .int x12), (3, .int x13), (4, .int x14), (5, .int x81), (7, .int x17)]) hx hb dL_comesTrue_93 hl (by decide) rfl (fun ls hl => ?_)
            refine lv_aload_n hx hb dL_comesTrue_95 rfl (lv_at hl 1 rfl) ?_
            refine lv_iload hx hb dL_comesTrue_96 (lv_at hl 7 rfl) ?_
            obtain ⟨x88, hc89, hf⟩ := ob1_e hf
            refine w_ci ⟨hx, hb, hml, hown, hts⟩ hP hK hS (k8_neededLogs l hX w hc89) hc_80 (w_recv hP hK (by decide) emb_bt rfl) rfl hl.1 rfl (Nat.le_of_ble_eq_true rfl) dL_comesTrue_98 ⟨Nat.zero_le _, Nat.zero_le _⟩ (fun H locs hP hS => ?_)
            refine lv_istore (lv' := [(9, .int x88), (6, .int x87), (0, .ref (xa X 306)), (1, .int x11), (2, .int x12), (3, .int x13), (4, .int x14), (5, .int x81), (7, .int x17)]) hx hb dL_comesTrue_101 hl (by decide) rfl (fun ls hl => ?_)
            refine lv_iload hx hb dL_comesTrue_103 (lv_at hl 0 rfl) ?_
            refine lv_bipush (v := 16) hx hb dL_comesTrue_105 (by decide) ?_
            refine lv_icmp_gt (tgt := 154) hx hb dL_comesTrue_107 (by decide) (fun h90 => ?_) (fun h90 => ?_)
            · rw [if_pos h90] at hf
              refine lv_iconst (v := 0) hx hb dL_comesTrue_154 (by decide) ?_
              have hf := Option.some.inj hf
              simp only [Prod.mk.injEq] at hf
              obtain ⟨rfl, rfl, rfl, rfl, rfl⟩ := hf
              rw [hQ]
              exact w_zret hx hb hr hlocks hP hK hS dL_comesTrue_155 (by decide) rfl rfl
            · rw [if_neg h90] at hf
              refine lv_iload hx hb dL_comesTrue_110 (lv_at hl 0 rfl) ?_
              obtain ⟨x92, ejK93, hf⟩ := lt1_e hf
              have K93 : ∀ (H : Heap) (locs : List Loc) (ls : Array Slot), HW X (pbt w f0 g74 c0 y0 o0) H → va_S (xF b0) s.heap H locs → lv_has ls 11 [(0, .ref (xa X 306)), (1, .int x11), (2, .int x12), (3, .int x13), (4, .int x14), (5, .int x81), (6, .int x87), (7, .int x17), (9, .int x88)] → W p l e R s m args below meth c H locs 0 0 Q (F0 m 120 ls [.int x92]) := by
                intro H locs ls hP hS hl
                refine lv_aload_n hx hb dL_comesTrue_120 rfl (lv_at hl 0 rfl) ?_
                refine lv_iload hx hb dL_comesTrue_121 (lv_at hl 7 rfl) ?_
                obtain ⟨x94, hc95, hf⟩ := ob1_e hf
                refine w_ci ⟨hx, hb, hml, hown, hts⟩ hP hK hS (k8_reason l hX w hc95) hc_65 (w_recv hP hK (by decide) emb_bt rfl) rfl hl.1 rfl (Nat.le_of_ble_eq_true rfl) dL_comesTrue_123 ⟨Nat.zero_le _, Nat.zero_le _⟩ (fun H locs hP hS => ?_)
                obtain ⟨x97, ejK98, hf⟩ := lt1_e hf
                have K98 : ∀ (H : Heap) (locs : List Loc) (ls : Array Slot), HW X (pbt w f0 g74 c0 y0 o0) H → va_S (xF b0) s.heap H locs → lv_has ls 11 [(0, .ref (xa X 306)), (1, .int x11), (2, .int x12), (3, .int x13), (4, .int x14), (5, .int x81), (6, .int x87), (7, .int x17), (9, .int x88)] → W p l e R s m args below meth c H locs 0 0 Q (F0 m 134 ls [.int x97, .int x92]) := by
                  intro H locs ls hP hS hl
                  refine lv_icmp_ne (tgt := 154) hx hb dL_comesTrue_134 (by decide) (fun h99 => ?_) (fun h99 => ?_)
                  · rw [if_neg h99] at hf
                    refine lv_iconst (v := 0) hx hb dL_comesTrue_154 (by decide) ?_
                    have hf := Option.some.inj hf
                    simp only [Prod.mk.injEq] at hf
                    obtain ⟨rfl, rfl, rfl, rfl, rfl⟩ := hf
                    rw [hQ]
                    exact w_zret hx hb hr hlocks hP hK hS dL_comesTrue_155 (by decide) rfl rfl
                  · rw [if_pos h99] at hf
                    refine lv_aload_n hx hb dL_comesTrue_137 rfl (lv_at hl 0 rfl) ?_
                    refine lv_iconst (v := 3) hx hb dL_comesTrue_138 (by decide) ?_
                    obtain ⟨x100, hc101, hf⟩ := ob1_e hf
                    refine w_ci ⟨hx, hb, hml, hown, hts⟩ hP hK hS (k8_whole l hX w hc101) hc_8 (w_recv hP hK (by decide) emb_bt rfl) rfl hl.1 rfl (Nat.le_of_ble_eq_true rfl) dL_comesTrue_139 ⟨Nat.zero_le _, Nat.zero_le _⟩ (fun H locs hP hS => ?_)
                    refine lv_bipush (v := 25) hx hb dL_comesTrue_142 (by decide) ?_
                    refine lv_iload hx hb dL_comesTrue_144 (lv_at hl 8 rfl) ?_
                    refine lv_imul hx hb dL_comesTrue_146 ?_
                    refine lv_iadd hx hb dL_comesTrue_147 ?_
                    refine lv_sipush (v := 400) hx hb dL_comesTrue_148 (by decide) ?_
                    refine lv_icmp_le (tgt := 156) hx hb dL_comesTrue_151 (by decide) (fun h102 => ?_) (fun h102 => ?_)
                    · rw [if_pos h102] at hf
                      obtain ⟨x103, ex103⟩ : ∃ y : Int32, y = x17 + 1 := ⟨_, rfl⟩
                      replace hf := ltn_s ex103 hf
                      refine lv_iinc (v := x103) (lv' := [(7, .int x103), (0, .ref (xa X 306)), (1, .int x11), (2, .int x12), (3, .int x13), (4, .int x14), (5, .int x81), (6, .int x87), (9, .int x88)]) hx hb dL_comesTrue_156 hl (k := 7) rfl (by rw [ex103]; rfl) (by decide) rfl (fun ls hl => ?_)
                      refine lv_goto (tgt := 30) hx hb dL_comesTrue_159 (by decide) ?_
                      exact ih x11 x12 x13 x14 x81 x87 x103 g74  _ _ _ hf hP hS (lv_sub hl [1, 2, 3, 4, 5, 6, 7, 0] rfl)
                    · rw [if_neg h102] at hf
                      refine lv_iconst (v := 0) hx hb dL_comesTrue_154 (by decide) ?_
                      have hf := Option.some.inj hf
                      simp only [Prod.mk.injEq] at hf
                      obtain ⟨rfl, rfl, rfl, rfl, rfl⟩ := hf
                      rw [hQ]
                      exact w_zret hx hb hr hlocks hP hK hS dL_comesTrue_155 (by decide) rfl rfl
                clear hf
                refine lv_if_ne (tgt := 133) hx hb dL_comesTrue_126 (by decide) (fun h96 => ?_) (fun h96 => ?_)
                · rw [if_neg h96] at ejK98
                  refine lv_iconst (v := 0) hx hb dL_comesTrue_133 (by decide) ?_
                  obtain rfl := ejK98
                  exact K98 _ _ _ hP hS (lv_sub hl [0, 1, 2, 3, 4, 5, 6, 7, 8] rfl)
                · rw [if_pos h96] at ejK98
                  refine lv_iconst (v := 1) hx hb dL_comesTrue_129 (by decide) ?_
                  refine lv_goto (tgt := 134) hx hb dL_comesTrue_130 (by decide) ?_
                  obtain rfl := ejK98
                  exact K98 _ _ _ hP hS (lv_sub hl [0, 1, 2, 3, 4, 5, 6, 7, 8] rfl)
              clear hf
              refine lv_if_ne (tgt := 119) hx hb dL_comesTrue_112 (by decide) (fun h91 => ?_) (fun h91 => ?_)
              · rw [if_neg h91] at ejK93
                refine lv_iconst (v := 0) hx hb dL_comesTrue_119 (by decide) ?_
                obtain rfl := ejK93
                exact K93 _ _ _ hP hS (lv_sub hl [2, 3, 4, 5, 6, 7, 1, 8, 0] rfl)
              · rw [if_pos h91] at ejK93
                refine lv_iconst (v := 1) hx hb dL_comesTrue_115 (by decide) ?_
                refine lv_goto (tgt := 120) hx hb dL_comesTrue_116 (by decide) ?_
                obtain rfl := ejK93
                exact K93 _ _ _ hP hS (lv_sub hl [2, 3, 4, 5, 6, 7, 1, 8, 0] rfl)
          clear hf
          refine lv_if_le (tgt := 91) hx hb dL_comesTrue_81 (by decide) (fun h84 => ?_) (fun h84 => ?_)
          · rw [if_pos h84] at ejK86
            refine lv_iconst (v := 0) hx hb dL_comesTrue_91 (by decide) ?_
            obtain rfl := ejK86
            exact K86 _ _ _ hP hS (lv_sub hl [1, 2, 3, 4, 5, 0, 7] rfl)
          · rw [if_neg h84] at ejK86
            refine lv_iconst (v := 1) hx hb dL_comesTrue_84 (by decide) ?_
            refine lv_iload hx hb dL_comesTrue_85 (lv_at hl 7 rfl) ?_
            refine lv_ishl hx hb dL_comesTrue_87 ?_
            refine lv_goto (tgt := 92) hx hb dL_comesTrue_88 (by decide) ?_
            obtain rfl := ejK86
            exact K86 _ _ _ hP hS (lv_sub hl [1, 2, 3, 4, 5, 0, 7] rfl)
        clear hf
        refine lv_if_le (tgt := 68) hx hb dL_comesTrue_52 (by decide) (fun h76 => ?_) (fun h76 => ?_)
        · rw [if_pos h76] at ejK79
          refine lv_iconst (v := 0) hx hb dL_comesTrue_68 (by decide) ?_
          obtain rfl := ejK79
          exact K79 _ _ _ hP hS (lv_sub hl [1, 2, 3, 4, 5, 7, 8] rfl)
        · rw [if_neg h76] at ejK79
          refine lv_iload hx hb dL_comesTrue_55 (lv_at hl 0 rfl) ?_
          refine lv_iload_n hx hb dL_comesTrue_57 rfl (lv_at hl 2 rfl) ?_
          refine lv_icmp_gt (tgt := 68) hx hb dL_comesTrue_58 (by decide) (fun h80 => ?_) (fun h80 => ?_)
          · rw [if_pos h80] at ejK79
            refine lv_iconst (v := 0) hx hb dL_comesTrue_68 (by decide) ?_
            obtain rfl := ejK79
            exact K79 _ _ _ hP hS (lv_sub hl [1, 2, 3, 4, 5, 7, 8] rfl)
          · rw [if_neg h80] at ejK79
            refine lv_iconst (v := 1) hx hb dL_comesTrue_61 (by decide) ?_
            refine lv_iload hx hb dL_comesTrue_62 (lv_at hl 8 rfl) ?_
            refine lv_ishl hx hb dL_comesTrue_64 ?_
            refine lv_goto (tgt := 69) hx hb dL_comesTrue_65 (by decide) ?_
            obtain rfl := ejK79
            exact K79 _ _ _ hP hS (lv_sub hl [1, 2, 3, 4, 5, 7, 8] rfl)
  exact L30 N a1 x1 x4 x7 0 0 0 g8 _ _ _ hf hP hS (lv_sub hl [6, 7, 5, 4, 3, 2, 1, 0] rfl)
