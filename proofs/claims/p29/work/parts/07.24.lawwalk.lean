set_option maxHeartbeats 8000000 in
set_option maxRecDepth 100000 in
theorem law_walk {p : Program} {e : Env} {s : State} {m : MethodId} {below : List Frame} {meth : Method} {c : Code} (l : Launch) {b L : Nat} {xs : Nat → Int32} (C0 : lw_At p s m meth c b L xs) {X : bkX} (hX : XO X s.heap.size) (hK : XK X s) {N : Nat} {w : bkW} {cl sl : Nat} (hcl : cl ≤ 669820) (hsl : sl ≤ 7092239) {f0 : bkA} {g0 : bkA} {c0 : bkA} {y0 : Nat → bkA} {o0 : Nat → Int32} {H : Heap} {locs : List Loc} {ls : Array Slot} (hf : mL_law N L xs f0 g0 c0 y0 o0 = some 1) (hP : HW X (pbt w f0 g0 c0 y0 o0) H) (hS : va_S (xF s.heap.size) s.heap H locs) (hl : lv_has ls 11 [(0, .ref b), (1, .ref (xa X 306))]) : W p l e room_1 s m #[Value.ref b] below meth c H locs cl sl (lw_Z below #[Value.ref b] s) (F0 m 8 ls []) := by
  obtain ⟨hx, hb, hr, hml, hown, hts, hXs, hbl, hlocks, hgv⟩ := id C0
  have hb : c.code = cL_law := hb
  have hbA : ¬ (xF s.heap.size) b := Nat.not_le.mpr hbl
  have hts : ∀ w ∈ wsL_law, w.before #[Value.ref b] s = true := fun w h => hts w (wsL_law_in w h)
  have hown : s.vm.findClass RL = some m.cls := hown
  have hc_84 := (va_cwS 2 hts gL_law_L_cell rfl rfl rfl (by decide +kernel) ⟨Nat.le_of_ble_eq_true rfl, Nat.le_of_ble_eq_true rfl⟩ : CallB room_1 s #[Value.ref b] RL 84 yL_cell cL_cell 2 (some .int) wsL_cell rmL_cell 0 0 2 ∧ (Cond.static yL_cell).before #[Value.ref b] s = true)
  have hc_14 := (va_cwS 2 hts gL_law_L_low rfl rfl rfl (by decide +kernel) ⟨Nat.le_of_ble_eq_true rfl, Nat.le_of_ble_eq_true rfl⟩ : CallB room_1 s #[Value.ref b] RL 14 yL_low cL_low 2 (some .int) wsL_low rmL_low 0 0 2 ∧ (Cond.static yL_low).before #[Value.ref b] s = true)
  have hc_20 := (cwV 5 hts gL_law_X8_addKind rfl rfl rfl (by decide +kernel) ⟨Nat.le_of_ble_eq_true rfl, Nat.le_of_ble_eq_true rfl⟩ : CallW room_1 s #[Value.ref b] RL RX8 20 yX8_addKind cX8_addKind 6 (some .int) wsX8_addKind rmX8_addKind 0 0 5)
  have hc_24 := (cwV 0 hts gL_law_X8_addHouse rfl rfl rfl (by decide +kernel) ⟨Nat.le_of_ble_eq_true rfl, Nat.le_of_ble_eq_true rfl⟩ : CallW room_1 s #[Value.ref b] RL RX8 24 yX8_addHouse cX8_addHouse 1 (some .int) wsX8_addHouse rmX8_addHouse 0 0 0)
  have hc_44 := (cwV 2 hts gL_law_X8_bring rfl rfl rfl (by decide +kernel) ⟨Nat.le_of_ble_eq_true rfl, Nat.le_of_ble_eq_true rfl⟩ : CallW room_1 s #[Value.ref b] RL RX8 44 yX8_bring cX8_bring 3 (some .int) wsX8_bring rmX8_bring 0 0 2)
  have hc_106 := (va_cwS 2 hts gL_law_L_comesTrue rfl rfl rfl (by decide +kernel) ⟨Nat.le_of_ble_eq_true rfl, Nat.le_of_ble_eq_true rfl⟩ : CallB room_1 s #[Value.ref b] RL 106 yL_comesTrue cL_comesTrue 11 (some .boolean) wsL_comesTrue rmL_comesTrue 0 0 2 ∧ (Cond.static yL_comesTrue).before #[Value.ref b] s = true)
  have hc_102 := (va_cwS 1 hts gL_law_L_isHearthRight rfl rfl rfl (by decide +kernel) ⟨Nat.le_of_ble_eq_true rfl, Nat.le_of_ble_eq_true rfl⟩ : CallB room_1 s #[Value.ref b] RL 102 yL_isHearthRight cL_isHearthRight 7 (some .boolean) wsL_isHearthRight rmL_isHearthRight 0 0 1 ∧ (Cond.static yL_isHearthRight).before #[Value.ref b] s = true)
  have hc_99 := (va_cwS 2 hts gL_law_L_addsUp rfl rfl rfl (by decide +kernel) ⟨Nat.le_of_ble_eq_true rfl, Nat.le_of_ble_eq_true rfl⟩ : CallB room_1 s #[Value.ref b] RL 99 yL_addsUp cL_addsUp 10 (some .boolean) wsL_addsUp rmL_addsUp 0 0 2 ∧ (Cond.static yL_addsUp).before #[Value.ref b] s = true)
  have hc_88 := (cwV 0 hts gL_law_X8_digest rfl rfl rfl (by decide +kernel) ⟨Nat.le_of_ble_eq_true rfl, Nat.le_of_ble_eq_true rfl⟩ : CallW room_1 s #[Value.ref b] RL RX8 88 yX8_digest cX8_digest 4 (some .long) wsX8_digest rmX8_digest 0 0 0)
  have hc_8 := (cwV 1 hts gL_law_X8_whole rfl rfl rfl (by decide +kernel) ⟨Nat.le_of_ble_eq_true rfl, Nat.le_of_ble_eq_true rfl⟩ : CallW room_1 s #[Value.ref b] RL RX8 8 yX8_whole cX8_whole 2 (some .int) wsX8_whole rmX8_whole 0 0 1)
  have hc_92 := (va_cwS 2 hts gL_law_L_act rfl rfl rfl (by decide +kernel) ⟨Nat.le_of_ble_eq_true rfl, Nat.le_of_ble_eq_true rfl⟩ : CallB room_1 s #[Value.ref b] RL 92 yL_act cL_act 7 (some .boolean) wsL_act rmL_act 0 0 2 ∧ (Cond.static yL_act).before #[Value.ref b] s = true)
  have hc_96 := (cwV 0 hts gL_law_X8_undo rfl rfl rfl (by decide +kernel) ⟨Nat.le_of_ble_eq_true rfl, Nat.le_of_ble_eq_true rfl⟩ : CallW room_1 s #[Value.ref b] RL RX8 96 yX8_undo cX8_undo 1 (some .int) wsX8_undo rmX8_undo 0 0 0)
  unfold mL_law at hf
  refine lv_aload_n hx hb dL_law_8 rfl (lv_at hl 0 rfl) ?_
  refine lv_iconst (v := 0) hx hb dL_law_9 (by decide) ?_
  obtain ⟨x1, hc2, hf⟩ := ob1_e hf
  refine va_calli (va_runS (As := [.ref b, .int 0]) (rest := []) ⟨hx, hb, hml, hown, hts⟩ (kL_cell l hc2) hc_84 ⟨x_blind, fun U h1 h2 => ⟨rfl, by show va_X b L xs U U.heap; rw [h1]; exact (va_X.moved h2.alike hXs).kept (hS.2.1 b hbl hbA)⟩⟩ rfl rfl hl.1 rfl (Nat.le_of_ble_eq_true rfl) dL_law_10 ⟨hcl, hsl⟩) hS (fun _ _ h => h.elim) (fun _ h => h.elim) (fun r u t H1 locs1 ht hvm hrr hB hz hq hS => ?_)
  rw [hrr]
  replace hP := hP.grown (fun q hq1 => hq q hq1 (fun z => z))
  refine lv_istore_n (lv' := [(2, .int x1), (0, .ref b), (1, .ref (xa X 306))]) hx hb dL_law_13 rfl hl (by decide) rfl (fun ls hl => ?_)
  refine lv_aload_n hx hb dL_law_14 rfl (lv_at hl 2 rfl) ?_
  refine lv_bipush (v := 50) hx hb dL_law_15 (by decide) ?_
  refine lv_iload_n hx hb dL_law_17 rfl (lv_at hl 0 rfl) ?_
  refine lv_bipush (v := 100) hx hb dL_law_18 (by decide) ?_
  obtain ⟨x3, hc4, hf⟩ := ob1_e hf
  refine w_csi ⟨hx, hb, hml, hown, hts⟩ hP hK hS (kL_low l hX (pbt w f0 g0 c0 y0 o0) hc4) hc_14 rfl hl.1 rfl (Nat.le_of_ble_eq_true rfl) dL_law_20 ⟨hcl, hsl⟩ (fun H locs hP hS => ?_)
  refine lv_iadd hx hb dL_law_23 ?_
  refine lv_sipush (v := 160) hx hb dL_law_24 (by decide) ?_
  refine lv_iload_n hx hb dL_law_27 rfl (lv_at hl 0 rfl) ?_
  refine lv_bipush (v := 7) hx hb dL_law_28 (by decide) ?_
  refine lv_ishr hx hb dL_law_30 ?_
  refine lv_sipush (v := 200) hx hb dL_law_31 (by decide) ?_
  obtain ⟨x5, hc6, hf⟩ := ob1_e hf
  refine w_csi ⟨hx, hb, hml, hown, hts⟩ hP hK hS (kL_low l hX (pbt w f0 g0 c0 y0 o0) hc6) hc_14 rfl hl.1 rfl (Nat.le_of_ble_eq_true rfl) dL_law_34 ⟨hcl, hsl⟩ (fun H locs hP hS => ?_)
  refine lv_iadd hx hb dL_law_37 ?_
  refine lv_iconst (v := 1) hx hb dL_law_38 (by decide) ?_
  refine lv_iload_n hx hb dL_law_39 rfl (lv_at hl 0 rfl) ?_
  refine lv_bipush (v := 15) hx hb dL_law_40 (by decide) ?_
  refine lv_ishr hx hb dL_law_42 ?_
  refine lv_iconst (v := 5) hx hb dL_law_43 (by decide) ?_
  obtain ⟨x7, hc8, hf⟩ := ob1_e hf
  refine w_csi ⟨hx, hb, hml, hown, hts⟩ hP hK hS (kL_low l hX (pbt w f0 g0 c0 y0 o0) hc8) hc_14 rfl hl.1 rfl (Nat.le_of_ble_eq_true rfl) dL_law_44 ⟨hcl, hsl⟩ (fun H locs hP hS => ?_)
  refine lv_iadd hx hb dL_law_47 ?_
  refine lv_iload_n hx hb dL_law_48 rfl (lv_at hl 0 rfl) ?_
  refine lv_bipush (v := 18) hx hb dL_law_49 (by decide) ?_
  refine lv_ishr hx hb dL_law_51 ?_
  refine lv_iconst (v := 3) hx hb dL_law_52 (by decide) ?_
  obtain ⟨x9, hc10, hf⟩ := ob1_e hf
  refine w_csi ⟨hx, hb, hml, hown, hts⟩ hP hK hS (kL_low l hX (pbt w f0 g0 c0 y0 o0) hc10) hc_14 rfl hl.1 rfl (Nat.le_of_ble_eq_true rfl) dL_law_53 ⟨hcl, hsl⟩ (fun H locs hP hS => ?_)
  refine lv_iconst (v := 3) hx hb dL_law_56 (by decide) ?_
  refine lv_iload_n hx hb dL_law_57 rfl (lv_at hl 0 rfl) ?_
  refine lv_bipush (v := 20) hx hb dL_law_58 (by decide) ?_
  refine lv_ishr hx hb dL_law_60 ?_
  refine lv_bipush (v := 20) hx hb dL_law_61 (by decide) ?_
  obtain ⟨x11, hc12, hf⟩ := ob1_e hf
  refine w_csi ⟨hx, hb, hml, hown, hts⟩ hP hK hS (kL_low l hX (pbt w f0 g0 c0 y0 o0) hc12) hc_14 rfl hl.1 rfl (Nat.le_of_ble_eq_true rfl) dL_law_63 ⟨hcl, hsl⟩ (fun H locs hP hS => ?_)
  refine lv_iadd hx hb dL_law_66 ?_
  obtain ⟨x13, f14, y15, o16, hc17, hf⟩ := ob4_e hf
  refine w_ci ⟨hx, hb, hml, hown, hts⟩ hP hK hS (k8_addKind l hX w hc17) hc_20 (w_recv hP hK (by decide) emb_bt rfl) rfl hl.1 rfl (Nat.le_of_ble_eq_true rfl) dL_law_67 ⟨hcl, hsl⟩ (fun H locs hP hS => ?_)
  refine lv_pop hx hb dL_law_70 rfl ?_
  refine lv_aload_n hx hb dL_law_71 rfl (lv_at hl 2 rfl) ?_
  obtain ⟨x18, f19, y20, o21, hc22, hf⟩ := ob4_e hf
  refine w_ci ⟨hx, hb, hml, hown, hts⟩ hP hK hS (k8_addHouse l hX w hc22) hc_24 (w_recv hP hK (by decide) emb_bt rfl) rfl hl.1 rfl (Nat.le_of_ble_eq_true rfl) dL_law_72 ⟨hcl, hsl⟩ (fun H locs hP hS => ?_)
  refine lv_pop hx hb dL_law_75 rfl ?_
  refine lv_aload_n hx hb dL_law_76 rfl (lv_at hl 2 rfl) ?_
  obtain ⟨x23, f24, y25, o26, hc27, hf⟩ := ob4_e hf
  refine w_ci ⟨hx, hb, hml, hown, hts⟩ hP hK hS (k8_addHouse l hX w hc27) hc_24 (w_recv hP hK (by decide) emb_bt rfl) rfl hl.1 rfl (Nat.le_of_ble_eq_true rfl) dL_law_77 ⟨hcl, hsl⟩ (fun H locs hP hS => ?_)
  refine lv_pop hx hb dL_law_80 rfl ?_
  refine lv_aload_n hx hb dL_law_81 rfl (lv_at hl 2 rfl) ?_
  refine lv_iload_n hx hb dL_law_82 rfl (lv_at hl 0 rfl) ?_
  refine lv_iconst (v := 4) hx hb dL_law_83 (by decide) ?_
  refine lv_ishr hx hb dL_law_84 ?_
  refine lv_iconst (v := 2) hx hb dL_law_85 (by decide) ?_
  obtain ⟨x28, hc29, hf⟩ := ob1_e hf
  refine w_csi ⟨hx, hb, hml, hown, hts⟩ hP hK hS (kL_low l hX (pbt w f24 g0 c0 y25 o26) hc29) hc_14 rfl hl.1 rfl (Nat.le_of_ble_eq_true rfl) dL_law_86 ⟨hcl, hsl⟩ (fun H locs hP hS => ?_)
  refine lv_bipush (v := 40) hx hb dL_law_89 (by decide) ?_
  obtain ⟨x30, f31, y32, o33, hc34, hf⟩ := ob4_e hf
  refine w_ci ⟨hx, hb, hml, hown, hts⟩ hP hK hS (k8_bring l hX w hc34) hc_44 (w_recv hP hK (by decide) emb_bt rfl) rfl hl.1 rfl (Nat.le_of_ble_eq_true rfl) dL_law_91 ⟨hcl, hsl⟩ (fun H locs hP hS => ?_)
  refine lv_pop hx hb dL_law_94 rfl ?_
  refine lv_iconst (v := 4) hx hb dL_law_95 (by decide) ?_
  refine lv_istore_n (lv' := [(3, .int 4), (2, .int x1), (0, .ref b), (1, .ref (xa X 306))]) hx hb dL_law_96 rfl hl (by decide) rfl (fun ls hl => ?_)
  refine lv_iconst (v := 0) hx hb dL_law_97 (by decide) ?_
  refine lv_istore (lv' := [(4, .int 0), (3, .int 4), (2, .int x1), (0, .ref b), (1, .ref (xa X 306))]) hx hb dL_law_98 hl (by decide) rfl (fun ls hl => ?_)
  refine lv_iconst (v := 1) hx hb dL_law_100 (by decide) ?_
  refine lv_istore (lv' := [(5, .int 1), (4, .int 0), (3, .int 4), (2, .int x1), (0, .ref b), (1, .ref (xa X 306))]) hx hb dL_law_101 hl (by decide) rfl (fun ls hl => ?_)
  have L103 : ∀ (n : Nat) (x36 : Int32) (x37 : Int32) (x38 : Int32) (x39 : Int32) (f40 : bkA) (g41 : bkA) (y42 : Nat → bkA) (o43 : Nat → Int32) (H : Heap) (locs : List Loc) (ls : Array Slot), mL_law_L103 N L xs n x36 x37 x38 x39 f40 g41 c0 y42 o43 = some 1 → HW X (pbt w f40 g41 c0 y42 o43) H → va_S (xF s.heap.size) s.heap H locs → lv_has ls 11 [(0, .ref b), (1, .ref (xa X 306)), (2, .int x36), (3, .int x37), (4, .int x38), (5, .int x39)] → W p l e room_1 s m #[Value.ref b] below meth c H locs cl sl (lw_Z below #[Value.ref b] s) (F0 m 103 ls []) := by
    intro n; induction n with
    | zero => intro x36 x37 x38 x39 f40 g41 y42 o43 H locs ls hf; rw [mL_law_L103] at hf; cases hf
    | succ n ih =>
      intro x36 x37 x38 x39 f40 g41 y42 o43 H locs ls hf hP hS hl
      rw [mL_law_L103] at hf
      refine lv_iload hx hb dL_law_103 (lv_at hl 5 rfl) ?_
      refine lv_bipush (v := 16) hx hb dL_law_105 (by decide) ?_
      refine lv_icmp_ge (tgt := 282) hx hb dL_law_107 (by decide) (fun h44 => ?_) (fun h44 => ?_)
      · rw [if_pos h44] at hf
        refine lv_aload_n hx hb dL_law_282 rfl (lv_at hl 1 rfl) ?_
        refine lv_iconst (v := 1) hx hb dL_law_283 (by decide) ?_
        refine lv_iload_n hx hb dL_law_284 rfl (lv_at hl 2 rfl) ?_
        refine lv_bipush (v := 9) hx hb dL_law_285 (by decide) ?_
        refine lv_ishr hx hb dL_law_287 ?_
        refine lv_bipush (v := 9) hx hb dL_law_288 (by decide) ?_
        obtain ⟨x45, hc46, hf⟩ := ob1_e hf
        refine w_csi ⟨hx, hb, hml, hown, hts⟩ hP hK hS (kL_low l hX (pbt w f40 g41 c0 y42 o43) hc46) hc_14 rfl hl.1 rfl (Nat.le_of_ble_eq_true rfl) dL_law_290 ⟨hcl, hsl⟩ (fun H locs hP hS => ?_)
        refine lv_iadd hx hb dL_law_293 ?_
        obtain ⟨x47, f48, g49, y50, o51, hc52, hf⟩ := ob5_e hf
        refine w_csi ⟨hx, hb, hml, hown, hts⟩ hP hK hS (kL_comesTrue l hX w hc52) hc_106 rfl hl.1 rfl (Nat.le_of_ble_eq_true rfl) dL_law_294 ⟨hcl, hsl⟩ (fun H locs hP hS => ?_)
        refine lv_if_eq (tgt := 320) hx hb dL_law_297 (by decide) (fun h53 => ?_) (fun h53 => ?_)
        · rw [if_pos h53] at hf
          refine lv_iconst (v := 0) hx hb dL_law_320 (by decide) ?_
          exact absurd (Option.some.inj hf) (by decide)
        · rw [if_neg h53] at hf
          refine lv_aload_n hx hb dL_law_300 rfl (lv_at hl 1 rfl) ?_
          obtain ⟨x54, hc55, hf⟩ := ob1_e hf
          refine w_csi ⟨hx, hb, hml, hown, hts⟩ hP hK hS (kL_isHearthRight l hX w hc55) hc_102 rfl hl.1 rfl (Nat.le_of_ble_eq_true rfl) dL_law_301 ⟨hcl, hsl⟩ (fun H locs hP hS => ?_)
          refine lv_if_eq (tgt := 320) hx hb dL_law_304 (by decide) (fun h56 => ?_) (fun h56 => ?_)
          · rw [if_pos h56] at hf
            refine lv_iconst (v := 0) hx hb dL_law_320 (by decide) ?_
            exact absurd (Option.some.inj hf) (by decide)
          · rw [if_neg h56] at hf
            refine lv_aload_n hx hb dL_law_307 rfl (lv_at hl 1 rfl) ?_
            refine lv_iload hx hb dL_law_308 (lv_at hl 4 rfl) ?_
            obtain ⟨x57, hc58, hf⟩ := ob1_e hf
            refine w_csi ⟨hx, hb, hml, hown, hts⟩ hP hK hS (kL_addsUp l hX w hc58) hc_99 rfl hl.1 rfl (Nat.le_of_ble_eq_true rfl) dL_law_310 ⟨hcl, hsl⟩ (fun H locs hP hS => ?_)
            refine lv_if_eq (tgt := 320) hx hb dL_law_313 (by decide) (fun h59 => ?_) (fun h59 => ?_)
            · rw [if_pos h59] at hf
              refine lv_iconst (v := 0) hx hb dL_law_320 (by decide) ?_
              exact absurd (Option.some.inj hf) (by decide)
            · rw [if_neg h59] at hf
              refine lv_iconst (v := 1) hx hb dL_law_316 (by decide) ?_
              refine lv_goto (tgt := 321) hx hb dL_law_317 (by decide) ?_
              refine va_forget (fun q hq => hS.2.2 q hq) ?_
              refine W.widen (k := 669820) (n := 7092239) hcl hsl ?_
              exact lw_ret hx hb hr hlocks dL_law_321
      · rw [if_neg h44] at hf
        refine lv_aload_n hx hb dL_law_110 rfl (lv_at hl 0 rfl) ?_
        refine lv_iload hx hb dL_law_111 (lv_at hl 5 rfl) ?_
        obtain ⟨x60, hc61, hf⟩ := ob1_e hf
        refine va_calli (va_runS (As := [.ref b, .int x39]) (rest := []) ⟨hx, hb, hml, hown, hts⟩ (kL_cell l hc61) hc_84 ⟨x_blind, fun U h1 h2 => ⟨rfl, by show va_X b L xs U U.heap; rw [h1]; exact (va_X.moved h2.alike hXs).kept (hS.2.1 b hbl hbA)⟩⟩ rfl rfl hl.1 rfl (Nat.le_of_ble_eq_true rfl) dL_law_113 ⟨hcl, hsl⟩) hS (fun _ _ h => h.elim) (fun _ h => h.elim) (fun r u t H1 locs1 ht hvm hrr hB hz hq hS => ?_)
        rw [hrr]
        replace hP := hP.grown (fun q hq1 => hq q hq1 (fun z => z))
        refine lv_istore (lv' := [(6, .int x60), (0, .ref b), (1, .ref (xa X 306)), (2, .int x36), (3, .int x37), (4, .int x38), (5, .int x39)]) hx hb dL_law_116 hl (by decide) rfl (fun ls hl => ?_)
        refine lv_aload_n hx hb dL_law_118 rfl (lv_at hl 2 rfl) ?_
        obtain ⟨x62, g63, hc64, hf⟩ := ob2_e hf
        refine w_cj ⟨hx, hb, hml, hown, hts⟩ hP hK hS (k8_digest l hX w hc64) hc_88 (w_recv hP hK (by decide) emb_bt rfl) rfl hl.1 rfl (Nat.le_of_ble_eq_true rfl) dL_law_119 ⟨hcl, hsl⟩ (fun H locs hP hS => ?_)
        refine lv_lstore (lv' := [(7, .long x62), (6, .int x60), (0, .ref b), (1, .ref (xa X 306)), (2, .int x36), (3, .int x37), (4, .int x38), (5, .int x39)]) hx hb dL_law_122 hl (by decide) rfl (fun ls hl => ?_)
        refine lv_aload_n hx hb dL_law_124 rfl (lv_at hl 3 rfl) ?_
        refine lv_bipush (v := 8) hx hb dL_law_125 (by decide) ?_
        obtain ⟨x65, hc66, hf⟩ := ob1_e hf
        refine w_ci ⟨hx, hb, hml, hown, hts⟩ hP hK hS (k8_whole l hX w hc66) hc_8 (w_recv hP hK (by decide) emb_bt rfl) rfl hl.1 rfl (Nat.le_of_ble_eq_true rfl) dL_law_127 ⟨hcl, hsl⟩ (fun H locs hP hS => ?_)
        obtain ⟨x70, ejK71, hf⟩ := ob1_e hf
        have K71 : ∀ (H : Heap) (locs : List Loc) (ls : Array Slot), HW X (pbt w f40 g63 c0 y42 o43) H → va_S (xF s.heap.size) s.heap H locs → lv_has ls 11 [(0, .ref b), (1, .ref (xa X 306)), (2, .int x36), (3, .int x37), (4, .int x38), (5, .int x39), (6, .int x60), (7, .long x62)] → W p l e room_1 s m #[Value.ref b] below meth c H locs cl sl (lw_Z below #[Value.ref b] s) (F0 m 143 ls [.int x70]) := by
          intro H locs ls hP hS hl
          refine lv_istore (lv' := [(9, .int x70), (0, .ref b), (1, .ref (xa X 306)), (2, .int x36), (3, .int x37), (4, .int x38), (5, .int x39), (6, .int x60), (7, .long x62)]) hx hb dL_law_143 hl (by decide) rfl (fun ls hl => ?_)
          refine lv_aload_n hx hb dL_law_145 rfl (lv_at hl 2 rfl) ?_
          refine lv_iload hx hb dL_law_146 (lv_at hl 7 rfl) ?_
          obtain ⟨x74, f75, y76, o77, hc78, hf⟩ := ob4_e hf
          refine w_csi ⟨hx, hb, hml, hown, hts⟩ hP hK hS (kL_act l hX w hc78) hc_92 rfl hl.1 rfl (Nat.le_of_ble_eq_true rfl) dL_law_148 ⟨hcl, hsl⟩ (fun H locs hP hS => ?_)
          refine lv_istore (lv' := [(10, .int x74), (9, .int x70), (0, .ref b), (1, .ref (xa X 306)), (2, .int x36), (3, .int x37), (4, .int x38), (5, .int x39), (6, .int x60), (7, .long x62)]) hx hb dL_law_151 hl (by decide) rfl (fun ls hl => ?_)
          refine lv_iload hx hb dL_law_153 (lv_at hl 0 rfl) ?_
          refine lv_if_ne (tgt := 170) hx hb dL_law_155 (by decide) (fun h79 => ?_) (fun h79 => ?_)
          · rw [if_neg h79] at hf
            refine lv_iload hx hb dL_law_170 (lv_at hl 0 rfl) ?_
            obtain ⟨x83, ejK84, hf⟩ := lt1_e hf
            have K84 : ∀ (H : Heap) (locs : List Loc) (ls : Array Slot), HW X (pbt w f75 g63 c0 y76 o77) H → va_S (xF s.heap.size) s.heap H locs → lv_has ls 11 [(0, .ref b), (1, .ref (xa X 306)), (2, .int x36), (3, .int x83), (4, .int x38), (5, .int x39), (6, .int x60), (9, .int x70), (10, .int x74)] → W p l e room_1 s m #[Value.ref b] below meth c H locs cl sl (lw_Z below #[Value.ref b] s) (F0 m 183 ls []) := by
              intro H locs ls hP hS hl
              refine lv_iload hx hb dL_law_183 (lv_at hl 8 rfl) ?_
              obtain ⟨x90, ejK91, hf⟩ := lt1_e hf
              have K91 : ∀ (H : Heap) (locs : List Loc) (ls : Array Slot), HW X (pbt w f75 g63 c0 y76 o77) H → va_S (xF s.heap.size) s.heap H locs → lv_has ls 11 [(0, .ref b), (1, .ref (xa X 306)), (2, .int x36), (3, .int x83), (4, .int x90), (5, .int x39), (6, .int x60), (10, .int x74)] → W p l e room_1 s m #[Value.ref b] below meth c H locs cl sl (lw_Z below #[Value.ref b] s) (F0 m 205 ls []) := by
                intro H locs ls hP hS hl
                refine lv_iload hx hb dL_law_205 (lv_at hl 7 rfl) ?_
                refine lv_if_eq (tgt := 251) hx hb dL_law_207 (by decide) (fun h94 => ?_) (fun h94 => ?_)
                · rw [if_pos h94] at hf
                  refine lv_aload_n hx hb dL_law_251 rfl (lv_at hl 1 rfl) ?_
                  refine lv_iload hx hb dL_law_252 (lv_at hl 4 rfl) ?_
                  obtain ⟨x95, hc96, hf⟩ := ob1_e hf
                  refine w_csi ⟨hx, hb, hml, hown, hts⟩ hP hK hS (kL_addsUp l hX w hc96) hc_99 rfl hl.1 rfl (Nat.le_of_ble_eq_true rfl) dL_law_254 ⟨hcl, hsl⟩ (fun H locs hP hS => ?_)
                  refine lv_if_eq (tgt := 274) hx hb dL_law_257 (by decide) (fun h97 => ?_) (fun h97 => ?_)
                  · rw [if_pos h97] at hf
                    refine lv_iconst (v := 0) hx hb dL_law_274 (by decide) ?_
                    exact absurd (Option.some.inj hf) (by decide)
                  · rw [if_neg h97] at hf
                    refine lv_iload hx hb dL_law_260 (lv_at hl 5 rfl) ?_
                    refine lv_iconst (v := 1) hx hb dL_law_262 (by decide) ?_
                    refine lv_iand hx hb dL_law_263 ?_
                    refine lv_if_ne (tgt := 276) hx hb dL_law_264 (by decide) (fun h98 => ?_) (fun h98 => ?_)
                    · rw [if_neg h98] at hf
                      obtain ⟨x99, ex99⟩ : ∃ y : Int32, y = x39 + 1 := ⟨_, rfl⟩
                      replace hf := ltn_s ex99 hf
                      refine lv_iinc (v := x99) (lv' := [(5, .int x99), (0, .ref b), (1, .ref (xa X 306)), (2, .int x36), (3, .int x83), (4, .int x90), (6, .int x60), (10, .int x74)]) hx hb dL_law_276 hl (k := 5) rfl (by rw [ex99]; rfl) (by decide) rfl (fun ls hl => ?_)
                      refine lv_goto (tgt := 103) hx hb dL_law_279 (by decide) ?_
                      exact ih x36 x83 x90 x99 f75 g63 y76 o77  _ _ _ hf hP hS (lv_sub hl [1, 2, 3, 4, 5, 0] rfl)
                    · rw [if_pos h98] at hf
                      refine lv_aload_n hx hb dL_law_267 rfl (lv_at hl 1 rfl) ?_
                      obtain ⟨x100, hc101, hf⟩ := ob1_e hf
                      refine w_csi ⟨hx, hb, hml, hown, hts⟩ hP hK hS (kL_isHearthRight l hX w hc101) hc_102 rfl hl.1 rfl (Nat.le_of_ble_eq_true rfl) dL_law_268 ⟨hcl, hsl⟩ (fun H locs hP hS => ?_)
                      refine lv_if_ne (tgt := 276) hx hb dL_law_271 (by decide) (fun h102 => ?_) (fun h102 => ?_)
                      · rw [if_neg h102] at hf
                        obtain ⟨x103, ex103⟩ : ∃ y : Int32, y = x39 + 1 := ⟨_, rfl⟩
                        replace hf := ltn_s ex103 hf
                        refine lv_iinc (v := x103) (lv' := [(5, .int x103), (0, .ref b), (1, .ref (xa X 306)), (2, .int x36), (3, .int x83), (4, .int x90), (6, .int x60), (10, .int x74)]) hx hb dL_law_276 hl (k := 5) rfl (by rw [ex103]; rfl) (by decide) rfl (fun ls hl => ?_)
                        refine lv_goto (tgt := 103) hx hb dL_law_279 (by decide) ?_
                        exact ih x36 x83 x90 x103 f75 g63 y76 o77  _ _ _ hf hP hS (lv_sub hl [1, 2, 3, 4, 5, 0] rfl)
                      · rw [if_pos h102] at hf
                        refine lv_iconst (v := 0) hx hb dL_law_274 (by decide) ?_
                        exact absurd (Option.some.inj hf) (by decide)
                · rw [if_neg h94] at hf
                  refine lv_iload hx hb dL_law_210 (lv_at hl 6 rfl) ?_
                  refine lv_bipush (v := 24) hx hb dL_law_212 (by decide) ?_
                  refine lv_ishr hx hb dL_law_214 ?_
                  refine lv_iconst (v := 4) hx hb dL_law_215 (by decide) ?_
                  obtain ⟨x104, hc105, hf⟩ := ob1_e hf
                  refine w_csi ⟨hx, hb, hml, hown, hts⟩ hP hK hS (kL_low l hX (pbt w f75 g63 c0 y76 o77) hc105) hc_14 rfl hl.1 rfl (Nat.le_of_ble_eq_true rfl) dL_law_216 ⟨hcl, hsl⟩ (fun H locs hP hS => ?_)
                  refine lv_if_ne (tgt := 251) hx hb dL_law_219 (by decide) (fun h106 => ?_) (fun h106 => ?_)
                  · rw [if_neg h106] at hf
                    refine lv_aload_n hx hb dL_law_251 rfl (lv_at hl 1 rfl) ?_
                    refine lv_iload hx hb dL_law_252 (lv_at hl 4 rfl) ?_
                    obtain ⟨x107, hc108, hf⟩ := ob1_e hf
                    refine w_csi ⟨hx, hb, hml, hown, hts⟩ hP hK hS (kL_addsUp l hX w hc108) hc_99 rfl hl.1 rfl (Nat.le_of_ble_eq_true rfl) dL_law_254 ⟨hcl, hsl⟩ (fun H locs hP hS => ?_)
                    refine lv_if_eq (tgt := 274) hx hb dL_law_257 (by decide) (fun h109 => ?_) (fun h109 => ?_)
                    · rw [if_pos h109] at hf
                      refine lv_iconst (v := 0) hx hb dL_law_274 (by decide) ?_
                      exact absurd (Option.some.inj hf) (by decide)
                    · rw [if_neg h109] at hf
                      refine lv_iload hx hb dL_law_260 (lv_at hl 5 rfl) ?_
                      refine lv_iconst (v := 1) hx hb dL_law_262 (by decide) ?_
                      refine lv_iand hx hb dL_law_263 ?_
                      refine lv_if_ne (tgt := 276) hx hb dL_law_264 (by decide) (fun h110 => ?_) (fun h110 => ?_)
                      · rw [if_neg h110] at hf
                        obtain ⟨x111, ex111⟩ : ∃ y : Int32, y = x39 + 1 := ⟨_, rfl⟩
                        replace hf := ltn_s ex111 hf
                        refine lv_iinc (v := x111) (lv' := [(5, .int x111), (0, .ref b), (1, .ref (xa X 306)), (2, .int x36), (3, .int x83), (4, .int x90), (6, .int x60), (10, .int x74)]) hx hb dL_law_276 hl (k := 5) rfl (by rw [ex111]; rfl) (by decide) rfl (fun ls hl => ?_)
                        refine lv_goto (tgt := 103) hx hb dL_law_279 (by decide) ?_
                        exact ih x36 x83 x90 x111 f75 g63 y76 o77  _ _ _ hf hP hS (lv_sub hl [1, 2, 3, 4, 5, 0] rfl)
                      · rw [if_pos h110] at hf
                        refine lv_aload_n hx hb dL_law_267 rfl (lv_at hl 1 rfl) ?_
                        obtain ⟨x112, hc113, hf⟩ := ob1_e hf
                        refine w_csi ⟨hx, hb, hml, hown, hts⟩ hP hK hS (kL_isHearthRight l hX w hc113) hc_102 rfl hl.1 rfl (Nat.le_of_ble_eq_true rfl) dL_law_268 ⟨hcl, hsl⟩ (fun H locs hP hS => ?_)
                        refine lv_if_ne (tgt := 276) hx hb dL_law_271 (by decide) (fun h114 => ?_) (fun h114 => ?_)
                        · rw [if_neg h114] at hf
                          obtain ⟨x115, ex115⟩ : ∃ y : Int32, y = x39 + 1 := ⟨_, rfl⟩
                          replace hf := ltn_s ex115 hf
                          refine lv_iinc (v := x115) (lv' := [(5, .int x115), (0, .ref b), (1, .ref (xa X 306)), (2, .int x36), (3, .int x83), (4, .int x90), (6, .int x60), (10, .int x74)]) hx hb dL_law_276 hl (k := 5) rfl (by rw [ex115]; rfl) (by decide) rfl (fun ls hl => ?_)
                          refine lv_goto (tgt := 103) hx hb dL_law_279 (by decide) ?_
                          exact ih x36 x83 x90 x115 f75 g63 y76 o77  _ _ _ hf hP hS (lv_sub hl [1, 2, 3, 4, 5, 0] rfl)
                        · rw [if_pos h114] at hf
                          refine lv_iconst (v := 0) hx hb dL_law_274 (by decide) ?_
                          exact absurd (Option.some.inj hf) (by decide)
                  · rw [if_pos h106] at hf
                    refine lv_aload_n hx hb dL_law_222 rfl (lv_at hl 1 rfl) ?_
                    obtain ⟨x116, f117, o118, hc119, hf⟩ := ob3_e hf
                    refine w_ci ⟨hx, hb, hml, hown, hts⟩ hP hK hS (k8_undo l hX w hc119) hc_96 (w_recv hP hK (by decide) emb_bt rfl) rfl hl.1 rfl (Nat.le_of_ble_eq_true rfl) dL_law_223 ⟨hcl, hsl⟩ (fun H locs hP hS => ?_)
                    refine lv_iload_n hx hb dL_law_226 rfl (lv_at hl 3 rfl) ?_
                    refine lv_iconst (v := 1) hx hb dL_law_227 (by decide) ?_
                    refine lv_isub hx hb dL_law_228 ?_
                    refine lv_icmp_eq (tgt := 234) hx hb dL_law_229 (by decide) (fun h120 => ?_) (fun h120 => ?_)
                    · rw [if_pos h120] at hf
                      obtain ⟨x121, ex121⟩ : ∃ y : Int32, y = x83 + (-1) := ⟨_, rfl⟩
                      replace hf := ltn_s ex121 hf
                      refine lv_iinc (v := x121) (lv' := [(3, .int x121), (0, .ref b), (1, .ref (xa X 306)), (2, .int x36), (4, .int x90), (5, .int x39), (6, .int x60), (10, .int x74)]) hx hb dL_law_234 hl (k := 3) rfl (by rw [ex121]; rfl) (by decide) rfl (fun ls hl => ?_)
                      refine lv_aload_n hx hb dL_law_237 rfl (lv_at hl 2 rfl) ?_
                      refine lv_iload hx hb dL_law_238 (lv_at hl 6 rfl) ?_
                      obtain ⟨x122, f123, y124, o125, hc126, hf⟩ := ob4_e hf
                      refine w_csi ⟨hx, hb, hml, hown, hts⟩ hP hK hS (kL_act l hX w hc126) hc_92 rfl hl.1 rfl (Nat.le_of_ble_eq_true rfl) dL_law_240 ⟨hcl, hsl⟩ (fun H locs hP hS => ?_)
                      refine lv_if_ne (tgt := 248) hx hb dL_law_243 (by decide) (fun h127 => ?_) (fun h127 => ?_)
                      · rw [if_neg h127] at hf
                        obtain ⟨x128, ex128⟩ : ∃ y : Int32, y = x121 + 1 := ⟨_, rfl⟩
                        replace hf := ltn_s ex128 hf
                        refine lv_iinc (v := x128) (lv' := [(3, .int x128), (0, .ref b), (1, .ref (xa X 306)), (2, .int x36), (4, .int x90), (5, .int x39), (6, .int x60), (10, .int x74)]) hx hb dL_law_248 hl (k := 0) rfl (by rw [ex128]; rfl) (by decide) rfl (fun ls hl => ?_)
                        refine lv_aload_n hx hb dL_law_251 rfl (lv_at hl 2 rfl) ?_
                        refine lv_iload hx hb dL_law_252 (lv_at hl 4 rfl) ?_
                        obtain ⟨x129, hc130, hf⟩ := ob1_e hf
                        refine w_csi ⟨hx, hb, hml, hown, hts⟩ hP hK hS (kL_addsUp l hX w hc130) hc_99 rfl hl.1 rfl (Nat.le_of_ble_eq_true rfl) dL_law_254 ⟨hcl, hsl⟩ (fun H locs hP hS => ?_)
                        refine lv_if_eq (tgt := 274) hx hb dL_law_257 (by decide) (fun h131 => ?_) (fun h131 => ?_)
                        · rw [if_pos h131] at hf
                          refine lv_iconst (v := 0) hx hb dL_law_274 (by decide) ?_
                          exact absurd (Option.some.inj hf) (by decide)
                        · rw [if_neg h131] at hf
                          refine lv_iload hx hb dL_law_260 (lv_at hl 5 rfl) ?_
                          refine lv_iconst (v := 1) hx hb dL_law_262 (by decide) ?_
                          refine lv_iand hx hb dL_law_263 ?_
                          refine lv_if_ne (tgt := 276) hx hb dL_law_264 (by decide) (fun h132 => ?_) (fun h132 => ?_)
                          · rw [if_neg h132] at hf
                            obtain ⟨x133, ex133⟩ : ∃ y : Int32, y = x39 + 1 := ⟨_, rfl⟩
                            replace hf := ltn_s ex133 hf
                            refine lv_iinc (v := x133) (lv' := [(5, .int x133), (3, .int x128), (0, .ref b), (1, .ref (xa X 306)), (2, .int x36), (4, .int x90), (6, .int x60), (10, .int x74)]) hx hb dL_law_276 hl (k := 5) rfl (by rw [ex133]; rfl) (by decide) rfl (fun ls hl => ?_)
                            refine lv_goto (tgt := 103) hx hb dL_law_279 (by decide) ?_
                            exact ih x36 x128 x90 x133 f123 g63 y124 o125  _ _ _ hf hP hS (lv_sub hl [2, 3, 4, 1, 5, 0] rfl)
                          · rw [if_pos h132] at hf
                            refine lv_aload_n hx hb dL_law_267 rfl (lv_at hl 2 rfl) ?_
                            obtain ⟨x134, hc135, hf⟩ := ob1_e hf
                            refine w_csi ⟨hx, hb, hml, hown, hts⟩ hP hK hS (kL_isHearthRight l hX w hc135) hc_102 rfl hl.1 rfl (Nat.le_of_ble_eq_true rfl) dL_law_268 ⟨hcl, hsl⟩ (fun H locs hP hS => ?_)
                            refine lv_if_ne (tgt := 276) hx hb dL_law_271 (by decide) (fun h136 => ?_) (fun h136 => ?_)
                            · rw [if_neg h136] at hf
                              obtain ⟨x137, ex137⟩ : ∃ y : Int32, y = x39 + 1 := ⟨_, rfl⟩
                              replace hf := ltn_s ex137 hf
                              refine lv_iinc (v := x137) (lv' := [(5, .int x137), (3, .int x128), (0, .ref b), (1, .ref (xa X 306)), (2, .int x36), (4, .int x90), (6, .int x60), (10, .int x74)]) hx hb dL_law_276 hl (k := 5) rfl (by rw [ex137]; rfl) (by decide) rfl (fun ls hl => ?_)
                              refine lv_goto (tgt := 103) hx hb dL_law_279 (by decide) ?_
                              exact ih x36 x128 x90 x137 f123 g63 y124 o125  _ _ _ hf hP hS (lv_sub hl [2, 3, 4, 1, 5, 0] rfl)
                            · rw [if_pos h136] at hf
                              refine lv_iconst (v := 0) hx hb dL_law_274 (by decide) ?_
                              exact absurd (Option.some.inj hf) (by decide)
                      · rw [if_pos h127] at hf
                        refine lv_iconst (v := 0) hx hb dL_law_246 (by decide) ?_
                        exact absurd (Option.some.inj hf) (by decide)
                    · rw [if_neg h120] at hf
                      refine lv_iconst (v := 0) hx hb dL_law_232 (by decide) ?_
                      exact absurd (Option.some.inj hf) (by decide)
              clear hf
              refine lv_if_eq (tgt := 205) hx hb dL_law_185 (by decide) (fun h87 => ?_) (fun h87 => ?_)
              · rw [if_pos h87] at ejK91
                obtain rfl := ejK91
                exact K91 _ _ _ hP hS (lv_sub hl [0, 1, 2, 3, 4, 5, 6, 8] rfl)
              · rw [if_neg h87] at ejK91
                refine lv_iload hx hb dL_law_188 (lv_at hl 6 rfl) ?_
                refine lv_bipush (v := 15) hx hb dL_law_190 (by decide) ?_
                refine lv_iand hx hb dL_law_192 ?_
                refine lv_bipush (v := 12) hx hb dL_law_193 (by decide) ?_
                refine lv_icmp_ne (tgt := 205) hx hb dL_law_195 (by decide) (fun h92 => ?_) (fun h92 => ?_)
                · rw [if_neg h92] at ejK91
                  obtain rfl := ejK91
                  exact K91 _ _ _ hP hS (lv_sub hl [0, 1, 2, 3, 4, 5, 6, 8] rfl)
                · rw [if_pos h92] at ejK91
                  refine lv_iload hx hb dL_law_198 (lv_at hl 4 rfl) ?_
                  refine lv_iload hx hb dL_law_200 (lv_at hl 7 rfl) ?_
                  refine lv_iadd hx hb dL_law_202 ?_
                  refine lv_topi (fun x93 ex93 => ?_)
                  replace ejK91 := ltn_s ex93 ejK91
                  refine lv_istore (lv' := [(4, .int x93), (0, .ref b), (1, .ref (xa X 306)), (2, .int x36), (3, .int x83), (5, .int x39), (6, .int x60), (9, .int x70), (10, .int x74)]) hx hb dL_law_203 hl (by decide) rfl (fun ls hl => ?_)
                  obtain rfl := ejK91
                  exact K91 _ _ _ hP hS (lv_sub hl [1, 2, 3, 4, 0, 5, 6, 8] rfl)
            clear hf
            refine lv_if_eq (tgt := 183) hx hb dL_law_172 (by decide) (fun h80 => ?_) (fun h80 => ?_)
            · rw [if_pos h80] at ejK84
              obtain rfl := ejK84
              exact K84 _ _ _ hP hS (lv_sub hl [2, 3, 4, 5, 6, 7, 8, 1, 0] rfl)
            · rw [if_neg h80] at ejK84
              refine lv_iload_n hx hb dL_law_175 rfl (lv_at hl 5 rfl) ?_
              refine lv_iconst (v := 4) hx hb dL_law_176 (by decide) ?_
              refine lv_icmp_ge (tgt := 183) hx hb dL_law_177 (by decide) (fun h85 => ?_) (fun h85 => ?_)
              · rw [if_pos h85] at ejK84
                obtain rfl := ejK84
                exact K84 _ _ _ hP hS (lv_sub hl [2, 3, 4, 5, 6, 7, 8, 1, 0] rfl)
              · rw [if_neg h85] at ejK84
                obtain ⟨x86, ex86⟩ : ∃ y : Int32, y = x37 + 1 := ⟨_, rfl⟩
                replace ejK84 := ltn_s ex86 ejK84
                refine lv_iinc (v := x86) (lv' := [(3, .int x86), (10, .int x74), (9, .int x70), (0, .ref b), (1, .ref (xa X 306)), (2, .int x36), (4, .int x38), (5, .int x39), (6, .int x60), (7, .long x62)]) hx hb dL_law_180 hl (k := 5) rfl (by rw [ex86]; rfl) (by decide) rfl (fun ls hl => ?_)
                obtain rfl := ejK84
                exact K84 _ _ _ hP hS (lv_sub hl [3, 4, 5, 0, 6, 7, 8, 2, 1] rfl)
          · rw [if_pos h79] at hf
            refine lv_aload_n hx hb dL_law_158 rfl (lv_at hl 3 rfl) ?_
            obtain ⟨x138, g139, hc140, hf⟩ := ob2_e hf
            refine w_cj ⟨hx, hb, hml, hown, hts⟩ hP hK hS (k8_digest l hX w hc140) hc_88 (w_recv hP hK (by decide) emb_bt rfl) rfl hl.1 rfl (Nat.le_of_ble_eq_true rfl) dL_law_159 ⟨hcl, hsl⟩ (fun H locs hP hS => ?_)
            refine lv_lload hx hb dL_law_162 (lv_at hl 9 rfl) ?_
            refine W.lcmp hx hb dL_law_164 ?_
            refine lv_if_eq (tgt := 170) hx hb dL_law_165 (by decide) (fun h141 => ?_) (fun h141 => ?_)
            · rw [if_pos h141] at hf
              refine lv_iload hx hb dL_law_170 (lv_at hl 0 rfl) ?_
              obtain ⟨x145, ejK146, hf⟩ := lt1_e hf
              have K146 : ∀ (H : Heap) (locs : List Loc) (ls : Array Slot), HW X (pbt w f75 g139 c0 y76 o77) H → va_S (xF s.heap.size) s.heap H locs → lv_has ls 11 [(0, .ref b), (1, .ref (xa X 306)), (2, .int x36), (3, .int x145), (4, .int x38), (5, .int x39), (6, .int x60), (9, .int x70), (10, .int x74)] → W p l e room_1 s m #[Value.ref b] below meth c H locs cl sl (lw_Z below #[Value.ref b] s) (F0 m 183 ls []) := by
                intro H locs ls hP hS hl
                refine lv_iload hx hb dL_law_183 (lv_at hl 8 rfl) ?_
                obtain ⟨x152, ejK153, hf⟩ := lt1_e hf
                have K153 : ∀ (H : Heap) (locs : List Loc) (ls : Array Slot), HW X (pbt w f75 g139 c0 y76 o77) H → va_S (xF s.heap.size) s.heap H locs → lv_has ls 11 [(0, .ref b), (1, .ref (xa X 306)), (2, .int x36), (3, .int x145), (4, .int x152), (5, .int x39), (6, .int x60), (10, .int x74)] → W p l e room_1 s m #[Value.ref b] below meth c H locs cl sl (lw_Z below #[Value.ref b] s) (F0 m 205 ls []) := by
                  intro H locs ls hP hS hl
                  refine lv_iload hx hb dL_law_205 (lv_at hl 7 rfl) ?_
                  refine lv_if_eq (tgt := 251) hx hb dL_law_207 (by decide) (fun h156 => ?_) (fun h156 => ?_)
                  · rw [if_pos h156] at hf
                    refine lv_aload_n hx hb dL_law_251 rfl (lv_at hl 1 rfl) ?_
                    refine lv_iload hx hb dL_law_252 (lv_at hl 4 rfl) ?_
                    obtain ⟨x157, hc158, hf⟩ := ob1_e hf
                    refine w_csi ⟨hx, hb, hml, hown, hts⟩ hP hK hS (kL_addsUp l hX w hc158) hc_99 rfl hl.1 rfl (Nat.le_of_ble_eq_true rfl) dL_law_254 ⟨hcl, hsl⟩ (fun H locs hP hS => ?_)
                    refine lv_if_eq (tgt := 274) hx hb dL_law_257 (by decide) (fun h159 => ?_) (fun h159 => ?_)
                    · rw [if_pos h159] at hf
                      refine lv_iconst (v := 0) hx hb dL_law_274 (by decide) ?_
                      exact absurd (Option.some.inj hf) (by decide)
                    · rw [if_neg h159] at hf
                      refine lv_iload hx hb dL_law_260 (lv_at hl 5 rfl) ?_
                      refine lv_iconst (v := 1) hx hb dL_law_262 (by decide) ?_
                      refine lv_iand hx hb dL_law_263 ?_
                      refine lv_if_ne (tgt := 276) hx hb dL_law_264 (by decide) (fun h160 => ?_) (fun h160 => ?_)
                      · rw [if_neg h160] at hf
                        obtain ⟨x161, ex161⟩ : ∃ y : Int32, y = x39 + 1 := ⟨_, rfl⟩
                        replace hf := ltn_s ex161 hf
                        refine lv_iinc (v := x161) (lv' := [(5, .int x161), (0, .ref b), (1, .ref (xa X 306)), (2, .int x36), (3, .int x145), (4, .int x152), (6, .int x60), (10, .int x74)]) hx hb dL_law_276 hl (k := 5) rfl (by rw [ex161]; rfl) (by decide) rfl (fun ls hl => ?_)
                        refine lv_goto (tgt := 103) hx hb dL_law_279 (by decide) ?_
                        exact ih x36 x145 x152 x161 f75 g139 y76 o77  _ _ _ hf hP hS (lv_sub hl [1, 2, 3, 4, 5, 0] rfl)
                      · rw [if_pos h160] at hf
                        refine lv_aload_n hx hb dL_law_267 rfl (lv_at hl 1 rfl) ?_
                        obtain ⟨x162, hc163, hf⟩ := ob1_e hf
                        refine w_csi ⟨hx, hb, hml, hown, hts⟩ hP hK hS (kL_isHearthRight l hX w hc163) hc_102 rfl hl.1 rfl (Nat.le_of_ble_eq_true rfl) dL_law_268 ⟨hcl, hsl⟩ (fun H locs hP hS => ?_)
                        refine lv_if_ne (tgt := 276) hx hb dL_law_271 (by decide) (fun h164 => ?_) (fun h164 => ?_)
                        · rw [if_neg h164] at hf
                          obtain ⟨x165, ex165⟩ : ∃ y : Int32, y = x39 + 1 := ⟨_, rfl⟩
                          replace hf := ltn_s ex165 hf
                          refine lv_iinc (v := x165) (lv' := [(5, .int x165), (0, .ref b), (1, .ref (xa X 306)), (2, .int x36), (3, .int x145), (4, .int x152), (6, .int x60), (10, .int x74)]) hx hb dL_law_276 hl (k := 5) rfl (by rw [ex165]; rfl) (by decide) rfl (fun ls hl => ?_)
                          refine lv_goto (tgt := 103) hx hb dL_law_279 (by decide) ?_
                          exact ih x36 x145 x152 x165 f75 g139 y76 o77  _ _ _ hf hP hS (lv_sub hl [1, 2, 3, 4, 5, 0] rfl)
                        · rw [if_pos h164] at hf
                          refine lv_iconst (v := 0) hx hb dL_law_274 (by decide) ?_
                          exact absurd (Option.some.inj hf) (by decide)
                  · rw [if_neg h156] at hf
                    refine lv_iload hx hb dL_law_210 (lv_at hl 6 rfl) ?_
                    refine lv_bipush (v := 24) hx hb dL_law_212 (by decide) ?_
                    refine lv_ishr hx hb dL_law_214 ?_
                    refine lv_iconst (v := 4) hx hb dL_law_215 (by decide) ?_
                    obtain ⟨x166, hc167, hf⟩ := ob1_e hf
                    refine w_csi ⟨hx, hb, hml, hown, hts⟩ hP hK hS (kL_low l hX (pbt w f75 g139 c0 y76 o77) hc167) hc_14 rfl hl.1 rfl (Nat.le_of_ble_eq_true rfl) dL_law_216 ⟨hcl, hsl⟩ (fun H locs hP hS => ?_)
                    refine lv_if_ne (tgt := 251) hx hb dL_law_219 (by decide) (fun h168 => ?_) (fun h168 => ?_)
                    · rw [if_neg h168] at hf
                      refine lv_aload_n hx hb dL_law_251 rfl (lv_at hl 1 rfl) ?_
                      refine lv_iload hx hb dL_law_252 (lv_at hl 4 rfl) ?_
                      obtain ⟨x169, hc170, hf⟩ := ob1_e hf
                      refine w_csi ⟨hx, hb, hml, hown, hts⟩ hP hK hS (kL_addsUp l hX w hc170) hc_99 rfl hl.1 rfl (Nat.le_of_ble_eq_true rfl) dL_law_254 ⟨hcl, hsl⟩ (fun H locs hP hS => ?_)
                      refine lv_if_eq (tgt := 274) hx hb dL_law_257 (by decide) (fun h171 => ?_) (fun h171 => ?_)
                      · rw [if_pos h171] at hf
                        refine lv_iconst (v := 0) hx hb dL_law_274 (by decide) ?_
                        exact absurd (Option.some.inj hf) (by decide)
                      · rw [if_neg h171] at hf
                        refine lv_iload hx hb dL_law_260 (lv_at hl 5 rfl) ?_
                        refine lv_iconst (v := 1) hx hb dL_law_262 (by decide) ?_
                        refine lv_iand hx hb dL_law_263 ?_
                        refine lv_if_ne (tgt := 276) hx hb dL_law_264 (by decide) (fun h172 => ?_) (fun h172 => ?_)
                        · rw [if_neg h172] at hf
                          obtain ⟨x173, ex173⟩ : ∃ y : Int32, y = x39 + 1 := ⟨_, rfl⟩
                          replace hf := ltn_s ex173 hf
                          refine lv_iinc (v := x173) (lv' := [(5, .int x173), (0, .ref b), (1, .ref (xa X 306)), (2, .int x36), (3, .int x145), (4, .int x152), (6, .int x60), (10, .int x74)]) hx hb dL_law_276 hl (k := 5) rfl (by rw [ex173]; rfl) (by decide) rfl (fun ls hl => ?_)
                          refine lv_goto (tgt := 103) hx hb dL_law_279 (by decide) ?_
                          exact ih x36 x145 x152 x173 f75 g139 y76 o77  _ _ _ hf hP hS (lv_sub hl [1, 2, 3, 4, 5, 0] rfl)
                        · rw [if_pos h172] at hf
                          refine lv_aload_n hx hb dL_law_267 rfl (lv_at hl 1 rfl) ?_
                          obtain ⟨x174, hc175, hf⟩ := ob1_e hf
                          refine w_csi ⟨hx, hb, hml, hown, hts⟩ hP hK hS (kL_isHearthRight l hX w hc175) hc_102 rfl hl.1 rfl (Nat.le_of_ble_eq_true rfl) dL_law_268 ⟨hcl, hsl⟩ (fun H locs hP hS => ?_)
                          refine lv_if_ne (tgt := 276) hx hb dL_law_271 (by decide) (fun h176 => ?_) (fun h176 => ?_)
                          · rw [if_neg h176] at hf
                            obtain ⟨x177, ex177⟩ : ∃ y : Int32, y = x39 + 1 := ⟨_, rfl⟩
                            replace hf := ltn_s ex177 hf
                            refine lv_iinc (v := x177) (lv' := [(5, .int x177), (0, .ref b), (1, .ref (xa X 306)), (2, .int x36), (3, .int x145), (4, .int x152), (6, .int x60), (10, .int x74)]) hx hb dL_law_276 hl (k := 5) rfl (by rw [ex177]; rfl) (by decide) rfl (fun ls hl => ?_)
                            refine lv_goto (tgt := 103) hx hb dL_law_279 (by decide) ?_
                            exact ih x36 x145 x152 x177 f75 g139 y76 o77  _ _ _ hf hP hS (lv_sub hl [1, 2, 3, 4, 5, 0] rfl)
                          · rw [if_pos h176] at hf
                            refine lv_iconst (v := 0) hx hb dL_law_274 (by decide) ?_
                            exact absurd (Option.some.inj hf) (by decide)
                    · rw [if_pos h168] at hf
                      refine lv_aload_n hx hb dL_law_222 rfl (lv_at hl 1 rfl) ?_
                      obtain ⟨x178, f179, o180, hc181, hf⟩ := ob3_e hf
                      refine w_ci ⟨hx, hb, hml, hown, hts⟩ hP hK hS (k8_undo l hX w hc181) hc_96 (w_recv hP hK (by decide) emb_bt rfl) rfl hl.1 rfl (Nat.le_of_ble_eq_true rfl) dL_law_223 ⟨hcl, hsl⟩ (fun H locs hP hS => ?_)
                      refine lv_iload_n hx hb dL_law_226 rfl (lv_at hl 3 rfl) ?_
                      refine lv_iconst (v := 1) hx hb dL_law_227 (by decide) ?_
                      refine lv_isub hx hb dL_law_228 ?_
                      refine lv_icmp_eq (tgt := 234) hx hb dL_law_229 (by decide) (fun h182 => ?_) (fun h182 => ?_)
                      · rw [if_pos h182] at hf
                        obtain ⟨x183, ex183⟩ : ∃ y : Int32, y = x145 + (-1) := ⟨_, rfl⟩
                        replace hf := ltn_s ex183 hf
                        refine lv_iinc (v := x183) (lv' := [(3, .int x183), (0, .ref b), (1, .ref (xa X 306)), (2, .int x36), (4, .int x152), (5, .int x39), (6, .int x60), (10, .int x74)]) hx hb dL_law_234 hl (k := 3) rfl (by rw [ex183]; rfl) (by decide) rfl (fun ls hl => ?_)
                        refine lv_aload_n hx hb dL_law_237 rfl (lv_at hl 2 rfl) ?_
                        refine lv_iload hx hb dL_law_238 (lv_at hl 6 rfl) ?_
                        obtain ⟨x184, f185, y186, o187, hc188, hf⟩ := ob4_e hf
                        refine w_csi ⟨hx, hb, hml, hown, hts⟩ hP hK hS (kL_act l hX w hc188) hc_92 rfl hl.1 rfl (Nat.le_of_ble_eq_true rfl) dL_law_240 ⟨hcl, hsl⟩ (fun H locs hP hS => ?_)
                        refine lv_if_ne (tgt := 248) hx hb dL_law_243 (by decide) (fun h189 => ?_) (fun h189 => ?_)
                        · rw [if_neg h189] at hf
                          obtain ⟨x190, ex190⟩ : ∃ y : Int32, y = x183 + 1 := ⟨_, rfl⟩
                          replace hf := ltn_s ex190 hf
                          refine lv_iinc (v := x190) (lv' := [(3, .int x190), (0, .ref b), (1, .ref (xa X 306)), (2, .int x36), (4, .int x152), (5, .int x39), (6, .int x60), (10, .int x74)]) hx hb dL_law_248 hl (k := 0) rfl (by rw [ex190]; rfl) (by decide) rfl (fun ls hl => ?_)
                          refine lv_aload_n hx hb dL_law_251 rfl (lv_at hl 2 rfl) ?_
                          refine lv_iload hx hb dL_law_252 (lv_at hl 4 rfl) ?_
                          obtain ⟨x191, hc192, hf⟩ := ob1_e hf
                          refine w_csi ⟨hx, hb, hml, hown, hts⟩ hP hK hS (kL_addsUp l hX w hc192) hc_99 rfl hl.1 rfl (Nat.le_of_ble_eq_true rfl) dL_law_254 ⟨hcl, hsl⟩ (fun H locs hP hS => ?_)
                          refine lv_if_eq (tgt := 274) hx hb dL_law_257 (by decide) (fun h193 => ?_) (fun h193 => ?_)
                          · rw [if_pos h193] at hf
                            refine lv_iconst (v := 0) hx hb dL_law_274 (by decide) ?_
                            exact absurd (Option.some.inj hf) (by decide)
                          · rw [if_neg h193] at hf
                            refine lv_iload hx hb dL_law_260 (lv_at hl 5 rfl) ?_
                            refine lv_iconst (v := 1) hx hb dL_law_262 (by decide) ?_
                            refine lv_iand hx hb dL_law_263 ?_
                            refine lv_if_ne (tgt := 276) hx hb dL_law_264 (by decide) (fun h194 => ?_) (fun h194 => ?_)
                            · rw [if_neg h194] at hf
                              obtain ⟨x195, ex195⟩ : ∃ y : Int32, y = x39 + 1 := ⟨_, rfl⟩
                              replace hf := ltn_s ex195 hf
                              refine lv_iinc (v := x195) (lv' := [(5, .int x195), (3, .int x190), (0, .ref b), (1, .ref (xa X 306)), (2, .int x36), (4, .int x152), (6, .int x60), (10, .int x74)]) hx hb dL_law_276 hl (k := 5) rfl (by rw [ex195]; rfl) (by decide) rfl (fun ls hl => ?_)
                              refine lv_goto (tgt := 103) hx hb dL_law_279 (by decide) ?_
                              exact ih x36 x190 x152 x195 f185 g139 y186 o187  _ _ _ hf hP hS (lv_sub hl [2, 3, 4, 1, 5, 0] rfl)
                            · rw [if_pos h194] at hf
                              refine lv_aload_n hx hb dL_law_267 rfl (lv_at hl 2 rfl) ?_
                              obtain ⟨x196, hc197, hf⟩ := ob1_e hf
                              refine w_csi ⟨hx, hb, hml, hown, hts⟩ hP hK hS (kL_isHearthRight l hX w hc197) hc_102 rfl hl.1 rfl (Nat.le_of_ble_eq_true rfl) dL_law_268 ⟨hcl, hsl⟩ (fun H locs hP hS => ?_)
                              refine lv_if_ne (tgt := 276) hx hb dL_law_271 (by decide) (fun h198 => ?_) (fun h198 => ?_)
                              · rw [if_neg h198] at hf
                                obtain ⟨x199, ex199⟩ : ∃ y : Int32, y = x39 + 1 := ⟨_, rfl⟩
                                replace hf := ltn_s ex199 hf
                                refine lv_iinc (v := x199) (lv' := [(5, .int x199), (3, .int x190), (0, .ref b), (1, .ref (xa X 306)), (2, .int x36), (4, .int x152), (6, .int x60), (10, .int x74)]) hx hb dL_law_276 hl (k := 5) rfl (by rw [ex199]; rfl) (by decide) rfl (fun ls hl => ?_)
                                refine lv_goto (tgt := 103) hx hb dL_law_279 (by decide) ?_
                                exact ih x36 x190 x152 x199 f185 g139 y186 o187  _ _ _ hf hP hS (lv_sub hl [2, 3, 4, 1, 5, 0] rfl)
                              · rw [if_pos h198] at hf
                                refine lv_iconst (v := 0) hx hb dL_law_274 (by decide) ?_
                                exact absurd (Option.some.inj hf) (by decide)
                        · rw [if_pos h189] at hf
                          refine lv_iconst (v := 0) hx hb dL_law_246 (by decide) ?_
                          exact absurd (Option.some.inj hf) (by decide)
                      · rw [if_neg h182] at hf
                        refine lv_iconst (v := 0) hx hb dL_law_232 (by decide) ?_
                        exact absurd (Option.some.inj hf) (by decide)
                clear hf
                refine lv_if_eq (tgt := 205) hx hb dL_law_185 (by decide) (fun h149 => ?_) (fun h149 => ?_)
                · rw [if_pos h149] at ejK153
                  obtain rfl := ejK153
                  exact K153 _ _ _ hP hS (lv_sub hl [0, 1, 2, 3, 4, 5, 6, 8] rfl)
                · rw [if_neg h149] at ejK153
                  refine lv_iload hx hb dL_law_188 (lv_at hl 6 rfl) ?_
                  refine lv_bipush (v := 15) hx hb dL_law_190 (by decide) ?_
                  refine lv_iand hx hb dL_law_192 ?_
                  refine lv_bipush (v := 12) hx hb dL_law_193 (by decide) ?_
                  refine lv_icmp_ne (tgt := 205) hx hb dL_law_195 (by decide) (fun h154 => ?_) (fun h154 => ?_)
                  · rw [if_neg h154] at ejK153
                    obtain rfl := ejK153
                    exact K153 _ _ _ hP hS (lv_sub hl [0, 1, 2, 3, 4, 5, 6, 8] rfl)
                  · rw [if_pos h154] at ejK153
                    refine lv_iload hx hb dL_law_198 (lv_at hl 4 rfl) ?_
                    refine lv_iload hx hb dL_law_200 (lv_at hl 7 rfl) ?_
                    refine lv_iadd hx hb dL_law_202 ?_
                    refine lv_topi (fun x155 ex155 => ?_)
                    replace ejK153 := ltn_s ex155 ejK153
                    refine lv_istore (lv' := [(4, .int x155), (0, .ref b), (1, .ref (xa X 306)), (2, .int x36), (3, .int x145), (5, .int x39), (6, .int x60), (9, .int x70), (10, .int x74)]) hx hb dL_law_203 hl (by decide) rfl (fun ls hl => ?_)
                    obtain rfl := ejK153
                    exact K153 _ _ _ hP hS (lv_sub hl [1, 2, 3, 4, 0, 5, 6, 8] rfl)
              clear hf
              refine lv_if_eq (tgt := 183) hx hb dL_law_172 (by decide) (fun h142 => ?_) (fun h142 => ?_)
              · rw [if_pos h142] at ejK146
                obtain rfl := ejK146
                exact K146 _ _ _ hP hS (lv_sub hl [2, 3, 4, 5, 6, 7, 8, 1, 0] rfl)
              · rw [if_neg h142] at ejK146
                refine lv_iload_n hx hb dL_law_175 rfl (lv_at hl 5 rfl) ?_
                refine lv_iconst (v := 4) hx hb dL_law_176 (by decide) ?_
                refine lv_icmp_ge (tgt := 183) hx hb dL_law_177 (by decide) (fun h147 => ?_) (fun h147 => ?_)
                · rw [if_pos h147] at ejK146
                  obtain rfl := ejK146
                  exact K146 _ _ _ hP hS (lv_sub hl [2, 3, 4, 5, 6, 7, 8, 1, 0] rfl)
                · rw [if_neg h147] at ejK146
                  obtain ⟨x148, ex148⟩ : ∃ y : Int32, y = x37 + 1 := ⟨_, rfl⟩
                  replace ejK146 := ltn_s ex148 ejK146
                  refine lv_iinc (v := x148) (lv' := [(3, .int x148), (10, .int x74), (9, .int x70), (0, .ref b), (1, .ref (xa X 306)), (2, .int x36), (4, .int x38), (5, .int x39), (6, .int x60), (7, .long x62)]) hx hb dL_law_180 hl (k := 5) rfl (by rw [ex148]; rfl) (by decide) rfl (fun ls hl => ?_)
                  obtain rfl := ejK146
                  exact K146 _ _ _ hP hS (lv_sub hl [3, 4, 5, 0, 6, 7, 8, 2, 1] rfl)
            · rw [if_neg h141] at hf
              refine lv_iconst (v := 0) hx hb dL_law_168 (by decide) ?_
              exact absurd (Option.some.inj hf) (by decide)
        clear hf
        refine lv_if_le (tgt := 142) hx hb dL_law_130 (by decide) (fun h67 => ?_) (fun h67 => ?_)
        · rw [if_pos h67] at ejK71
          refine lv_iconst (v := 0) hx hb dL_law_142 (by decide) ?_
          have ejK71 := Option.some.inj ejK71
          obtain rfl := ejK71
          exact K71 _ _ _ hP hS (lv_sub hl [2, 3, 4, 5, 6, 7, 1, 0] rfl)
        · rw [if_neg h67] at ejK71
          refine lv_aload_n hx hb dL_law_133 rfl (lv_at hl 3 rfl) ?_
          refine lv_bipush (v := 7) hx hb dL_law_134 (by decide) ?_
          obtain ⟨x72, hc73, ejK71⟩ := ob1_e ejK71
          refine w_ci ⟨hx, hb, hml, hown, hts⟩ hP hK hS (k8_whole l hX w hc73) hc_8 (w_recv hP hK (by decide) emb_bt rfl) rfl hl.1 rfl (Nat.le_of_ble_eq_true rfl) dL_law_136 ⟨hcl, hsl⟩ (fun H locs hP hS => ?_)
          refine lv_goto (tgt := 143) hx hb dL_law_139 (by decide) ?_
          have ejK71 := Option.some.inj ejK71
          obtain rfl := ejK71
          exact K71 _ _ _ hP hS (lv_sub hl [2, 3, 4, 5, 6, 7, 1, 0] rfl)
  exact L103 N x1 4 0 1 f31 g0 y32 o33 _ _ _ hf hP hS (lv_sub hl [4, 5, 3, 2, 1, 0] rfl)
