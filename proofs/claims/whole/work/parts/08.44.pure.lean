/-! the face, call by call: what-if questions, texts, undo, checksum -/
section FACE
variable {f g c : bkA} {s sv q u tx ow rn nu : Nat → Int32} {rs : Nat → Int64} {y : Nat → bkA} {o : Nat → Int32} {N : Nat}
theorem P_whole (hS : SIMX f s) (hC : CM c tx q) (hN : 100 < N) (a1 : Int32) : ∃ k x x9 q', m8_whole N f c a1 = some (k, x) ∧ m9_whole N s q a1 = some (x9, q') ∧ C2 k (q' 0) ∧ (k = 0 → x9 = x) ∧ ∀ j, j ≠ 0 → q' j = q j := by
  obtain ⟨K, H, D, ls, t, T, h, hT⟩ := hS
  obtain ⟨l, hl, ht, e2⟩ := hC
  unfold m8_whole m9_whole m8_refusalOfValue
  rw [if_neg n10]
  have ein : m9_in a1 0 14 = isN (nI 15) a1 := isN_in (c := 15) (by decide)
  rw [ein, lt1_s]
  rcases isN_cases (c := 15) (a := a1) (by decide) with z | ⟨z, w, hw, ew⟩
  · have c1 : (if a1 < 0 then (2 : Int32) else if a1 < 15 then (0 : Int32) else 2) = 2 := by
      unfold isN at z
      by_cases c : a1 < 0
      · rw [if_pos c]
      · rw [if_neg c] at z ⊢
        by_cases c2 : nI 15 ≤ a1
        · rw [if_neg (show ¬ a1 < 15 from Int32.not_lt.mpr c2)]
        · rw [if_neg c2] at z
          exact absurd z n10
    refine ⟨2, 0, 0, upd q 0 1, ?_, ?_, Or.inr ⟨rfl, pk_us⟩, fun _ => rfl, fun j hj => pk_un hj⟩
    · rw [c1, if_pos (by decide)]
    · rw [z, lt1_s, if_pos rfl, lt1_s, ltx_s, pk_us, if_neg (by decide)]
  · have c1 : (if a1 < 0 then (2 : Int32) else if a1 < 15 then (0 : Int32) else 2) = 0 := by
      rw [ew, if_neg (nI_pos (by omega)), if_pos (show nI w < 15 from nI_lt (b := 15) hw (by decide))]
    have v : ∃ v, m8_valueOfWhole N f c a1 = some v ∧ m9_wholeValue N s (upd q 0 0) a1 = some v := by
      unfold m8_valueOfWhole
      rw [ew]
      by_cases e : w = 14
      · subst e
        refine ⟨q 2, ?_, ?_⟩
        · rw [if_pos (show nI 14 = 14 from rfl), lt1_s, m0_length, ht.2, e2]
        · unfold m9_wholeValue
          rw [if_neg (by decide), if_neg (by decide), if_neg (by decide), if_neg (by decide), if_neg (by decide), if_neg (by decide), if_neg (by decide), if_neg (by decide), if_neg (by decide), if_neg (by decide), if_neg (by decide), if_neg (by decide), if_neg (by decide), if_neg (by decide), pk_un (by decide)]
      · obtain ⟨v, v1, v2⟩ := S_wholeVal (N := N) (q := upd q 0 0) (w := w) h (by omega) hN
        refine ⟨v, ?_, v2⟩
        rw [if_neg (show ¬ nI w = 14 from fun x => e ((nI_eq (by omega) (by decide)).mp x)), v1, ob1_s]
    obtain ⟨v, v1, v2⟩ := v
    refine ⟨0, v, v, upd q 0 0, ?_, ?_, Or.inl ⟨rfl, pk_us⟩, fun _ => rfl, fun j hj => pk_un hj⟩
    · rw [c1, if_neg (by decide), v1, ob1_s]
    · rw [z, lt1_s, if_neg n10, lt1_s, ltx_s, pk_us, if_pos (by decide), v2, ob1_s]
theorem P_line (hS : SIMX f s) (a1 : Int32) : ∃ k x x9 q', m8_line f a1 = some (k, x) ∧ m9_line s q a1 = some (x9, q') ∧ C2 k (q' 0) ∧ (k = 0 → x9 = x) ∧ ∀ j, j ≠ 0 → q' j = q j := by
  obtain ⟨K, H, D, ls, t, T, h, hT⟩ := hS
  unfold m8_line m9_line
  by_cases c : 0 ≤ a1
  · refine ⟨0, m7_doughInLine f a1, m7_doughInLine f a1, upd q 0 0, ?_, ?_, Or.inl ⟨rfl, pk_us⟩, fun _ => rfl, fun j hj => pk_un hj⟩
    · rw [if_pos c, lt1_s, if_neg (by decide), lt1_s]
    · rw [if_pos c, lt1_s, ltx_s, pk_us, if_pos (by decide)]
      exact S_line (q := upd q 0 0) h (Int32.not_lt.mpr c)
  · refine ⟨2, 0, 0, upd q 0 1, ?_, ?_, Or.inr ⟨rfl, pk_us⟩, fun _ => rfl, fun j hj => pk_un hj⟩
    · rw [if_neg c, lt1_s, if_pos (by decide)]
    · rw [if_neg c, lt1_s, ltx_s, pk_us, if_neg (by decide)]
theorem P_reason (hS : SIMX f s) (hN : 100 < N) (a1 : Int32) : ∃ k x x9 q', m8_reason N f a1 = some (k, x) ∧ m9_reason N s q a1 = some (x9, q') ∧ C1 k (q' 0) ∧ (k = 0 → x9 = x) ∧ ∀ j, j ≠ 0 → q' j = q j := by
  obtain ⟨K, H, D, ls, t, T, h, hT⟩ := hS
  obtain ⟨s1, s2⟩ := S_isDough h a1
  have hD : D ≤ 16 := h.1.1.2.2.2.2.2.2.2.2.1
  unfold m8_reason m9_reason
  rw [s1, s2, lt1_s, ob1_s]
  rcases isN_cases (c := D) (a := a1) (by omega) with z | ⟨z, b, hb, eb⟩
  · rw [z, if_pos rfl, lt1_s, lt1_s, ltx_s]
    refine ⟨1, 0, 0, upd q 0 1, ?_, ?_, Or.inr ⟨rfl, pk_us⟩, fun _ => rfl, fun j hj => pk_un hj⟩
    · rw [if_pos (by decide)]
    · rw [pk_us, if_neg (by decide)]
  · obtain ⟨v, v1, v2⟩ := S_reasonNow (N := N) h hb hN
    rw [z, if_neg n10, lt1_s, lt1_s, ltx_s]
    refine ⟨0, v, v, upd q 0 0, ?_, ?_, Or.inl ⟨rfl, pk_us⟩, fun _ => rfl, fun j hj => pk_un hj⟩
    · rw [if_neg (by decide), eb, v1, ob1_s]
    · rw [pk_us, if_pos (by decide), eb, v2, ob1_s]
theorem P_loadedIn (hS : SIMX f s) (hN : 400 < N) (a1 : Int32) : ∃ k x g' x9 u' q', m8_loadedIn N f g a1 = some (k, x, g') ∧ m9_loadedIn N s u q a1 = some (x9, u', q') ∧ C1 k (q' 0) ∧ (k = 0 → x9 = x) ∧ ∀ j, j ≠ 0 → q' j = q j := by
  obtain ⟨K, H, D, ls, t, T, h, hT⟩ := hS
  obtain ⟨s1, s2⟩ := S_isDough h a1
  have hD : D ≤ 16 := h.1.1.2.2.2.2.2.2.2.2.1
  unfold m8_loadedIn m9_loadedIn
  rw [s1, s2, lt1_s, ob1_s]
  rcases isN_cases (c := D) (a := a1) (by omega) with z | ⟨z, b, hb, eb⟩
  · rw [z, if_pos rfl, lt1_s, lt1_s, lt1_s, ltx_s]
    refine ⟨1, 0, g, 0, u, upd q 0 1, ?_, ?_, Or.inr ⟨rfl, pk_us⟩, fun _ => rfl, fun j hj => pk_un hj⟩
    · rw [if_pos (by decide)]
    · rw [pk_us, if_neg (by decide)]
  · obtain ⟨u1, b1, b2⟩ := S_tryNow (r := s) (u := u) (N := N) (by omega)
    have hU := SIM_cp h b2
    rw [z, if_neg n10, lt1_s, lt1_s, lt1_s, ltx_s, eb, S_isWaiting h hb, b1, ob1_s]
    by_cases c0 : f 15 b = nI 0
    · obtain ⟨x, g', u', z1, z2⟩ := loadedL (N := N) (d := b) (a := nI b) (by omega) rfl (upd q 0 0) 60 N 1 f u1 K H D t T ls rfl (by omega) hU (by omega) hb c0
      refine ⟨0, x, g', x, u', upd q 0 0, ?_, ?_, Or.inl ⟨rfl, pk_us⟩, fun _ => rfl, fun j hj => pk_un hj⟩
      · rw [if_neg (by decide), if_pos (show f 15 b = 0 from c0), if_neg n10]
        exact z1
      · rw [pk_us, if_pos (by decide)]
        exact z2
    · refine ⟨0, -1, g, -1, u1, upd q 0 0, ?_, ?_, Or.inl ⟨rfl, pk_us⟩, fun _ => rfl, fun j hj => pk_un hj⟩
      · rw [if_neg (by decide), if_neg (show ¬ f 15 b = 0 from c0), if_pos rfl]
      · rw [pk_us, if_pos (by decide)]
        cases N with
        | zero => omega
        | succ n => rw [m9_loadedIn_L32, if_neg (by decide), a9_of4 (by omega), ob1_s, RG_15 hU.2.1 (by omega), if_neg (show ¬ f 15 b = 0 from c0)]
theorem P_neededLogs (hS : SIMX f s) (hN : 400 < N) (a1 : Int32) : ∃ k x x9 u' q', m8_neededLogs N f a1 = some (k, x) ∧ m9_neededLogs N s u q a1 = some (x9, u', q') ∧ C1 k (q' 0) ∧ (k = 0 → x9 = x) ∧ ∀ j, j ≠ 0 → q' j = q j := by
  obtain ⟨K, H, D, ls, t, T, h, hT⟩ := hS
  obtain ⟨s1, s2⟩ := S_isDough h a1
  have hD : D ≤ 16 := h.1.1.2.2.2.2.2.2.2.2.1
  unfold m8_neededLogs m9_neededLogs
  rw [s1, s2, lt1_s, ob1_s]
  rcases isN_cases (c := D) (a := a1) (by omega) with z | ⟨z, b, hb, eb⟩
  · rw [z, if_pos rfl, lt1_s, lt1_s, ltx_s]
    refine ⟨1, 0, 0, u, upd q 0 1, ?_, ?_, Or.inr ⟨rfl, pk_us⟩, fun _ => rfl, fun j hj => pk_un hj⟩
    · rw [if_pos (by decide)]
    · rw [pk_us, if_pos (by decide), if_neg (by decide)]
  · obtain ⟨u1, b1, b2⟩ := S_tryNow (r := s) (u := u) (N := N) (by omega)
    have hU := SIM_cp h b2
    rw [z, if_neg n10, lt1_s, lt1_s, ltx_s, eb]
    unfold m7_fewestLogsFor
    rw [S_isWaiting h hb, lt1_s, pk_us, if_neg (by decide), a9_of4 (by omega), ob1_s, RG_15 h.2.1 (by omega)]
    by_cases c0 : f 15 b = 0
    · obtain ⟨x, u', z1, z2⟩ := S_logs (u := u1) (N := N) (q := upd q 0 0) h hb (fun j i hj hi => RG_a hU.2.1 (by omega) hi (by omega)) (by omega)
      refine ⟨0, x, x, u', upd q 0 0, ?_, ?_, Or.inl ⟨rfl, pk_us⟩, fun _ => rfl, fun j hj => pk_un hj⟩
      · rw [if_pos c0, if_neg n10, z1, ob1_s]
      · rw [if_pos c0, b1, ob1_s, z2, if_neg (by decide)]
    · refine ⟨0, -1, -1, u, upd q 0 0, ?_, ?_, Or.inl ⟨rfl, pk_us⟩, fun _ => rfl, fun j hj => pk_un hj⟩
      · rw [if_neg c0, if_pos rfl, ob1_s]
      · rw [if_neg c0, if_neg (by decide), if_pos (by decide)]
theorem tick_code {a1 : Int32} : ((if a1 < 0 then (2 : Int32) else if a1 ≤ 100 then (0 : Int32) else 2) = 2 ∧ m9_in a1 0 100 = 0) ∨ ((if a1 < 0 then (2 : Int32) else if a1 ≤ 100 then (0 : Int32) else 2) = 0 ∧ m9_in a1 0 100 = 1 ∧ ∃ m, m ≤ 100 ∧ a1 = nI m) := by
  unfold m9_in
  by_cases c : a1 < 0
  · left
    rw [if_pos c, if_pos c]
    exact ⟨rfl, rfl⟩
  · rw [if_neg c, if_neg c]
    by_cases c2 : a1 ≤ 100
    · right
      rw [if_pos c2, if_neg (Int32.not_lt.mpr c2)]
      obtain ⟨m, hm, e⟩ := nI_of c
      subst e
      exact ⟨rfl, rfl, m, (nI_leI (b := 100) hm (by decide)).mp c2, rfl⟩
    · left
      rw [if_neg c2, if_pos (Int32.not_le.mp c2)]
      exact ⟨rfl, rfl⟩
theorem P_heatIn (hS : SIMX f s) (hN : 400 < N) (a1 : Int32) : ∃ k x g' x9 u' q', m8_heatIn N f g a1 = some (k, x, g') ∧ m9_heatIn N s u q a1 = some (x9, u', q') ∧ C2 k (q' 0) ∧ (k = 0 → x9 = x) ∧ ∀ j, j ≠ 0 → q' j = q j := by
  obtain ⟨K, H, D, ls, t, T, h, hT⟩ := hS
  unfold m8_heatIn m9_heatIn
  rcases tick_code (a1 := a1) with ⟨c1, c2⟩ | ⟨c1, c2, m, hm, em⟩
  · refine ⟨2, 0, g, 0, u, upd q 0 1, ?_, ?_, Or.inr ⟨rfl, pk_us⟩, fun _ => rfl, fun j hj => pk_un hj⟩
    · rw [c1, lt1_s, if_pos (by decide)]
    · rw [c2, lt1_s, if_pos rfl, lt1_s, ltx_s, pk_us, if_neg (by decide)]
  · obtain ⟨x, g', u', z1, z2⟩ := S_heatAfter (N := N) (g := g) (u := u) (m := m) h hm (by omega) (by omega)
    refine ⟨0, x, g', x, u', upd q 0 0, ?_, ?_, Or.inl ⟨rfl, pk_us⟩, fun _ => rfl, fun j hj => pk_un hj⟩
    · rw [c1, lt1_s, if_neg (by decide), em, z1, ob2_s]
    · rw [c2, lt1_s, if_neg n10, lt1_s, ltx_s, pk_us, if_pos (by decide), em, z2, ob2_s]
theorem P_spoiledIn (hS : SIMX f s) (hN : 400 < N) (a1 : Int32) : ∃ k x g' x9 u' q', m8_spoiledIn N f g a1 = some (k, x, g') ∧ m9_spoiledIn N s u q a1 = some (x9, u', q') ∧ C2 k (q' 0) ∧ (k = 0 → x9 = x) ∧ ∀ j, j ≠ 0 → q' j = q j := by
  obtain ⟨K, H, D, ls, t, T, h, hT⟩ := hS
  unfold m8_spoiledIn m9_spoiledIn
  rcases tick_code (a1 := a1) with ⟨c1, c2⟩ | ⟨c1, c2, m, hm, em⟩
  · refine ⟨2, 0, g, 0, u, upd q 0 1, ?_, ?_, Or.inr ⟨rfl, pk_us⟩, fun _ => rfl, fun j hj => pk_un hj⟩
    · rw [c1, lt1_s, if_pos (by decide)]
    · rw [c2, lt1_s, if_pos rfl, lt1_s, ltx_s, pk_us, if_neg (by decide)]
  · obtain ⟨x, cc, g', yy, zz, u', z1, z2, z3, z4, z5, z6⟩ := S_spoiledIn (N := N) (u := u) (m := m) h hm (by omega) (by omega)
    refine ⟨0, x, g', x, u', upd q 0 0, ?_, ?_, Or.inl ⟨rfl, pk_us⟩, fun _ => rfl, fun j hj => pk_un hj⟩
    · rw [c1, lt1_s, if_neg (by decide), em, z1, ob2_s, z2, ob1_s, z3, ob1_s, z4]
    · rw [c2, lt1_s, if_neg n10, lt1_s, ltx_s, pk_us, if_pos (by decide), em, z5, ob1_s, z6, ob1_s]
theorem P_owes (hS : SIMX f s) (hN : 400 < N) (a1 : Int32) : ∃ k x x9 ow' rs' q', m8_owes N f a1 = some (k, x) ∧ m9_owes N s ow rs q a1 = some (x9, ow', rs', q') ∧ C1 k (q' 0) ∧ (k = 0 → x9 = x) ∧ ∀ j, j ≠ 0 → q' j = q j := by
  obtain ⟨K, H, D, ls, t, T, h, hT⟩ := hS
  obtain ⟨s1, s2⟩ := S_isHouse h a1
  have hH : H ≤ 8 := h.1.1.2.2.2.2.2.2.2.1
  unfold m8_owes m9_owes
  rw [s1, s2, lt1_s, ob1_s]
  rcases isN_cases (c := H) (a := a1) (by omega) with z | ⟨z, b, hb, eb⟩
  · rw [z, if_pos rfl, lt1_s, lt1_s, ltx_s]
    refine ⟨1, 0, 0, ow, rs, upd q 0 1, ?_, ?_, Or.inr ⟨rfl, pk_us⟩, fun _ => rfl, fun j hj => pk_un hj⟩
    · rw [if_pos (by decide)]
    · rw [pk_us, if_neg (by decide)]
  · obtain ⟨v, ow', rs', v1, v2⟩ := S_owesNow (N := N) h hb (by omega) (by omega) ow rs
    rw [z, if_neg n10, lt1_s, lt1_s, ltx_s]
    refine ⟨0, v, v, ow', rs', upd q 0 0, ?_, ?_, Or.inl ⟨rfl, pk_us⟩, fun _ => rfl, fun j hj => pk_un hj⟩
    · rw [if_neg (by decide), eb, v1, ob1_s]
    · rw [pk_us, if_pos (by decide), eb, v2, ob3_s]
theorem P_type (hC : CM c tx q) (a1 : Int32) : ∃ k x c' x9 tx' q', m8_type c a1 = some (k, x, c') ∧ m9_type tx q a1 = some (x9, tx', q') ∧ C23 k (q' 0) ∧ (k = 0 → x9 = x) ∧ CM c' tx' q' ∧ q' 1 = q 1 := by
  obtain ⟨l, hl, ht, e2⟩ := id hC
  unfold m8_type m9_type m0_refusalOfByte m9_in
  by_cases c1 : a1 < 0
  · rw [if_pos c1, if_pos c1, lt1_s, lt1_s, if_pos rfl, lt1_s, ltx_s]
    refine ⟨2, 0, c, 0, tx, upd q 0 1, ?_, ?_, Or.inr (Or.inl ⟨rfl, pk_us⟩), fun _ => rfl, ⟨l, hl, ht, by rw [pk_un (by decide)]; exact e2⟩, pk_un (by decide)⟩
    · rw [if_pos (by decide)]
    · rw [pk_us, if_neg (by decide)]
  · rw [if_neg c1, if_neg c1]
    by_cases c2 : a1 ≤ 127
    · rw [if_pos c2, if_neg (Int32.not_lt.mpr c2), lt1_s, lt1_s, if_neg n10, ht.2, e2]
      by_cases c3 : l = 150
      · subst c3
        rw [if_neg (show ¬ nI 150 < 150 by decide), if_pos (show nI 150 = 150 from rfl), lt1_s, ltx_s]
        refine ⟨3, 0, c, 0, tx, upd q 0 2, ?_, ?_, Or.inr (Or.inr ⟨rfl, pk_us⟩), fun _ => rfl, ⟨150, hl, ht, by rw [pk_un (by decide)]; exact e2⟩, pk_un (by decide)⟩
        · rw [if_pos (by decide)]
        · rw [pk_us, if_neg (by decide)]
      · have q2 : upd q 0 0 2 = nI l := by rw [pk_un (by decide)]; exact e2
        rw [if_pos (show nI l < 150 from nI_lt (b := 150) (by omega) (by decide)), if_neg (show ¬ nI l = 150 from fun e => c3 ((nI_eq (b := 150) (by omega) (by decide)).mp e)), lt1_s, ltx_s]
        refine ⟨0, nI (l+1), wr (wr c 0 l a1) 2 0 (nI (l+1)), nI (l+1), upd tx l a1, upd (upd q 0 0) 2 (nI (l+1)), ?_, ?_, Or.inl ⟨rfl, by rw [pk_un (by decide)]; exact pk_us⟩, fun _ => rfl, ⟨l+1, by omega, ⟨?_, wr_s⟩, pk_us⟩, ?_⟩
        · unfold m0_append
          rw [if_neg (by decide), ht.2, wr_put (by omega) (by decide), ltx_s, wr_n (show (2 : Nat) ≠ 0 by decide), ht.2, nI_1]
          have e5 : ur (wr c 0 l a1) 2 (upd (c 2) 0 (nI (l + 1))) = wr (wr c 0 l a1) 2 0 (nI (l + 1)) := by
            unfold wr
            rw [ur_n (show (2 : Nat) ≠ 0 by decide)]
          rw [e5, ltx_s, wr_s, lt2_s]
        · rw [pk_us, if_pos (by decide), q2, ck_nI (by omega) (by decide), nI_clamp (by omega), ltx_s, nI_1, ltx_s, pk_us]
        · intro i hi
          rw [wr_n (by decide)]
          by_cases ei : i = l
          · subst ei
            rw [wr_s, pk_us]
          · rw [wr_i ei, pk_un ei]
            exact ht.1 i (by omega)
        · rw [pk_un (by decide), pk_un (by decide)]
    · rw [if_neg c2, if_pos (Int32.not_le.mp c2), lt1_s, lt1_s, if_pos rfl, lt1_s, ltx_s]
      refine ⟨2, 0, c, 0, tx, upd q 0 1, ?_, ?_, Or.inr (Or.inl ⟨rfl, pk_us⟩), fun _ => rfl, ⟨l, hl, ht, by rw [pk_un (by decide)]; exact e2⟩, pk_un (by decide)⟩
      · rw [if_pos (by decide)]
      · rw [pk_us, if_neg (by decide)]
theorem P_clearCommands (hC : CM c tx q) : ∃ x c' q', m8_clearCommands c = (x, c') ∧ m9_clearCommands q = (x, q') ∧ CM c' tx q' ∧ q' 1 = q 1 := by
  obtain ⟨l, hl, ht, e2⟩ := id hC
  refine ⟨nI l, wr c 2 0 (nI 0), upd (upd q 0 0) 2 (nI 0), ?_, ?_, ⟨0, by omega, ⟨fun i hi => absurd hi (by omega), wr_s⟩, pk_us⟩, ?_⟩
  · unfold m8_clearCommands m0_empty
    rw [ht.2, ltx_s, ltx_s, lt2_s]
    rfl
  · unfold m9_clearCommands
    rw [ltx_s, pk_un (show (2 : Nat) ≠ 0 by decide), e2, ltx_s, ltx_s]
    rfl
  · rw [pk_un (by decide), pk_un (by decide)]
theorem P_undo (hS : SIMX f s) (hH : HS y o sv q) (hN : 1100 < N) : ∃ k x f' o' x9 s' q', m8_undo f y o = some (k, x, f', o') ∧ m9_undo N s sv q = some (x9, s', q') ∧ C3 k (q' 0) ∧ (k = 0 → x9 = x) ∧ SIMX f' s' ∧ HS y o' sv q' ∧ q' 2 = q 2 := by
  obtain ⟨c, hc, o1, q1, hu⟩ := S_undo (f := f) (s := s) (N := N) hH hN
  unfold m8_undo m9_undo m2_size
  rw [o1, q1, lt1_s, lt1_s]
  by_cases c0 : c = 0
  · subst c0
    rw [if_pos (show nI 0 = 0 from rfl), lt1_s, if_pos (show nI 0 = 0 from rfl), ltx_s]
    refine ⟨3, 0, f, o, 0, s, upd q 0 1, ?_, ?_, Or.inr ⟨rfl, pk_us⟩, fun _ => rfl, hS, HS_q hH (pk_un (by decide)), pk_un (by decide)⟩
    · rw [if_pos (by decide)]
    · rw [pk_us, if_neg (by decide)]
  · have nc : ¬ nI c = 0 := fun e => c0 ((nI_eq (b := 0) (by omega) (by decide)).mp e)
    obtain ⟨f', o', a1, a2, a3⟩ := hu (by omega)
    have em : nI c - 1 = nI (c - 1) := pk_sub (b := 1) (by omega)
    have q01 : upd q 0 0 1 = nI c := by rw [pk_un (by decide)]; exact q1
    obtain ⟨s', b1, b2, b3⟩ := a3 (upd (upd q 0 0) 1 (nI (c - 1))) pk_us
    rw [if_neg nc, lt1_s, if_neg nc, ltx_s]
    refine ⟨0, nI (c-1), f', o', nI (c-1), s', upd (upd q 0 0) 1 (nI (c - 1)), ?_, ?_, Or.inl ⟨rfl, by rw [pk_un (by decide)]; exact pk_us⟩, fun _ => rfl, b2, b3, by rw [pk_un (by decide), pk_un (by decide)]⟩
    · rw [if_neg (by decide), a1, ob2_s, a2, lt1_s]
    · rw [pk_us, if_pos (by decide), q01, em, ltx_s, b1, ob1_s, pk_us]
theorem P_digest (hS : SIMX f s) (hH : HS y o sv q) (hC : CM c tx q) (hN : 400 < N) : ∃ x g' u' ow' rs', m8_digest N f g c o = some (x, g') ∧ m9_digest N s u ow rs q = some (x, u', ow', rs', upd q 0 0) := by
  obtain ⟨K, H, D, ls, t, T, h, hT⟩ := hS
  obtain ⟨l, hl, ht, e2⟩ := hC
  obtain ⟨a, cc, h1, h2, h3, h4, h5, h6⟩ := hH
  exact S_digest h (by omega) (by omega) (by rw [ht.2, e2]) (by rw [h4, h5]) ow rs
end FACE
