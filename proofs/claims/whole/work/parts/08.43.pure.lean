/-! the face, call by call: the class's answers and the model's -/
theorem HS_q {y : Nat → bkA} {o sv q q' : Nat → Int32} (h : HS y o sv q) (e : q' 1 = q 1) : HS y o sv q' := by
  obtain ⟨a, c, h1, h2, h3, h4, h5, h6⟩ := h
  exact ⟨a, c, h1, h2, h3, h4, e.trans h5, h6⟩
def C12 (x y : Int32) : Prop := (x = 0 ∧ y = 0) ∨ (x = 1 ∧ y = 1) ∨ (x = 2 ∧ y = 2)
def C1 (x y : Int32) : Prop := (x = 0 ∧ y = 0) ∨ (x = 1 ∧ y = 1)
def C2 (x y : Int32) : Prop := (x = 0 ∧ y = 0) ∨ (x = 2 ∧ y = 1)
/-- what is refused changes nothing; else the state is saved and the call does its work -/
def GO {α : Type} (R : Int32 → Int32 → Prop) (f : bkA) (s sv q : Nat → Int32) (y : Nat → bkA) (o : Nat → Int32) (A : Option (Int32 × Int32 × bkA × (Nat → bkA) × (Nat → Int32))) (B : Option (Int32 × (Nat → Int32) × (Nat → Int32) × (Nat → Int32))) (_ : α) : Prop := ∃ k x f' y' o' x9 s' sv' q', A = some (k, x, f', y', o') ∧ B = some (x9, s', sv', q') ∧ R k (q' 0) ∧ (k = 0 → x9 = x) ∧ SIMX f' s' ∧ HS y' o' sv' q' ∧ q' 2 = q 2
theorem go {R : Int32 → Int32 → Prop} {f : bkA} {s sv q : Nat → Int32} {y : Nat → bkA} {o : Nat → Int32} {N : Nat} {x yc : Int32} (hS : SIMX f s) (hH : HS y o sv q) (hN : 1100 < N) (hR : R x yc) (hc : (x = 0 ∧ yc = 0) ∨ ((x = 1 ∨ x = 2 ∨ x = 3) ∧ ¬ yc ≤ 0)) (X : Option (Int32 × bkA)) (Y : Option (Int32 × (Nat → Int32))) (hok : x = 0 → ∃ v f' s', X = some (v, f') ∧ Y = some (v, s') ∧ SIMX f' s') : GO R f s sv q y o (if x = 1 ∨ x = 2 ∨ x = 3 then some (x, 0, f, y, o) else ob2 (m2_save f y o) fun y4 o5 => ob2 X fun x7 f8 => some ((0 : Int32), x7, f8, y4, o5)) (if (upd q 0 yc) 0 ≤ 0 then ob2 (m9_save N s sv (upd q 0 yc)) fun sv5 q6 => ob2 Y fun x8 s9 => some (x8, s9, sv5, q6) else some (0, s, sv, upd q 0 yc)) () := by
  have hH' : HS y o sv (upd q 0 yc) := HS_q hH (pk_un (by decide))
  rcases hc with ⟨hx, hy⟩ | ⟨hx, hy⟩
  · obtain ⟨v, f', s', a1, a2, a3⟩ := hok hx
    obtain ⟨y', o', sv', q', b1, b2, b3, b4⟩ := S_save (N := N) hH' hS hN
    refine ⟨0, v, f', y', o', v, s', sv', q', ?_, ?_, ?_, fun _ => rfl, a3, b3, ?_⟩
    · rw [if_neg (by rw [hx]; decide), b1, ob2_s, a1, ob2_s]
    · rw [pk_us, hy, if_pos (Int32.le_refl _), ← hy, b2, ob2_s, a2, ob2_s]
    · rw [b4 0 (by decide), pk_us, ← hx]
      exact hR
    · rw [b4 2 (by decide), pk_un (by decide)]
  · refine ⟨x, 0, f, y, o, 0, s, sv, upd q 0 yc, ?_, ?_, ?_, fun _ => rfl, hS, hH', pk_un (by decide)⟩
    · rw [if_pos hx]
    · rw [pk_us, if_neg hy]
    · rw [pk_us]
      exact hR
theorem C23_go {x y : Int32} (h : C23 x y) : (x = 0 ∧ y = 0) ∨ ((x = 1 ∨ x = 2 ∨ x = 3) ∧ ¬ y ≤ 0) := by
  rcases h with ⟨h1, h2⟩ | ⟨h1, h2⟩ | ⟨h1, h2⟩
  · exact Or.inl ⟨h1, h2⟩
  · right; rw [h1, h2]; decide
  · right; rw [h1, h2]; decide
theorem C123_go {x y : Int32} (h : C123 x y) : (x = 0 ∧ y = 0) ∨ ((x = 1 ∨ x = 2 ∨ x = 3) ∧ ¬ y ≤ 0) := by
  rcases h with ⟨h1, h2⟩ | ⟨h1, h2⟩ | ⟨h1, h2⟩ | ⟨h1, h2⟩
  · exact Or.inl ⟨h1, h2⟩
  · right; rw [h1, h2]; decide
  · right; rw [h1, h2]; decide
  · right; rw [h1, h2]; decide
theorem C3_go {x y : Int32} (h : C3 x y) : (x = 0 ∧ y = 0) ∨ ((x = 1 ∨ x = 2 ∨ x = 3) ∧ ¬ y ≤ 0) := by
  rcases h with ⟨h1, h2⟩ | ⟨h1, h2⟩
  · exact Or.inl ⟨h1, h2⟩
  · right; rw [h1, h2]; decide
section FACE
variable {f g c : bkA} {s sv q u tx ow rn nu : Nat → Int32} {rs : Nat → Int64} {y : Nat → bkA} {o : Nat → Int32} {N : Nat}
theorem P_addKind (hS : SIMX f s) (hH : HS y o sv q) (hN : 1100 < N) (a1 a2 a3 a4 a5 : Int32) : GO C23 f s sv q y o (m8_addKind f y o a1 a2 a3 a4 a5) (m9_addKind N s sv q a1 a2 a3 a4 a5) () := by
  obtain ⟨K, H, D, ls, t, T, h, hT⟩ := id hS
  obtain ⟨yc, hy, hC, hA⟩ := S_kindCode h a1 a2 a3 a4 a5
  have z := go (N := N) hS hH hN hC (C23_go hC) (some (m7_newKind f a1 a2 a3 a4 a5)) (m9_addKindNow s a1 a2 a3 a4 a5) (fun hx => by
    obtain ⟨f', r', b1, b2, b3⟩ := S_newKind h (hA hx) a1 a2 a3 a4 a5
    exact ⟨_, f', r', by rw [b1], b2, _, _, _, _, _, _, b3, hT⟩)
  unfold m8_addKind m9_addKind
  rw [hy, ob1_s, lt1_s, ltx_s]
  exact z
theorem P_addHouse (hS : SIMX f s) (hH : HS y o sv q) (hN : 1100 < N) : GO C3 f s sv q y o (m8_addHouse f y o) (m9_addHouse N s sv q) () := by
  obtain ⟨K, H, D, ls, t, T, h, hT⟩ := id hS
  obtain ⟨yc, hy, hC, hA⟩ := S_houseCode h
  have z := go (N := N) hS hH hN hC (C3_go hC) (some (m7_newHouse f)) (m9_addHouseNow N s) (fun hx => by
    obtain ⟨f', r', b1, b2, b3⟩ := S_newHouse (N := N) h (hA hx) (by omega)
    exact ⟨_, f', r', by rw [b1], b2, _, _, _, _, _, _, b3, hT⟩)
  unfold m8_addHouse m9_addHouse
  rw [c9_3, hy, lt1_s, lt1_s, ltx_s]
  exact z
theorem P_addDough (hS : SIMX f s) (hH : HS y o sv q) (hN : 1100 < N) (a1 a2 a3 : Int32) : GO C123 f s sv q y o (m8_addDough f y o a1 a2 a3) (m9_addDough N s sv q a1 a2 a3) () := by
  obtain ⟨K, H, D, ls, t, T, h, hT⟩ := id hS
  obtain ⟨yc, hy, hC, hA⟩ := S_doughCode h a1 a2 a3
  have z := go (N := N) hS hH hN hC (C123_go hC) (some (m7_newDough f a1 a2 a3)) (m9_addDoughNow s a1 a2 a3) (fun hx => by
    obtain ⟨hD16, b1, b2, b3, hb1, eb1, hb2, eb2, hb3, hb4, eb3⟩ := hA hx
    obtain ⟨f', r', d1, d2, d3⟩ := S_newDough h hD16 hb1 hb2 hb3 hb4
    rw [← eb1, ← eb2, ← eb3] at d1 d2
    exact ⟨_, f', r', by rw [d1], d2, _, _, _, _, _, _, d3, hT⟩)
  unfold m8_addDough m9_addDough
  rw [hy, ob1_s, lt1_s, ltx_s]
  exact z
theorem P_swap (hS : SIMX f s) (hH : HS y o sv q) (hN : 1100 < N) (a1 a2 : Int32) : GO C123 f s sv q y o (m8_swap N f y o a1 a2) (m9_swap N s sv q a1 a2) () := by
  obtain ⟨K, H, D, ls, t, T, h, hT⟩ := id hS
  obtain ⟨yc, hy, hC, hA⟩ := S_swapCode h a1 a2
  have z := go (N := N) hS hH hN hC (C123_go hC) (m7_exchange N f a1 a2) (m9_swapNow N s a1 a2) (fun hx => by
    obtain ⟨b1, b2, hb1, eb1, hb2, eb2, hne⟩ := hA hx
    obtain ⟨v, f', r', ls', d1, d2, d3⟩ := S_exchange (N := N) h hb1 hb2 hne (by omega)
    rw [← eb1, ← eb2] at d1 d2
    exact ⟨_, f', r', d1, d2, _, _, _, _, _, _, d3, hT⟩)
  unfold m8_swap m9_swap
  rw [hy, ob1_s, lt1_s, ltx_s]
  exact z
theorem P_bring (hS : SIMX f s) (hH : HS y o sv q) (hN : 1100 < N) (a1 a2 : Int32) : GO C123 f s sv q y o (m8_bring f y o a1 a2) (m9_bring N s sv q a1 a2) () := by
  obtain ⟨K, H, D, ls, t, T, h, hT⟩ := id hS
  obtain ⟨yc, hy, hC, hA⟩ := S_bringCode h a1 a2
  have z := go (N := N) hS hH hN hC (C123_go hC) (some (m7_takeLogs f a1 a2)) (m9_bringNow s a1 a2) (fun hx => by
    obtain ⟨b1, hb1, eb1⟩ := hA hx
    obtain ⟨v, f', r', d1, d2, d3⟩ := S_takeLogs h hb1 a2
    rw [← eb1] at d1 d2
    exact ⟨_, f', r', by rw [d1], d2, _, _, _, _, _, _, d3, hT⟩)
  unfold m8_bring m9_bring
  rw [hy, ob1_s, lt1_s, ltx_s]
  exact z
theorem P_stoke (hS : SIMX f s) (hH : HS y o sv q) (hN : 1100 < N) (a1 a2 : Int32) : GO C123 f s sv q y o (m8_stoke f y o a1 a2) (m9_stoke N s sv q a1 a2) () := by
  obtain ⟨K, H, D, ls, t, T, h, hT⟩ := id hS
  obtain ⟨yc, hy, hC, hA⟩ := S_stokeCode h a1 a2
  have z := go (N := N) hS hH hN hC (C123_go hC) (some (m7_burnLogs f a1 a2)) (m9_stokeNow s a1 a2) (fun hx => by
    obtain ⟨b1, b2, hb1, eb1, hb2, hb3, eb2, ht2⟩ := hA hx
    obtain ⟨v, f', r', d1, d2, d3⟩ := S_burnLogs h hb1 hb3 ht2
    rw [← eb1, ← eb2] at d1 d2
    exact ⟨_, f', r', by rw [d1], d2, _, _, _, _, _, _, d3, hT⟩)
  unfold m8_stoke m9_stoke
  rw [hy, ob1_s, lt1_s, ltx_s]
  exact z
theorem P_pass (hS : SIMX f s) (hH : HS y o sv q) (hN : 1100 < N) (a1 : Int32) : GO C23 f s sv q y o (m8_pass N f y o a1) (m9_pass N s sv q a1) () := by
  obtain ⟨K, H, D, ls, t, T, h, hT⟩ := id hS
  obtain ⟨yc, hy, hC, hA⟩ := S_passCode h hT a1
  have z := go (N := N) hS hH hN hC (C23_go hC) (m7_passTicks N f a1) (m9_passNow N s a1) (fun hx => by
    obtain ⟨b1, hb1, hb2, eb1, hb3⟩ := hA hx
    obtain ⟨v, f', r', ls', t', d1, d2, d3, d4⟩ := S_pass (N := N) h hb2 (by omega) (by omega)
    rw [← eb1] at d1 d2
    exact ⟨_, f', r', d1, d2, _, _, _, _, _, _, d3, hb3⟩)
  unfold m8_pass m9_pass
  rw [hy, ob1_s, lt1_s, ltx_s]
  exact z
theorem P_clear (hS : SIMX f s) (hH : HS y o sv q) (hN : 1100 < N) : ∃ x f' y' o' s' sv' rn' q', m8_clearDoughs N f y o = some (x, f', y', o') ∧ m9_clearDoughs N s sv rn q = some (x, s', sv', rn', q') ∧ SIMX f' s' ∧ HS y' o' sv' q' ∧ q' 2 = q 2 := by
  obtain ⟨K, H, D, ls, t, T, h, hT⟩ := id hS
  have hH' : HS y o sv (upd q 0 0) := HS_q hH (pk_un (by decide))
  obtain ⟨y', o', sv', q', b1, b2, b3, b4⟩ := S_save (N := N) hH' hS hN
  obtain ⟨x, f', r', s1, s2, rn', K', H', D', ls', t', a1, a2, a3, a4, a5⟩ := S_clear (rn0 := rn) (N := N) h (by omega)
  refine ⟨x, f', y', o', mr r' 23 2 x, sv', rn', q', ?_, ?_, ⟨_, _, _, _, _, _, a5, hT⟩, b3, ?_⟩
  · unfold m8_clearDoughs
    rw [b1, ob2_s, a1, ob2_s]
  · unfold m9_clearDoughs
    rw [ltx_s, b2, ob2_s, a2, ob3_s, a3, ob1_s, a4, ob1_s, c9_4, h9_4, mr_u, ltx_s]
  · rw [b4 2 (by decide), pk_un (by decide)]
theorem P_settle (hS : SIMX f s) (hH : HS y o sv q) (hN : 1100 < N) : ∃ x f' y' o' s' sv' ow' rs' q', m8_settle N f y o = some (x, f', y', o') ∧ m9_settle N s sv ow rs q = some (x, s', sv', ow', rs', q') ∧ SIMX f' s' ∧ HS y' o' sv' q' ∧ q' 2 = q 2 := by
  obtain ⟨K, H, D, ls, t, T, h, hT⟩ := id hS
  have hH' : HS y o sv (upd q 0 0) := HS_q hH (pk_un (by decide))
  obtain ⟨y', o', sv', q', b1, b2, b3, b4⟩ := S_save (N := N) hH' hS hN
  obtain ⟨x, f', r', ow', rs', a1, a2, a3⟩ := S_settle (N := N) h (by omega) (by omega) ow rs
  refine ⟨x, f', y', o', r', sv', ow', rs', q', ?_, ?_, ⟨_, _, _, _, _, _, a3, hT⟩, b3, ?_⟩
  · unfold m8_settle
    rw [b1, ob2_s, a1, ob2_s]
  · unfold m9_settle
    rw [ltx_s, b2, ob2_s, a2, ob4_s]
  · rw [b4 2 (by decide), pk_un (by decide)]
/-- a value: what is refused -/
theorem val_code {e v : Int32} {n : Nat} {E : Int32} (hE : e = 0 ∨ e = 1) (hn : n < 100) (h1 : 1 ≤ n) (ev : E = nI n) : (m8_refusalOfValue e v E = 1 ∧ (if e = 0 then (1 : Int32) else lt1 (m9_in v 0 (nI (n-1))) fun x9 => if x9 = 0 then (2 : Int32) else 0) = 1) ∨ (m8_refusalOfValue e v E = 2 ∧ (if e = 0 then (1 : Int32) else lt1 (m9_in v 0 (nI (n-1))) fun x9 => if x9 = 0 then (2 : Int32) else 0) = 2) ∨ (m8_refusalOfValue e v E = 0 ∧ (if e = 0 then (1 : Int32) else lt1 (m9_in v 0 (nI (n-1))) fun x9 => if x9 = 0 then (2 : Int32) else 0) = 0 ∧ e = 1 ∧ ∃ w, w < n ∧ v = nI w) := by
  unfold m8_refusalOfValue m9_in
  rcases hE with e0 | e1
  · left
    rw [e0, if_pos rfl, if_pos rfl]
    exact ⟨rfl, rfl⟩
  · right
    rw [e1, if_neg n10, if_neg n10, lt1_s, ev]
    by_cases c : v < 0
    · left
      rw [if_pos c, if_pos c, if_pos rfl]
      exact ⟨rfl, rfl⟩
    · rw [if_neg c, if_neg c]
      obtain ⟨w, hw, e⟩ := nI_of c
      subst e
      by_cases c2 : w < n
      · right
        rw [if_pos (nI_lt c2 (by omega)), if_neg (nI_nlt (by omega) (by omega)), if_neg n10]
        exact ⟨rfl, rfl, rfl, w, c2, rfl⟩
      · left
        rw [if_neg (nI_nlt (by omega) hw), if_pos (nI_lt (by omega) hw), if_pos rfl]
        exact ⟨rfl, rfl⟩
theorem P_kind (hS : SIMX f s) (a1 a2 : Int32) : ∃ k x x9 q', m8_kind f a1 a2 = some (k, x) ∧ m9_kind s q a1 a2 = some (x9, q') ∧ C12 k (q' 0) ∧ (k = 0 → x9 = x) ∧ ∀ j, j ≠ 0 → q' j = q j := by
  obtain ⟨K, H, D, ls, t, T, h, hT⟩ := hS
  obtain ⟨s1, s2⟩ := S_isKind h a1
  have hK : K ≤ 5 := h.1.1.2.2.2.2.2.2.1
  unfold m8_kind m9_kind
  rw [s1, s2, lt1_s, ob1_s]
  rcases val_code (e := isN (nI K) a1) (v := a2) (n := 5) (E := 5) S_isN (by decide) (by decide) rfl with ⟨c1, c2⟩ | ⟨c1, c2⟩ | ⟨c1, c2, c3, w, hw, ew⟩
  · refine ⟨1, 0, 0, upd q 0 1, ?_, ?_, Or.inr (Or.inl ⟨rfl, pk_us⟩), fun _ => rfl, fun j hj => pk_un hj⟩
    · rw [c1, lt1_s, if_pos (by decide)]
    · have c2' : (if isN (nI K) a1 = 0 then (1 : Int32) else lt1 (m9_in a2 0 4) fun x9 => if x9 = 0 then (2 : Int32) else 0) = 1 := c2
      rw [c2', lt1_s, ltx_s, pk_us, if_neg (by decide)]
  · refine ⟨2, 0, 0, upd q 0 2, ?_, ?_, Or.inr (Or.inr ⟨rfl, pk_us⟩), fun _ => rfl, fun j hj => pk_un hj⟩
    · rw [c1, lt1_s, if_pos (by decide)]
    · have c2' : (if isN (nI K) a1 = 0 then (1 : Int32) else lt1 (m9_in a2 0 4) fun x9 => if x9 = 0 then (2 : Int32) else 0) = 2 := c2
      rw [c2', lt1_s, ltx_s, pk_us, if_neg (by decide)]
  · rcases isN_cases (c := K) (a := a1) (by omega) with z | ⟨_, b, hb, eb⟩
    · rw [z] at c3
      exact absurd c3.symm n10
    · have c2' : (if isN (nI K) a1 = 0 then (1 : Int32) else lt1 (m9_in a2 0 4) fun x9 => if x9 = 0 then (2 : Int32) else 0) = 0 := c2
      refine ⟨0, m7_valueOfKind f a1 a2, m7_valueOfKind f a1 a2, upd q 0 0, ?_, ?_, Or.inl ⟨rfl, pk_us⟩, fun _ => rfl, fun j hj => pk_un hj⟩
      · rw [c1, lt1_s, if_neg (by decide), lt1_s]
      · rw [c2', lt1_s, ltx_s, pk_us, if_pos (by decide), eb, ew, S_kindVal h.2.1 (by omega) hw, ob1_s]
theorem P_house (hS : SIMX f s) (hN : 100 < N) (a1 a2 : Int32) : ∃ k x x9 q', m8_house N f a1 a2 = some (k, x) ∧ m9_house N s q a1 a2 = some (x9, q') ∧ C12 k (q' 0) ∧ (k = 0 → x9 = x) ∧ ∀ j, j ≠ 0 → q' j = q j := by
  obtain ⟨K, H, D, ls, t, T, h, hT⟩ := hS
  obtain ⟨s1, s2⟩ := S_isHouse h a1
  have hH : H ≤ 8 := h.1.1.2.2.2.2.2.2.2.1
  have hD : D ≤ 16 := h.1.1.2.2.2.2.2.2.2.2.1
  unfold m8_house m9_house
  rw [s1, s2, lt1_s, ob1_s]
  rcases val_code (e := isN (nI H) a1) (v := a2) (n := 7) (E := 7) S_isN (by decide) (by decide) rfl with ⟨c1, c2⟩ | ⟨c1, c2⟩ | ⟨c1, c2, c3, w, hw, ew⟩
  · refine ⟨1, 0, 0, upd q 0 1, ?_, ?_, Or.inr (Or.inl ⟨rfl, pk_us⟩), fun _ => rfl, fun j hj => pk_un hj⟩
    · rw [c1, lt1_s, if_pos (by decide)]
    · have c2' : (if isN (nI H) a1 = 0 then (1 : Int32) else lt1 (m9_in a2 0 6) fun x9 => if x9 = 0 then (2 : Int32) else 0) = 1 := c2
      rw [c2', lt1_s, ltx_s, pk_us, if_neg (by decide)]
  · refine ⟨2, 0, 0, upd q 0 2, ?_, ?_, Or.inr (Or.inr ⟨rfl, pk_us⟩), fun _ => rfl, fun j hj => pk_un hj⟩
    · rw [c1, lt1_s, if_pos (by decide)]
    · have c2' : (if isN (nI H) a1 = 0 then (1 : Int32) else lt1 (m9_in a2 0 6) fun x9 => if x9 = 0 then (2 : Int32) else 0) = 2 := c2
      rw [c2', lt1_s, ltx_s, pk_us, if_neg (by decide)]
  · rcases isN_cases (c := H) (a := a1) (by omega) with z | ⟨_, b, hb, eb⟩
    · rw [z] at c3
      exact absurd c3.symm n10
    · have c2' : (if isN (nI H) a1 = 0 then (1 : Int32) else lt1 (m9_in a2 0 6) fun x9 => if x9 = 0 then (2 : Int32) else 0) = 0 := c2
      obtain ⟨v, v1, v2⟩ := S_houseVal (N := N) (b := b) (w := w) h.2.1 h.1.1.2.2.1 hD (by omega) hw hN
      refine ⟨0, v, v, upd q 0 0, ?_, ?_, Or.inl ⟨rfl, pk_us⟩, fun _ => rfl, fun j hj => pk_un hj⟩
      · rw [c1, lt1_s, if_neg (by decide), eb, ew, v1, ob1_s]
      · rw [c2', lt1_s, ltx_s, pk_us, if_pos (by decide), eb, ew, v2, ob1_s]
theorem P_dough (hS : SIMX f s) (hN : 100 < N) (a1 a2 : Int32) : ∃ k x x9 q', m8_dough N f a1 a2 = some (k, x) ∧ m9_dough N s q a1 a2 = some (x9, q') ∧ C12 k (q' 0) ∧ (k = 0 → x9 = x) ∧ ∀ j, j ≠ 0 → q' j = q j := by
  obtain ⟨K, H, D, ls, t, T, h, hT⟩ := hS
  obtain ⟨s1, s2⟩ := S_isDough h a1
  have hD : D ≤ 16 := h.1.1.2.2.2.2.2.2.2.2.1
  unfold m8_dough m9_dough
  rw [s1, s2, lt1_s, ob1_s]
  rcases val_code (e := isN (nI D) a1) (v := a2) (n := 10) (E := 10) S_isN (by decide) (by decide) rfl with ⟨c1, c2⟩ | ⟨c1, c2⟩ | ⟨c1, c2, c3, w, hw, ew⟩
  · refine ⟨1, 0, 0, upd q 0 1, ?_, ?_, Or.inr (Or.inl ⟨rfl, pk_us⟩), fun _ => rfl, fun j hj => pk_un hj⟩
    · rw [c1, lt1_s, if_pos (by decide)]
    · have c2' : (if isN (nI D) a1 = 0 then (1 : Int32) else lt1 (m9_in a2 0 9) fun x9 => if x9 = 0 then (2 : Int32) else 0) = 1 := c2
      rw [c2', lt1_s, ltx_s, pk_us, if_neg (by decide)]
  · refine ⟨2, 0, 0, upd q 0 2, ?_, ?_, Or.inr (Or.inr ⟨rfl, pk_us⟩), fun _ => rfl, fun j hj => pk_un hj⟩
    · rw [c1, lt1_s, if_pos (by decide)]
    · have c2' : (if isN (nI D) a1 = 0 then (1 : Int32) else lt1 (m9_in a2 0 9) fun x9 => if x9 = 0 then (2 : Int32) else 0) = 2 := c2
      rw [c2', lt1_s, ltx_s, pk_us, if_neg (by decide)]
  · rcases isN_cases (c := D) (a := a1) (by omega) with z | ⟨_, b, hb, eb⟩
    · rw [z] at c3
      exact absurd c3.symm n10
    · have c2' : (if isN (nI D) a1 = 0 then (1 : Int32) else lt1 (m9_in a2 0 9) fun x9 => if x9 = 0 then (2 : Int32) else 0) = 0 := c2
      obtain ⟨v, v1, v2⟩ := S_doughVal (N := N) (d := b) (w := w) h hb hw hN
      refine ⟨0, v, v, upd q 0 0, ?_, ?_, Or.inl ⟨rfl, pk_us⟩, fun _ => rfl, fun j hj => pk_un hj⟩
      · rw [c1, lt1_s, if_neg (by decide), eb, ew, v1, ob1_s]
      · rw [c2', lt1_s, ltx_s, pk_us, if_pos (by decide), eb, ew, v2, ob1_s]
theorem P_place (hS : SIMX f s) (a1 a2 : Int32) : ∃ k x x9 q', m8_place f a1 a2 = some (k, x) ∧ m9_place s q a1 a2 = some (x9, q') ∧ C12 k (q' 0) ∧ (k = 0 → x9 = x) ∧ ∀ j, j ≠ 0 → q' j = q j := by
  obtain ⟨K, H, D, ls, t, T, h, hT⟩ := hS
  have e7 : (if a1 < 0 then (0 : Int32) else if 12 ≤ a1 then (0 : Int32) else 1) = isN (nI 12) a1 := rfl
  have e9 : m9_in a1 0 11 = isN (nI 12) a1 := isN_in (c := 12) (by decide)
  unfold m8_place m9_place
  rw [e7, e9, lt1_s, lt1_s]
  rcases val_code (e := isN (nI 12) a1) (v := a2) (n := 4) (E := 4) S_isN (by decide) (by decide) rfl with ⟨c1, c2⟩ | ⟨c1, c2⟩ | ⟨c1, c2, c3, w, hw, ew⟩
  · refine ⟨1, 0, 0, upd q 0 1, ?_, ?_, Or.inr (Or.inl ⟨rfl, pk_us⟩), fun _ => rfl, fun j hj => pk_un hj⟩
    · rw [c1, lt1_s, if_pos (by decide)]
    · have c2' : (if isN (nI 12) a1 = 0 then (1 : Int32) else lt1 (m9_in a2 0 3) fun x9 => if x9 = 0 then (2 : Int32) else 0) = 1 := c2
      rw [lt1_s, c2', lt1_s, ltx_s, pk_us, if_neg (by decide)]
  · refine ⟨2, 0, 0, upd q 0 2, ?_, ?_, Or.inr (Or.inr ⟨rfl, pk_us⟩), fun _ => rfl, fun j hj => pk_un hj⟩
    · rw [c1, lt1_s, if_pos (by decide)]
    · have c2' : (if isN (nI 12) a1 = 0 then (1 : Int32) else lt1 (m9_in a2 0 3) fun x9 => if x9 = 0 then (2 : Int32) else 0) = 2 := c2
      rw [lt1_s, c2', lt1_s, ltx_s, pk_us, if_neg (by decide)]
  · rcases isN_cases (c := 12) (a := a1) (by decide) with z | ⟨_, b, hb, eb⟩
    · rw [z] at c3
      exact absurd c3.symm n10
    · have c2' : (if isN (nI 12) a1 = 0 then (1 : Int32) else lt1 (m9_in a2 0 3) fun x9 => if x9 = 0 then (2 : Int32) else 0) = 0 := c2
      have v2 := S_placeVal (p := b) (w := w) h.2.1 h.1.1.2.2.2.2.1 h.1.1.2.2.2.2.2.2.2.2.2 hb hw
      refine ⟨0, m7_valueOfPlace f a1 a2, m7_valueOfPlace f a1 a2, upd q 0 0, ?_, ?_, Or.inl ⟨rfl, pk_us⟩, fun _ => rfl, fun j hj => pk_un hj⟩
      · rw [c1, lt1_s, if_neg (by decide)]
      · rw [lt1_s, c2', lt1_s, ltx_s, pk_us, if_pos (by decide), eb, ew, v2, ob1_s]
end FACE
