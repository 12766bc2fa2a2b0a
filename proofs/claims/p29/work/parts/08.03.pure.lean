/-! what is refused: the class and the model alike -/
theorem z0 {α : Sort _} {a b : α} : (if (0 : Int32) = 0 then a else b) = a := if_pos rfl
theorem z1 {α : Sort _} {a b : α} : (if (1 : Int32) = 0 then a else b) = b := if_neg (by decide)
theorem rng {x : Int32} {lo hi : Nat} (hlo : lo < 2^31) (hhi : hi < 2^31) (h1 : ¬ x < nI lo) (h2 : x ≤ nI hi) : ∃ l, lo ≤ l ∧ l ≤ hi ∧ x = nI l := by
  have h3 : ¬ x < 0 := by
    intro q
    apply h1
    rw [Int32.lt_iff_toInt_lt] at q ⊢
    rw [nI_toInt hlo]
    have e : (0 : Int32).toInt = 0 := by decide
    rw [e] at q
    omega
  obtain ⟨j, hj, e⟩ := nI_of h3
  subst e
  rw [nI_ltI hj hlo] at h1
  rw [nI_leI hj hhi] at h2
  exact ⟨j, by omega, h2, rfl⟩
def isN (c a : Int32) : Int32 := if a < 0 then 0 else if c ≤ a then 0 else 1
theorem isN_in {c : Nat} {a : Int32} (hc : c < 100) : m9_in a 0 (nI c - 1) = isN (nI c) a := by
  unfold m9_in isN
  by_cases h : a < 0
  · rw [if_pos h, if_pos h]
  · rw [if_neg h, if_neg h]
    obtain ⟨j, hj, e⟩ := nI_of h
    subst e
    cases c with
    | zero =>
      have h1 : nI 0 - 1 < nI j := by
        rw [Int32.lt_iff_toInt_lt, nI_toInt hj]
        have e : (nI 0 - 1).toInt = -1 := by decide
        rw [e]
        omega
      rw [if_pos h1, if_pos (nI_le (by omega) hj)]
    | succ c =>
      rw [nI_pred]
      by_cases h2 : c < j
      · rw [if_pos (nI_lt h2 hj), if_pos (nI_le (by omega) hj)]
      · rw [if_neg (nI_nlt (by omega) (by omega)), if_neg (nI_ge (by omega) (by omega))]
theorem isN_cases {c : Nat} {a : Int32} (hc : c < 100) : isN (nI c) a = 0 ∨ (isN (nI c) a = 1 ∧ ∃ h, h < c ∧ a = nI h) := by
  unfold isN
  by_cases h : a < 0
  · rw [if_pos h]
    exact Or.inl rfl
  · rw [if_neg h]
    obtain ⟨j, hj, e⟩ := nI_of h
    subst e
    by_cases h2 : c ≤ j
    · rw [if_pos (nI_le h2 hj)]
      exact Or.inl rfl
    · rw [if_neg (nI_ge (by omega) (by omega))]
      exact Or.inr ⟨rfl, j, by omega, rfl⟩
theorem isN_1 {c h : Nat} (hc : c < 100) (hh : h < c) : isN (nI c) (nI h) = 1 := by
  unfold isN
  rw [if_neg (nI_pos (by omega)), if_neg (nI_ge hh (by omega))]
theorem S_isN {c a : Int32} : isN c a = 0 ∨ isN c a = 1 := by
  unfold isN
  by_cases h : a < 0
  · rw [if_pos h]
    exact Or.inl rfl
  · rw [if_neg h]
    by_cases h2 : c ≤ a
    · rw [if_pos h2]
      exact Or.inl rfl
    · rw [if_neg h2]
      exact Or.inr rfl
theorem S_isKind {f : bkA} {r : Nat → Int32} {K H D t T : Nat} {ls : List Nat} (h : SIM f r K H D ls t T) (a : Int32) : m7_isKind f a = isN (nI K) a ∧ m9_isKind r a = some (isN (nI K) a) := by
  obtain ⟨⟨⟨e0, e1, e2, e3, e4, e5, hK, hH, hD, ht⟩, _⟩, hR, _⟩ := h
  constructor
  · unfold m7_isKind
    rw [e0]
    rfl
  · unfold m9_isKind
    rw [c9_2, h9_2, RG_i0 hR, e0, isN_in (by omega), lt1_s, ckp_t S_isN]
theorem S_isHouse {f : bkA} {r : Nat → Int32} {K H D t T : Nat} {ls : List Nat} (h : SIM f r K H D ls t T) (a : Int32) : m7_isHouse f a = isN (nI H) a ∧ m9_isHouse r a = some (isN (nI H) a) := by
  obtain ⟨⟨⟨e0, e1, e2, e3, e4, e5, hK, hH, hD, ht⟩, _⟩, hR, _⟩ := h
  constructor
  · unfold m7_isHouse
    rw [e1]
    rfl
  · unfold m9_isHouse
    rw [c9_3, h9_3, RG_i1 hR, e1, isN_in (by omega), lt1_s, ckp_t S_isN]
theorem S_isDough {f : bkA} {r : Nat → Int32} {K H D t T : Nat} {ls : List Nat} (h : SIM f r K H D ls t T) (a : Int32) : m7_isDough f a = isN (nI D) a ∧ m9_isDough r a = some (isN (nI D) a) := by
  obtain ⟨⟨⟨e0, e1, e2, e3, e4, e5, hK, hH, hD, ht⟩, _⟩, hR, _⟩ := h
  constructor
  · unfold m7_isDough
    rw [e2]
    rfl
  · unfold m9_isDough
    rw [c9_4, h9_4, RG_i2 hR, e2, isN_in (by omega), lt1_s, ckp_t S_isN]
def C23 (x y : Int32) : Prop := (x = 0 ∧ y = 0) ∨ (x = 2 ∧ y = 1) ∨ (x = 3 ∧ y = 2)
def C123 (x y : Int32) : Prop := (x = 0 ∧ y = 0) ∨ (x = 1 ∧ y = 1) ∨ (x = 2 ∧ y = 2) ∨ (x = 3 ∧ y = 3)
def C3 (x y : Int32) : Prop := (x = 0 ∧ y = 0) ∨ (x = 3 ∧ y = 1)
theorem C23_0 : C23 0 0 := Or.inl ⟨rfl, rfl⟩
theorem C23_2 : C23 2 1 := Or.inr (Or.inl ⟨rfl, rfl⟩)
theorem C23_3 : C23 3 2 := Or.inr (Or.inr ⟨rfl, rfl⟩)
theorem C123_0 : C123 0 0 := Or.inl ⟨rfl, rfl⟩
theorem C123_1 : C123 1 1 := Or.inr (Or.inl ⟨rfl, rfl⟩)
theorem C123_2 : C123 2 2 := Or.inr (Or.inr (Or.inl ⟨rfl, rfl⟩))
theorem C123_3 : C123 3 3 := Or.inr (Or.inr (Or.inr ⟨rfl, rfl⟩))
theorem n10 : ¬ (1 : Int32) = 0 := by decide
theorem n20 : ¬ (2 : Int32) = 0 := by decide
theorem n30 : ¬ (3 : Int32) = 0 := by decide
theorem S_kindCode {f : bkA} {r : Nat → Int32} {K H D t T : Nat} {ls : List Nat} (h : SIM f r K H D ls t T) (a1 a2 a3 a4 a5 : Int32) : ∃ y, m9_kindCode r a1 a2 a3 a4 a5 = some y ∧ C23 (m7_refusalOfKind f a1 a2 a3 a4 a5) y ∧ (m7_refusalOfKind f a1 a2 a3 a4 a5 = 0 → K < 5) := by
  obtain ⟨⟨⟨e0, e1, e2, e3, e4, e5, hK, hH, hD, ht⟩, hd, hl, hp, hh, hn⟩, hR, hL⟩ := h
  unfold m9_kindCode m7_refusalOfKind
  simp only [lt1_s, m9_in]
  by_cases g0 : a1 < 50
  · simp only [if_pos g0, z0, z1]
    exact ⟨1, rfl, C23_2, fun q => absurd q n20⟩
  by_cases g1 : 350 < a1
  · simp only [if_neg g0, if_pos g1, z0, z1]
    exact ⟨1, rfl, C23_2, fun q => absurd q n20⟩
  by_cases g2 : a2 < a1
  · simp only [if_neg g0, if_neg g1, if_pos g2, z0, z1]
    exact ⟨1, rfl, C23_2, fun q => absurd q n20⟩
  by_cases g3 : 400 < a2
  · simp only [if_neg g0, if_neg g1, if_neg g2, if_pos g3, z0, z1]
    exact ⟨1, rfl, C23_2, fun q => absurd q n20⟩
  by_cases g4 : a3 < 1
  · simp only [if_neg g0, if_neg g1, if_neg g2, if_neg g3, if_pos g4, z0, z1]
    exact ⟨1, rfl, C23_2, fun q => absurd q n20⟩
  by_cases g5 : 20 < a3
  · simp only [if_neg g0, if_neg g1, if_neg g2, if_neg g3, if_neg g4, if_pos g5, z0, z1]
    exact ⟨1, rfl, C23_2, fun q => absurd q n20⟩
  by_cases g6 : a4 < 0
  · simp only [if_neg g0, if_neg g1, if_neg g2, if_neg g3, if_neg g4, if_neg g5, if_pos g6, z0, z1]
    exact ⟨1, rfl, C23_2, fun q => absurd q n20⟩
  by_cases g7 : 30 < a4
  · simp only [if_neg g0, if_neg g1, if_neg g2, if_neg g3, if_neg g4, if_neg g5, if_neg g6, if_pos g7, z0, z1]
    exact ⟨1, rfl, C23_2, fun q => absurd q n20⟩
  by_cases g8 : a5 < 1
  · simp only [if_neg g0, if_neg g1, if_neg g2, if_neg g3, if_neg g4, if_neg g5, if_neg g6, if_neg g7, if_pos g8, z0, z1]
    exact ⟨1, rfl, C23_2, fun q => absurd q n20⟩
  by_cases g9 : a5 ≤ 40
  · have g10 : ¬ 40 < a5 := Int32.not_lt.mpr g9
    simp only [if_neg g0, if_neg g1, if_neg g2, if_neg g3, if_neg g4, if_neg g5, if_neg g6, if_neg g7, if_neg g8, if_pos g9, if_neg g10, z0, z1, c9_2, h9_2, RG_i0 hR, e0, l_5]
    by_cases g11 : K = 5
    · subst g11
      rw [if_pos rfl, if_neg (nI_nlt (Nat.le_refl _) (by decide))]
      exact ⟨2, rfl, C23_3, fun q => absurd q n30⟩
    · rw [if_neg (fun q => g11 ((nI_eq (by omega) (by decide)).mp q)), if_pos (nI_lt (by omega) (by decide))]
      exact ⟨0, rfl, C23_0, fun _ => by omega⟩
  · have g10 : 40 < a5 := Int32.not_le.mp g9
    simp only [if_neg g0, if_neg g1, if_neg g2, if_neg g3, if_neg g4, if_neg g5, if_neg g6, if_neg g7, if_neg g8, if_neg g9, if_pos g10, z0, z1]
    exact ⟨1, rfl, C23_2, fun q => absurd q n20⟩
theorem S_houseCode {f : bkA} {r : Nat → Int32} {K H D t T : Nat} {ls : List Nat} (h : SIM f r K H D ls t T) : ∃ y, (if r (3 : Int32).toNatClampNeg = 8 then (1 : Int32) else 0) = y ∧ C3 (m7_refusalOfHouse f) y ∧ (m7_refusalOfHouse f = 0 → H < 8) := by
  obtain ⟨⟨⟨e0, e1, e2, e3, e4, e5, hK, hH, hD, ht⟩, hd, hl, hp, hh, hn⟩, hR, hL⟩ := h
  unfold m7_refusalOfHouse
  rw [h9_3, RG_i1 hR, e1, l_8]
  by_cases g11 : H = 8
  · subst g11
    rw [if_pos rfl, if_neg (nI_nlt (Nat.le_refl _) (by decide))]
    exact ⟨1, rfl, Or.inr ⟨rfl, rfl⟩, fun q => absurd q n30⟩
  · rw [if_neg (fun q => g11 ((nI_eq (by omega) (by decide)).mp q)), if_pos (nI_lt (by omega) (by decide))]
    exact ⟨0, rfl, Or.inl ⟨rfl, rfl⟩, fun _ => by omega⟩
theorem S_doughCode {f : bkA} {r : Nat → Int32} {K H D t T : Nat} {ls : List Nat} (h : SIM f r K H D ls t T) (a1 a2 a3 : Int32) : ∃ y, m9_doughCode r a1 a2 a3 = some y ∧ C123 (m7_refusalOfDough f a1 a2 a3) y ∧ (m7_refusalOfDough f a1 a2 a3 = 0 → D < 16 ∧ ∃ b1 b2 b3, b1 < H ∧ a1 = nI b1 ∧ b2 < K ∧ a2 = nI b2 ∧ 1 ≤ b3 ∧ b3 ≤ 4 ∧ a3 = nI b3) := by
  have s1 := S_isHouse h a1
  have s2 := S_isKind h a2
  obtain ⟨⟨⟨e0, e1, e2, e3, e4, e5, hK, hH, hD, ht⟩, hd, hl, hp, hh, hn⟩, hR, hL⟩ := h
  unfold m9_doughCode m7_refusalOfDough
  rw [s1.1, s1.2, s2.1, s2.2]
  simp only [lt1_s, ob1_s, m9_in]
  rcases isN_cases (c := H) (a := a1) (by omega) with q1 | ⟨q1, b1, hb1, eb1⟩
  · simp only [q1, z0]
    exact ⟨1, rfl, C123_1, fun q => absurd q n10⟩
  rcases isN_cases (c := K) (a := a2) (by omega) with q2 | ⟨q2, b2, hb2, eb2⟩
  · simp only [q1, q2, z0, z1]
    exact ⟨1, rfl, C123_1, fun q => absurd q n10⟩
  simp only [q1, q2, z1]
  by_cases g1 : a3 < 1
  · simp only [if_pos g1, z0]
    exact ⟨2, rfl, C123_2, fun q => absurd q n20⟩
  by_cases g2 : a3 ≤ 4
  · have g3 : ¬ 4 < a3 := Int32.not_lt.mpr g2
    simp only [if_neg g1, if_pos g2, if_neg g3, z1, c9_4, h9_4, RG_i2 hR, e2, l_16]
    by_cases g11 : D = 16
    · subst g11
      rw [if_pos rfl, if_neg (nI_nlt (Nat.le_refl _) (by decide))]
      exact ⟨3, rfl, C123_3, fun q => absurd q n30⟩
    · rw [if_neg (fun q => g11 ((nI_eq (by omega) (by decide)).mp q)), if_pos (nI_lt (by omega) (by decide))]
      obtain ⟨b3, hb3, hb4, eb3⟩ := rng (lo := 1) (hi := 4) (by decide) (by decide) g1 g2
      exact ⟨0, rfl, C123_0, fun _ => ⟨by omega, b1, b2, b3, hb1, eb1, hb2, eb2, hb3, hb4, eb3⟩⟩
  · have g3 : 4 < a3 := Int32.not_le.mp g2
    simp only [if_neg g1, if_neg g2, if_pos g3, z0]
    exact ⟨2, rfl, C123_2, fun q => absurd q n20⟩
theorem S_isWaiting {f : bkA} {r : Nat → Int32} {K H D t T : Nat} {ls : List Nat} (h : SIM f r K H D ls t T) {d : Nat} (hd : d < D) : m7_isWaiting f (nI d) = (if f 15 d = 0 then 1 else 0) := by
  have s1 := (S_isDough h (nI d)).1
  obtain ⟨⟨⟨e0, e1, e2, e3, e4, e5, hK, hH, hD, ht⟩, hd0, hl, hp, hh, hn⟩, hR, hL⟩ := h
  unfold m7_isWaiting
  rw [s1, isN_1 (by omega) hd, lt1_s, z1, rat_nI (by omega) (by decide)]
theorem S_swapCode {f : bkA} {r : Nat → Int32} {K H D t T : Nat} {ls : List Nat} (h : SIM f r K H D ls t T) (a1 a2 : Int32) : ∃ y, m9_swapCode r a1 a2 = some y ∧ C123 (m7_refusalOfSwap f a1 a2) y ∧ (m7_refusalOfSwap f a1 a2 = 0 → ∃ b1 b2, b1 ∈ ls ∧ a1 = nI b1 ∧ b2 ∈ ls ∧ a2 = nI b2 ∧ b1 ≠ b2) := by
  have s1 := S_isDough h a1
  have s2 := S_isDough h a2
  have s3 := fun (d : Nat) (hd : d < D) => S_isWaiting h hd
  obtain ⟨⟨⟨e0, e1, e2, e3, e4, e5, hK, hH, hD, ht⟩, hd, hl, hp, hh, hn⟩, hR, hL⟩ := h
  unfold m9_swapCode m7_refusalOfSwap
  rw [s1.1, s1.2, s2.1, s2.2]
  simp only [lt1_s, ob1_s]
  rcases isN_cases (c := D) (a := a1) (by omega) with q1 | ⟨q1, b1, hb1, eb1⟩
  · simp only [q1, z0]
    exact ⟨1, rfl, C123_1, fun q => absurd q n10⟩
  rcases isN_cases (c := D) (a := a2) (by omega) with q2 | ⟨q2, b2, hb2, eb2⟩
  · simp only [q1, q2, z0, z1]
    exact ⟨1, rfl, C123_1, fun q => absurd q n10⟩
  simp only [q1, q2, z1]
  by_cases g1 : a1 = a2
  · simp only [if_pos g1]
    exact ⟨2, rfl, C123_2, fun q => absurd q n20⟩
  subst eb1
  subst eb2
  simp only [if_neg g1, s3 b1 hb1, s3 b2 hb2, a9_of4 (show b1 < 16 by omega), a9_of4 (show b2 < 16 by omega), ob1_s, RG_15 hR (show b1 < 16 by omega), RG_15 hR (show b2 < 16 by omega)]
  by_cases g2 : f 15 b1 = 0
  · by_cases g3 : f 15 b2 = 0
    · simp only [if_pos g2, if_pos g3, z1]
      refine ⟨0, rfl, C123_0, fun _ => ⟨b1, b2, (hl.2.2 b1).mpr ⟨hb1, g2⟩, rfl, (hl.2.2 b2).mpr ⟨hb2, g3⟩, rfl, fun q => g1 (by rw [q])⟩⟩
    · simp only [if_pos g2, if_neg g3, z0, z1]
      exact ⟨3, rfl, C123_3, fun q => absurd q n30⟩
  · simp only [if_neg g2, z0]
    exact ⟨3, rfl, C123_3, fun q => absurd q n30⟩
theorem S_bringCode {f : bkA} {r : Nat → Int32} {K H D t T : Nat} {ls : List Nat} (h : SIM f r K H D ls t T) (a1 a2 : Int32) : ∃ y, m9_bringCode r a1 a2 = some y ∧ C123 (m7_refusalOfBring f a1 a2) y ∧ (m7_refusalOfBring f a1 a2 = 0 → ∃ b1, b1 < H ∧ a1 = nI b1) := by
  have s1 := S_isHouse h a1
  obtain ⟨⟨⟨e0, e1, e2, e3, e4, e5, hK, hH, hD, ht⟩, hd, hl, hp, hh, hn⟩, hR, hL⟩ := h
  unfold m9_bringCode m7_refusalOfBring
  rw [s1.1, s1.2]
  simp only [lt1_s, ob1_s, m9_in, m9_balance]
  rcases isN_cases (c := H) (a := a1) (by omega) with q1 | ⟨q1, b1, hb1, eb1⟩
  · simp only [q1, z0]
    exact ⟨1, rfl, C123_1, fun q => absurd q n10⟩
  simp only [q1, z1]
  by_cases g1 : a2 < 1
  · simp only [if_pos g1, z0]
    exact ⟨2, rfl, C123_2, fun q => absurd q n20⟩
  by_cases g2 : a2 ≤ 99
  · have g3 : ¬ 99 < a2 := Int32.not_lt.mpr g2
    subst eb1
    simp only [if_neg g1, if_pos g2, if_neg g3, z1, e9_H0 (show b1 < 8 by omega), k9_K (j := 5) (i := b1) (by decide) (show b1 < 8 by omega), q9_K (j := 5) (i := b1) (by decide) (show b1 < 8 by omega), RG_5 hR (show b1 < 8 by omega), rat_nI (n := 8) (show b1 < 8 by omega) (by decide), ob1_s]
    by_cases g4 : f 5 b1 + a2 ≤ 999
    · rw [if_pos g4, if_pos g4]
      exact ⟨0, rfl, C123_0, fun _ => ⟨b1, hb1, rfl⟩⟩
    · rw [if_neg g4, if_neg g4]
      exact ⟨3, rfl, C123_3, fun q => absurd q n30⟩
  · have g3 : 99 < a2 := Int32.not_le.mp g2
    simp only [if_neg g1, if_neg g2, if_pos g3, z0]
    exact ⟨2, rfl, C123_2, fun q => absurd q n20⟩
theorem S_stokeCode {f : bkA} {r : Nat → Int32} {K H D t T : Nat} {ls : List Nat} (h : SIM f r K H D ls t T) (a1 a2 : Int32) : ∃ y, m9_stokeCode r a1 a2 = some y ∧ C123 (m7_refusalOfStoke f a1 a2) y ∧ (m7_refusalOfStoke f a1 a2 = 0 → ∃ b1 b2, b1 < H ∧ a1 = nI b1 ∧ 1 ≤ b2 ∧ b2 ≤ 16 ∧ a2 = nI b2 ∧ t + 25 * b2 ≤ 400) := by
  have s1 := S_isHouse h a1
  obtain ⟨⟨⟨e0, e1, e2, e3, e4, e5, hK, hH, hD, ht⟩, hd, hl, hp, hh, hn⟩, hR, hL⟩ := h
  unfold m9_stokeCode m7_refusalOfStoke
  rw [s1.1, s1.2]
  simp only [lt1_s, ob1_s, m9_in, m9_balance]
  rcases isN_cases (c := H) (a := a1) (by omega) with q1 | ⟨q1, b1, hb1, eb1⟩
  · simp only [q1, z0]
    exact ⟨1, rfl, C123_1, fun q => absurd q n10⟩
  simp only [q1, z1]
  by_cases g1 : a2 < 1
  · simp only [if_pos g1, z0]
    exact ⟨2, rfl, C123_2, fun q => absurd q n20⟩
  by_cases g2 : a2 ≤ 16
  · have g3 : ¬ 16 < a2 := Int32.not_lt.mpr g2
    subst eb1
    simp only [if_neg g1, if_pos g2, if_neg g3, z1, e9_H0 (show b1 < 8 by omega), k9_K (j := 5) (i := b1) (by decide) (show b1 < 8 by omega), q9_K (j := 5) (i := b1) (by decide) (show b1 < 8 by omega), RG_5 hR (show b1 < 8 by omega), rat_nI (n := 8) (show b1 < 8 by omega) (by decide), ob1_s, c9_0, h9_0, RG_i4 hR, e4]
    by_cases g4 : f 5 b1 - a2 < -20
    · have g5 : ¬ (-20) ≤ f 5 b1 - a2 := Int32.not_le.mpr g4
      simp only [if_pos g4, if_neg g5, z1]
      exact ⟨3, rfl, C123_3, fun q => absurd q n30⟩
    · have g5 : (-20) ≤ f 5 b1 - a2 := Int32.not_lt.mp g4
      simp only [if_neg g4, if_pos g5, z0]
      obtain ⟨b2, hb2, hb3, eb2⟩ := rng (lo := 1) (hi := 16) (by decide) (by decide) g1 g2
      subst eb2
      have e6 : nI t + 25 * nI b2 = nI (t + 25 * b2) := by rw [l_25, pk_mul, nI_add]
      simp only [e6, l_400, nI_leI (a := t + 25 * b2) (b := 400) (by omega) (by decide)]
      by_cases g6 : t + 25 * b2 ≤ 400
      · rw [if_pos g6, if_pos g6]
        exact ⟨0, rfl, C123_0, fun _ => ⟨b1, b2, hb1, rfl, hb2, hb3, rfl, g6⟩⟩
      · rw [if_neg g6, if_neg g6]
        exact ⟨3, rfl, C123_3, fun q => absurd q n30⟩
  · have g3 : 16 < a2 := Int32.not_le.mp g2
    simp only [if_neg g1, if_neg g2, if_pos g3, z0]
    exact ⟨2, rfl, C123_2, fun q => absurd q n20⟩
theorem S_passCode {f : bkA} {r : Nat → Int32} {K H D t T : Nat} {ls : List Nat} (h : SIM f r K H D ls t T) (hT : T ≤ 100000) (a1 : Int32) : ∃ y, m9_passCode r a1 = some y ∧ C23 (m7_refusalOfPass f a1) y ∧ (m7_refusalOfPass f a1 = 0 → ∃ b1, 1 ≤ b1 ∧ b1 ≤ 100 ∧ a1 = nI b1 ∧ T + b1 ≤ 100000) := by
  obtain ⟨⟨⟨e0, e1, e2, e3, e4, e5, hK, hH, hD, ht⟩, hd, hl, hp, hh, hn⟩, hR, hL⟩ := h
  unfold m9_passCode m7_refusalOfPass
  simp only [lt1_s, ob1_s, m9_in]
  by_cases g1 : a1 < 1
  · simp only [if_pos g1, z0]
    exact ⟨1, rfl, C23_2, fun q => absurd q n20⟩
  by_cases g2 : a1 ≤ 100
  · have g3 : ¬ 100 < a1 := Int32.not_lt.mpr g2
    obtain ⟨b2, hb2, hb3, eb2⟩ := rng (lo := 1) (hi := 100) (by decide) (by decide) g1 g2
    simp only [if_neg g1, if_pos g2, if_neg g3, z1, c9_1, h9_1, RG_i5 hR, e5]
    subst eb2
    simp only [nI_add, l_100000, nI_leI (a := T + b2) (b := 100000) (by omega) (by decide)]
    by_cases g6 : T + b2 ≤ 100000
    · rw [if_pos g6, if_pos g6]
      exact ⟨0, rfl, C23_0, fun _ => ⟨b2, hb2, hb3, rfl, g6⟩⟩
    · rw [if_neg g6, if_neg g6]
      exact ⟨2, rfl, C23_3, fun q => absurd q n30⟩
  · have g3 : 100 < a1 := Int32.not_le.mp g2
    simp only [if_neg g1, if_neg g2, if_pos g3, z0]
    exact ⟨1, rfl, C23_2, fun q => absurd q n20⟩
