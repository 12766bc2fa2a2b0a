/-! p29: more of what always holds of a State: loaves and places, sums over the households -/
def sI (g : Nat → Int32) : Nat → Int32
  | 0 => 0
  | n+1 => sI g n + g n
theorem sI_congr {g g' : Nat → Int32} : ∀ {n : Nat}, (∀ i, i < n → g i = g' i) → sI g n = sI g' n
  | 0, _ => rfl
  | n+1, h => by
    show sI g n + g n = sI g' n + g' n
    rw [sI_congr (fun i hi => h i (by omega)), h n (by omega)]
theorem i_p1 {a : Int32} : a + 1 + (-1) = a := by grind
theorem i_ab {a b c : Int32} : a + (b - c) = a + b - c := by grind
theorem i_abc {a b v g : Int32} : a + v + (b - g) = a + (b - g) + v := by grind
theorem i_av {a g v : Int32} : a + v = a + g + (v - g) := by grind
theorem i_sh {a g v w : Int32} : a + (v - w) + g = a + g + (v - w) := by grind
theorem sI_upd {g : Nat → Int32} {i : Nat} {v : Int32} : ∀ {n : Nat}, i < n → sI (upd g i v) n = sI g n + (v - g i)
  | 0, h => absurd h (by omega)
  | n+1, h => by
    show sI (upd g i v) n + upd g i v n = sI g n + g n + (v - g i)
    by_cases e : n = i
    · subst e
      rw [pk_us, sI_congr (g' := g) (fun j hj => pk_un (by omega))]
      exact i_av
    · rw [pk_un e, sI_upd (n := n) (by omega)]
      exact i_sh
theorem sI_ext {g : Nat → Int32} {H : Nat} : ∀ {n : Nat}, H ≤ n → (∀ i, H ≤ i → i < n → g i = 0) → sI g n = sI g H
  | 0, h, _ => by
    have e : H = 0 := by omega
    subst e
    rfl
  | n+1, h, hz => by
    by_cases e : H = n + 1
    · subst e
      rfl
    · show sI g n + g n = sI g H
      rw [hz n (by omega) (by omega), Int32.add_zero]
      exact sI_ext (by omega) (fun i h1 h2 => hz i h1 (by omega))
theorem sI_nI {a : Nat → Nat} {g : Nat → Int32} : ∀ {n : Nat}, (∀ i, i < n → g i = nI (a i)) → sI g n = nI (sumN a n)
  | 0, _ => rfl
  | n+1, h => by
    show sI g n + g n = nI (sumN a n + a n)
    rw [sI_nI (fun i hi => h i (by omega)), h n (by omega), nI_add]
theorem i_4 {a b c d : Int32} : a + b + (c + d) = a + c + (b + d) := by grind
theorem sI_add {g g' : Nat → Int32} : ∀ {n : Nat}, sI (fun i => g i + g' i) n = sI g n + sI g' n
  | 0 => (Int32.add_zero 0).symm
  | n+1 => by
    show sI (fun i => g i + g' i) n + (g n + g' n) = sI g n + g n + (sI g' n + g' n)
    rw [sI_add]
    exact i_4
theorem i_4m {a b c d : Int32} : a - b + (c - d) = a + c - (b + d) := by grind
theorem sI_sub {g g' : Nat → Int32} : ∀ {n : Nat}, sI (fun i => g i - g' i) n = sI g n - sI g' n
  | 0 => by
    show (0 : Int32) = 0 - 0
    decide
  | n+1 => by
    show sI (fun i => g i - g' i) n + (g n - g' n) = sI g n + g n - (sI g' n + g' n)
    rw [sI_sub]
    exact i_4m
theorem sI_0 {g : Nat → Int32} : ∀ {n : Nat}, (∀ i, i < n → g i = 0) → sI g n = 0
  | 0, _ => rfl
  | n+1, h => by
    show sI g n + g n = 0
    rw [sI_0 (fun i hi => h i (by omega)), h n (by omega)]
    rfl
/-- the places of a dough's loaves -/
def cnt (f : bkA) (d : Nat) : Nat := cn (fun p => decide (f 19 p = nI d)) 12
theorem cnt_c {f g : bkA} {d : Nat} (e : g 19 = f 19) : cnt g d = cnt f d := by
  unfold cnt
  rw [e]
def iXP (f : bkA) (D : Nat) : Prop := ∀ d l, d < D → l ≤ 4 → f 13 d = nI l → cnt f d = if f 15 d = nI 1 then l else 0
def iXB (f : bkA) (T : Nat) : Prop := ∀ p, p < 12 → ¬ f 19 p = iM → ∃ a b, b ≤ a ∧ a ≤ T ∧ f 20 p = nI a ∧ f 21 p = nI b
def iXL (f : bkA) (D T : Nat) : Prop := ∀ d, d < D → (f 15 d = nI 1 ∨ f 15 d = nI 2) → ∃ n, n ≤ T ∧ f 17 d = nI n
def iXU (f : bkA) (D : Nat) : Prop := ∀ d l, d < D → l ≤ 4 → f 13 d = nI l → ∃ b, b ≤ l ∧ f 18 d = nI b
def iXK (f : bkA) (K : Nat) : Prop := ∀ k, k < K → ∃ a b, a ≤ b ∧ b ≤ 400 ∧ f 0 k = nI a ∧ f 1 k = nI b
def iXE (f : bkA) (M : Nat) : Prop := ∀ h, h < 8 → ∃ a b, b ≤ a ∧ a ≤ M ∧ f 9 h = nI a ∧ f 10 h = nI b
def iXS (f : bkA) (σ : Int32) : Prop := sI (f 5) 8 + sI (f 7) 8 + σ = f 23 8 ∧ sI (f 8) 8 = f 23 8 ∧ sI (f 7) 8 = f 23 6 ∧ f 23 7 - f 23 6 = σ ∧ sI (f 9) 8 = f 23 10
def IX9 (f : bkA) (K D T : Nat) (σ : Int32) : Prop := iXP f D ∧ iXB f T ∧ iXL f D T ∧ iXU f D ∧ iXK f K ∧ iXE f (64 * T) ∧ iXS f σ
theorem iXP_c {f g : bkA} {D : Nat} (h : iXP f D) (e13 : g 13 = f 13) (e15 : g 15 = f 15) (e19 : g 19 = f 19) : iXP g D := by
  intro d l h1 h2 h3
  rw [cnt_c e19, e15]
  rw [e13] at h3
  exact h d l h1 h2 h3
theorem iXB_c {f g : bkA} {T T' : Nat} (h : iXB f T) (hT : T ≤ T') (e19 : g 19 = f 19) (e20 : g 20 = f 20) (e21 : g 21 = f 21) : iXB g T' := by
  intro p hp hn
  rw [e19] at hn
  rw [e20, e21]
  obtain ⟨a, b, h1, h2, h3, h4⟩ := h p hp hn
  exact ⟨a, b, h1, by omega, h3, h4⟩
theorem iXL_c {f g : bkA} {D T T' : Nat} (h : iXL f D T) (hT : T ≤ T') (e15 : g 15 = f 15) (e17 : g 17 = f 17) : iXL g D T' := by
  intro d hd hq
  rw [e15] at hq
  rw [e17]
  obtain ⟨n, h1, h2⟩ := h d hd hq
  exact ⟨n, by omega, h2⟩
theorem iXU_c {f g : bkA} {D : Nat} (h : iXU f D) (e13 : g 13 = f 13) (e18 : g 18 = f 18) : iXU g D := by
  intro d l h1 h2 h3
  rw [e13] at h3
  rw [e18]
  exact h d l h1 h2 h3
theorem iXK_c {f g : bkA} {K : Nat} (h : iXK f K) (e0 : g 0 = f 0) (e1 : g 1 = f 1) : iXK g K := by
  intro k hk
  rw [e0, e1]
  exact h k hk
theorem iXE_c {f g : bkA} {M M' : Nat} (h : iXE f M) (hM : M ≤ M') (e9 : g 9 = f 9) (e10 : g 10 = f 10) : iXE g M' := by
  intro k hk
  rw [e9, e10]
  obtain ⟨a, b, h1, h2, h3, h4⟩ := h k hk
  exact ⟨a, b, h1, by omega, h3, h4⟩
theorem iXS_c {f g : bkA} {σ : Int32} (h : iXS f σ) (e5 : g 5 = f 5) (e7 : g 7 = f 7) (e8 : g 8 = f 8) (e9 : g 9 = f 9) (c6 : g 23 6 = f 23 6) (c7 : g 23 7 = f 23 7) (c8 : g 23 8 = f 23 8) (c10 : g 23 10 = f 23 10) : iXS g σ := by
  unfold iXS
  rw [e5, e7, e8, e9, c6, c7, c8, c10]
  exact h
theorem IX9_c {f g : bkA} {K D T T' : Nat} {σ : Int32} (h : IX9 f K D T σ) (hT : T ≤ T') (e : ∀ j, (j = 0 ∨ j = 1 ∨ j = 5 ∨ j = 7 ∨ j = 8 ∨ j = 9 ∨ j = 10 ∨ j = 13 ∨ j = 15 ∨ j = 17 ∨ j = 18 ∨ j = 19 ∨ j = 20 ∨ j = 21) → g j = f j) (c : ∀ k, (k = 6 ∨ k = 7 ∨ k = 8 ∨ k = 10) → g 23 k = f 23 k) : IX9 g K D T' σ := by
  obtain ⟨h1, h2, h3, h4, h5, h6, h7⟩ := h
  exact ⟨iXP_c h1 (e 13 (by decide)) (e 15 (by decide)) (e 19 (by decide)), iXB_c h2 hT (e 19 (by decide)) (e 20 (by decide)) (e 21 (by decide)), iXL_c h3 hT (e 15 (by decide)) (e 17 (by decide)), iXU_c h4 (e 13 (by decide)) (e 18 (by decide)), iXK_c h5 (e 0 (by decide)) (e 1 (by decide)), iXE_c h6 (by omega) (e 9 (by decide)) (e 10 (by decide)), iXS_c h7 (e 5 (by decide)) (e 7 (by decide)) (e 8 (by decide)) (e 9 (by decide)) (c 6 (by decide)) (c 7 (by decide)) (c 8 (by decide)) (c 10 (by decide))⟩
/-! kinds, households, doughs, the line, logs -/
theorem X_newKind {f : bkA} {K D T b1 b2 : Nat} {σ a3 a4 a5 : Int32} (hx : IX9 f K D T σ) (hK : K < 5) (e0 : f 23 0 = nI K) (h12 : b1 ≤ b2) (h2 : b2 ≤ 400) : ∃ f', m7_newKind f (nI b1) (nI b2) a3 a4 a5 = (nI K, f') ∧ IX9 f' (K+1) D T σ := by
  refine ⟨wr (wr (wr (wr (wr (wr f 0 K (nI b1)) 1 K (nI b2)) 2 K a3) 3 K a4) 4 K a5) 23 0 (nI (K+1)), ?_, ?_⟩
  · unfold m7_newKind
    simp (disch := omega) only [ltx_s, e0, wr_put, wr_u, nI_1]
  · obtain ⟨q1, q2, q3, q4, q5, q6, q7⟩ := hx
    refine ⟨iXP_c q1 ?_ ?_ ?_, iXB_c q2 (Nat.le_refl _) ?_ ?_ ?_, iXL_c q3 (Nat.le_refl _) ?_ ?_, iXU_c q4 ?_ ?_, ?_, iXE_c q6 (Nat.le_refl _) ?_ ?_, iXS_c q7 ?_ ?_ ?_ ?_ ?_ ?_ ?_ ?_⟩
    all_goals first
      | (simp (disch := omega) only [wr_s, wr_n, wr_i]; done)
      | skip
    intro k hk
    by_cases e : k = K
    · subst e
      refine ⟨b1, b2, h12, h2, ?_, ?_⟩
      · simp (disch := omega) only [wr_s, wr_n, wr_i]
      · simp (disch := omega) only [wr_s, wr_n, wr_i]
    · simp (disch := omega) only [wr_n, wr_i]
      exact q5 k (by omega)
theorem X_newHouse {f : bkA} {K D T H : Nat} {σ : Int32} (hx : IX9 f K D T σ) (e1 : f 23 1 = nI H) : ∃ f', m7_newHouse f = (nI H, f') ∧ IX9 f' K D T σ := by
  refine ⟨wr f 23 1 (nI (H+1)), ?_, ?_⟩
  · unfold m7_newHouse
    simp (disch := omega) only [ltx_s, e1, wr_u, nI_1]
  · refine IX9_c hx (Nat.le_refl _) ?_ ?_
    · intro j hj
      exact wr_n (by omega)
    · intro k hk
      exact wr_i (by omega)
theorem X_newDough {f : bkA} {K H D T t b1 b2 b3 : Nat} {σ : Int32} {ls : List Nat} (hx : IX9 f K D T σ) (h : IV f K H D ls t T) (hD16 : D < 16) : ∃ f', m7_newDough f (nI b1) (nI b2) (nI b3) = (nI D, f') ∧ IX9 f' K (D+1) T σ := by
  have hle := IV_len h
  obtain ⟨⟨e0, e1, e2, e3, e4, e5, hK, hH, hD, ht⟩, hd, hl, hp, hh, hn⟩ := h
  refine ⟨wr (wr (wr (wr (wr (wr (wr (wr (wr (wr (wr f 11 D (nI b1)) 12 D (nI b2)) 13 D (nI b3)) 14 D 0) 15 D 0) 16 D 0) 17 D (-1)) 18 D 0) 22 ls.length (nI D)) 23 2 (nI (D+1))) 23 3 (nI (ls.length+1)), ?_, ?_⟩
  · unfold m7_newDough
    simp (disch := omega) only [ltx_s, e2, wr_put, wr_u, nI_1]
    rw [wr_put' (j := 22) (i := ls.length) ?_ (by omega) (by decide)]
    · simp (disch := omega) only [wr_s, wr_n, wr_i, e3, nI_1, wr_c23]
    · simp (disch := omega) only [wr_s, wr_n, wr_i, e3]
  · obtain ⟨q1, q2, q3, q4, q5, q6, q7⟩ := hx
    obtain ⟨g, eg⟩ : ∃ g, g = wr (wr (wr (wr (wr (wr (wr (wr (wr (wr (wr f 11 D (nI b1)) 12 D (nI b2)) 13 D (nI b3)) 14 D 0) 15 D 0) 16 D 0) 17 D (-1)) 18 D 0) 22 ls.length (nI D)) 23 2 (nI (D+1))) 23 3 (nI (ls.length+1)) := ⟨_, rfl⟩
    rw [← eg]
    have g19 : g 19 = f 19 := by rw [eg]; simp (disch := omega) only [wr_s, wr_n, wr_i]
    have g20 : g 20 = f 20 := by rw [eg]; simp (disch := omega) only [wr_s, wr_n, wr_i]
    have g21 : g 21 = f 21 := by rw [eg]; simp (disch := omega) only [wr_s, wr_n, wr_i]
    have g13 : ∀ d, d ≠ D → g 13 d = f 13 d := fun d hd => by rw [eg]; simp (disch := omega) only [wr_s, wr_n, wr_i]
    have g15 : ∀ d, d ≠ D → g 15 d = f 15 d := fun d hd => by rw [eg]; simp (disch := omega) only [wr_s, wr_n, wr_i]
    have g17 : ∀ d, d ≠ D → g 17 d = f 17 d := fun d hd => by rw [eg]; simp (disch := omega) only [wr_s, wr_n, wr_i]
    have g18 : ∀ d, d ≠ D → g 18 d = f 18 d := fun d hd => by rw [eg]; simp (disch := omega) only [wr_s, wr_n, wr_i]
    have g15D : g 15 D = 0 := by rw [eg]; simp (disch := omega) only [wr_s, wr_n, wr_i]
    have g18D : g 18 D = 0 := by rw [eg]; simp (disch := omega) only [wr_s, wr_n, wr_i]
    refine ⟨?_, iXB_c q2 (Nat.le_refl _) g19 g20 g21, ?_, ?_, iXK_c q5 ?_ ?_, iXE_c q6 (Nat.le_refl _) ?_ ?_, iXS_c q7 ?_ ?_ ?_ ?_ ?_ ?_ ?_ ?_⟩
    all_goals first
      | (rw [eg]; simp (disch := omega) only [wr_s, wr_n, wr_i]; done)
      | skip
    · intro d l h1 h2 h3
      rw [cnt_c g19]
      by_cases e : d = D
      · subst e
        rw [g15D, if_neg (by decide)]
        refine cn_0 (fun p hp12 q => ?_)
        have q := of_decide_eq_true q
        rcases hp p hp12 with c | ⟨d2, c1, c2, c3⟩
        · rw [c] at q
          exact iM_ne_nI (by omega) q
        · rw [c2] at q
          have := (nI_eq (by omega) (by omega)).mp q
          omega
      · rw [g13 d e] at h3
        rw [g15 d e]
        exact q1 d l (by omega) h2 h3
    · intro d h1 h2
      by_cases e : d = D
      · subst e
        rw [g15D] at h2
        rcases h2 with h2 | h2
        · exact absurd h2 (by decide)
        · exact absurd h2 (by decide)
      · rw [g15 d e] at h2
        rw [g17 d e]
        exact q3 d (by omega) h2
    · intro d l h1 h2 h3
      by_cases e : d = D
      · subst e
        exact ⟨0, Nat.zero_le _, g18D⟩
      · rw [g13 d e] at h3
        rw [g18 d e]
        exact q4 d l (by omega) h2 h3
theorem X_exchange {f f' : bkA} {K D T N : Nat} {σ a b x : Int32} (hx : IX9 f K D T σ) (h : m7_exchange N f a b = some (x, f')) : IX9 f' K D T σ := by
  unfold m7_exchange at h
  obtain ⟨x1, _, h⟩ := ob1_e h
  obtain ⟨x2, _, h⟩ := ob1_e h
  simp only [ltx_s] at h
  have e := (Prod.mk.inj (Option.some.inj h)).2
  rw [← e]
  refine IX9_c hx (Nat.le_refl _) ?_ ?_
  · intro j hj
    rw [ur_n (by omega), ur_n (by omega)]
  · intro k hk
    rw [ur_n (by decide), ur_n (by decide)]
theorem i_s1 {a b c v g : Int32} : a + (g + v - g) + b + c = a + b + c + v := by grind
theorem i_s2 {a v g : Int32} : a + (g + v - g) = a + v := by grind
theorem i_s3 {a b c v g w : Int32} : a + (g + -v - g) + (b + (w + v - w)) + c = a + b + c := by grind
theorem i_s4 {a b v : Int32} : (a + v) - (b + v) = a - b := by grind
theorem X_takeLogs {f : bkA} {K D T b1 : Nat} {σ a2 : Int32} (hx : IX9 f K D T σ) (hb : b1 < 8) : ∃ x f', m7_takeLogs f (nI b1) a2 = (x, f') ∧ IX9 f' K D T σ := by
  refine ⟨f 5 b1 + a2, wr (wr (wr f 5 b1 (f 5 b1 + a2)) 8 b1 (f 8 b1 + a2)) 23 8 (f 23 8 + a2), ?_, ?_⟩
  · unfold m7_takeLogs
    simp (disch := omega) only [ltx_s, wr_inc, wr_u]
    simp (disch := omega) only [wr_s, wr_n, wr_i, rat_nI]
  · obtain ⟨q1, q2, q3, q4, q5, q6, q7⟩ := hx
    refine ⟨iXP_c q1 ?_ ?_ ?_, iXB_c q2 (Nat.le_refl _) ?_ ?_ ?_, iXL_c q3 (Nat.le_refl _) ?_ ?_, iXU_c q4 ?_ ?_, iXK_c q5 ?_ ?_, iXE_c q6 (Nat.le_refl _) ?_ ?_, ?_⟩
    all_goals first
      | (simp (disch := omega) only [wr_s, wr_n, wr_i]; done)
      | skip
    obtain ⟨s1, s2, s3, s4, s5⟩ := q7
    have r5 : wr (wr (wr f 5 b1 (f 5 b1 + a2)) 8 b1 (f 8 b1 + a2)) 23 8 (f 23 8 + a2) 5 = upd (f 5) b1 (f 5 b1 + a2) := by
      rw [wr_n (by decide), wr_n (by decide), wr_r]
    have r8 : wr (wr (wr f 5 b1 (f 5 b1 + a2)) 8 b1 (f 8 b1 + a2)) 23 8 (f 23 8 + a2) 8 = upd (f 8) b1 (f 8 b1 + a2) := by
      rw [wr_n (by decide), wr_r, wr_n (by decide)]
    unfold iXS
    rw [r5, r8, sI_upd hb, sI_upd hb]
    simp (disch := omega) only [wr_s, wr_n, wr_i]
    refine ⟨?_, ?_, s3, s4, s5⟩
    · rw [i_s1, s1]
    · rw [i_s2, s2]
theorem X_burnLogs {f : bkA} {K D T b1 : Nat} {σ a2 : Int32} (hx : IX9 f K D T σ) (hb : b1 < 8) : ∃ x f', m7_burnLogs f (nI b1) a2 = (x, f') ∧ IX9 f' K D T σ := by
  refine ⟨f 23 4 + 25 * a2, wr (wr (wr (wr (wr f 5 b1 (f 5 b1 + -a2)) 7 b1 (f 7 b1 + a2)) 23 6 (f 23 6 + a2)) 23 7 (f 23 7 + a2)) 23 4 (f 23 4 + 25 * a2), ?_, ?_⟩
  · unfold m7_burnLogs
    simp (disch := omega) only [ltx_s, wr_inc, wr_u]
    simp (disch := omega) only [wr_s, wr_n, wr_i]
  · obtain ⟨q1, q2, q3, q4, q5, q6, q7⟩ := hx
    refine ⟨iXP_c q1 ?_ ?_ ?_, iXB_c q2 (Nat.le_refl _) ?_ ?_ ?_, iXL_c q3 (Nat.le_refl _) ?_ ?_, iXU_c q4 ?_ ?_, iXK_c q5 ?_ ?_, iXE_c q6 (Nat.le_refl _) ?_ ?_, ?_⟩
    all_goals first
      | (simp (disch := omega) only [wr_s, wr_n, wr_i]; done)
      | skip
    obtain ⟨s1, s2, s3, s4, s5⟩ := q7
    obtain ⟨g, eg⟩ : ∃ g, g = wr (wr (wr (wr (wr f 5 b1 (f 5 b1 + -a2)) 7 b1 (f 7 b1 + a2)) 23 6 (f 23 6 + a2)) 23 7 (f 23 7 + a2)) 23 4 (f 23 4 + 25 * a2) := ⟨_, rfl⟩
    have r5 : g 5 = upd (f 5) b1 (f 5 b1 + -a2) := by
      rw [eg, wr_n (by decide), wr_n (by decide), wr_n (by decide), wr_n (by decide), wr_r]
    have r7 : g 7 = upd (f 7) b1 (f 7 b1 + a2) := by
      rw [eg, wr_n (by decide), wr_n (by decide), wr_n (by decide), wr_r, wr_n (by decide)]
    have r8 : g 8 = f 8 := by rw [eg]; simp (disch := omega) only [wr_n]
    have r9 : g 9 = f 9 := by rw [eg]; simp (disch := omega) only [wr_n]
    have c6 : g 23 6 = f 23 6 + a2 := by rw [eg]; simp (disch := omega) only [wr_s, wr_n, wr_i]
    have c7 : g 23 7 = f 23 7 + a2 := by rw [eg]; simp (disch := omega) only [wr_s, wr_n, wr_i]
    have c8 : g 23 8 = f 23 8 := by rw [eg]; simp (disch := omega) only [wr_s, wr_n, wr_i]
    have c10 : g 23 10 = f 23 10 := by rw [eg]; simp (disch := omega) only [wr_s, wr_n, wr_i]
    rw [← eg]
    unfold iXS
    rw [r5, r7, r8, r9, c6, c7, c8, c10, sI_upd hb, sI_upd hb]
    refine ⟨?_, s2, ?_, ?_, s5⟩
    · rw [i_s3, s1]
    · rw [i_s2, s3]
    · rw [i_s4, s4]
