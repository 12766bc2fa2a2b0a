/-! p29: a tick, phase by phase: heating, taking out -/
def HTB (f f' : bkA) (p : Nat) : Prop := (f' 20 p = f 20 p ∧ f' 21 p = f 21 p) ∨ (f' 20 p = f 20 p + 1 ∧ f' 21 p = f 21 p) ∨ (f' 20 p = f 20 p + 1 ∧ f' 21 p = f 21 p + 1)
theorem X_heatl {f : bkA} {N K H D t T : Nat} {ls : List Nat} (h0 : IV0 f K H D ls t T) (hk : iXK f K) : ∀ (m p n : Nat) (g f' : bkA), p + m = 12 → (∀ j, j ≠ 6 → j ≠ 20 → j ≠ 21 → g j = f j) → (∀ q, p ≤ q → g 20 q = f 20 q ∧ g 21 q = f 21 q) → (∀ q, q < p → HTB f g q) → m7_heatLoaves_L2 N n (nI p) g = some f' → (∀ j, j ≠ 6 → j ≠ 20 → j ≠ 21 → f' j = f j) ∧ ∀ q, q < 12 → HTB f f' q
  | m, p, 0, g, f', hp, x1, x2, x3, h => by
    rw [m7_heatLoaves_L2] at h
    cases h
  | 0, p, n+1, g, f', hp, x1, x2, x3, h => by
    have e : p = 12 := by omega
    subst e
    rw [m7_heatLoaves_L2, if_pos (by decide)] at h
    rw [← Option.some.inj h]
    exact ⟨x1, x3⟩
  | m+1, p, n+1, g, f', hp, x1, x2, x3, h => by
    have hp12 : p < 12 := by omega
    have h12 : ¬ (12 : Int32) ≤ nI p := nI_ge hp12 (by decide)
    obtain ⟨⟨e0, e1, e2, e3, e4, e5, hK, hH, hD, ht⟩, hd, hl, hpl, hh⟩ := id h0
    have q19 : g 19 = f 19 := x1 19 (by decide) (by decide) (by decide)
    rw [m7_heatLoaves_L2, if_neg h12, isFree5 hp12] at h
    unfold fr at h
    rw [q19] at h
    -- the two writes
    have key : ∀ (v20 v21 : Int32) (b : Nat) (v : Int32), (v20 = g 20 p ∧ v21 = g 21 p) ∨ (v20 = g 20 p + 1 ∧ v21 = g 21 p) ∨ (v20 = g 20 p + 1 ∧ v21 = g 21 p + 1) → m7_heatLoaves_L2 N n (nI (p+1)) (wr (wr (wr g 20 p v20) 21 p v21) 6 b v) = some f' → (∀ j, j ≠ 6 → j ≠ 20 → j ≠ 21 → f' j = f j) ∧ ∀ q, q < 12 → HTB f f' q := by
      intro v20 v21 b v hv hh2
      have g20 : ∀ q, wr (wr (wr g 20 p v20) 21 p v21) 6 b v 20 q = if q = p then v20 else g 20 q := by
        intro q
        rw [wr_n (by decide), wr_n (by decide)]
        by_cases e : q = p
        · subst e
          rw [wr_s, if_pos rfl]
        · rw [wr_i e, if_neg e]
      have g21 : ∀ q, wr (wr (wr g 20 p v20) 21 p v21) 6 b v 21 q = if q = p then v21 else g 21 q := by
        intro q
        rw [wr_n (by decide)]
        by_cases e : q = p
        · subst e
          rw [wr_s, if_pos rfl]
        · rw [wr_i e, if_neg e, wr_n (by decide)]
      refine X_heatl h0 hk m (p+1) n _ f' (by omega) ?_ ?_ ?_ hh2
      · intro j h6 h20 h21
        rw [wr_n h6, wr_n h21, wr_n h20]
        exact x1 j h6 h20 h21
      · intro q hq
        rw [g20 q, g21 q, if_neg (by omega), if_neg (by omega)]
        exact x2 q (by omega)
      · intro q hq
        unfold HTB
        rw [g20 q, g21 q]
        by_cases e : q = p
        · subst e
          rw [if_pos rfl, if_pos rfl, ← (x2 q (Nat.le_refl q)).1, ← (x2 q (Nat.le_refl q)).2]
          exact hv
        · rw [if_neg e, if_neg e]
          exact x3 q (by omega)
    by_cases c : f 19 p = -1
    · rw [decide_eq_true c, if_pos rfl] at h
      simp only [lt1_s, z1, ltx_s, nI_1] at h
      refine X_heatl h0 hk m (p+1) n g f' (by omega) x1 (fun q hq => x2 q (by omega)) ?_ h
      intro q hq
      by_cases e : q = p
      · subst e
        exact Or.inl (x2 q (Nat.le_refl q))
      · exact x3 q (by omega)
    · rcases hpl p hp12 with c2 | ⟨d, d1, d2, d3⟩
      · exact absurd c2 c
      obtain ⟨⟨b, b1, b2⟩, ⟨k, k1, k2⟩, _⟩ := hd d d1
      obtain ⟨la, lb, l1, l2, l3, l4⟩ := hk k k1
      have d16 : d < 16 := by omega
      have k5 : k < 5 := by omega
      have b8 : b < 8 := by omega
      have g12 : g 12 = f 12 := x1 12 (by decide) (by decide) (by decide)
      have g11 : g 11 = f 11 := x1 11 (by decide) (by decide) (by decide)
      have g0 : g 0 = f 0 := x1 0 (by decide) (by decide) (by decide)
      have g1 : g 1 = f 1 := x1 1 (by decide) (by decide) (by decide)
      have e4' : g 23 4 = nI t := by
        rw [x1 23 (by decide) (by decide) (by decide)]
        exact e4
      have n120 : (1 : Nat) ≠ 20 := by decide
      have s12 : (12 : Nat) < 2^31 := by decide
      have s16 : (16 : Nat) < 2^31 := by decide
      have s5 : (5 : Nat) < 2^31 := by decide
      have s8 : (8 : Nat) < 2^31 := by decide
      have cm : m7_warmthOf (nI p) (nI t) = nI (t - 20 * (p / 4)) := warm7 ht hp12
      rw [decide_eq_false c, if_neg (by decide)] at h
      simp only [lt1_s, z0, ltx_s, rat_nI hp12 s12, q19, d2, rat_nI d16 s16, g12, k2, e4', cm, rat_nI k5 s5, g0, g1, l3, nI_1] at h
      by_cases A : nI (t - 20 * (p / 4)) < nI la
      · have B : nI (t - 20 * (p / 4)) ≤ nI lb := by
          have hA : t - 20 * (p / 4) < la := by
            by_cases z : t - 20 * (p / 4) < la
            · exact z
            · exact absurd A (nI_nlt (by omega) (by omega))
          exact nI_le (by omega) (by omega)
        simp only [if_pos A, g1, l4, if_pos B, g11, b2, wr_inc b8 s8] at h
        refine key (g 20 p) (g 21 p) b (g 6 b + 1) (Or.inl ⟨rfl, rfl⟩) ?_
        rw [wr_self, wr_self]
        exact h
      · by_cases B : nI (t - 20 * (p / 4)) ≤ nI lb
        · simp only [if_neg A, wr_inc hp12 s12, wr_n (f := g) (i := p) (v := g 20 p + 1) n120, g1, rat_nI k5 s5, l4, if_pos B, wr_n (f := g) (i := p) (v := g 20 p + 1) (show (11 : Nat) ≠ 20 by decide), g11, rat_nI d16 s16, b2, wr_inc b8 s8] at h
          refine key (g 20 p + 1) (g 21 p) b (wr g 20 p (g 20 p + 1) 6 b + 1) (Or.inr (Or.inl ⟨rfl, rfl⟩)) ?_
          have e21 : g 21 p = wr g 20 p (g 20 p + 1) 21 p := by rw [wr_n (by decide)]
          rw [e21, wr_self]
          exact h
        · simp only [if_neg A, wr_inc hp12 s12, wr_n (f := g) (i := p) (v := g 20 p + 1) n120, g1, rat_nI k5 s5, l4, if_neg B] at h
          have e21 : wr g 20 p (g 20 p + 1) 21 = g 21 := wr_n (by decide)
          rw [e21] at h
          have f11 : wr (wr g 20 p (g 20 p + 1)) 21 p (g 21 p + 1) 11 d = nI b := by
            rw [wr_n (by decide), wr_n (by decide), g11, b2]
          rw [f11, wr_inc b8 s8] at h
          exact key (g 20 p + 1) (g 21 p + 1) b _ (Or.inr (Or.inr ⟨rfl, rfl⟩)) h
theorem X_heat {f f' : bkA} {N K H D t T : Nat} {ls : List Nat} (h0 : IV0 f K H D ls t T) (hk : iXK f K) (e : m7_heatLoaves N f = some f') : (∀ j, j ≠ 6 → j ≠ 20 → j ≠ 21 → f' j = f j) ∧ ∀ q, q < 12 → HTB f f' q := by
  unfold m7_heatLoaves at e
  obtain ⟨g, h1, h2⟩ := ob1_e e
  rw [← Option.some.inj h2]
  exact X_heatl h0 hk 12 0 N f g rfl (fun _ _ _ _ => rfl) (fun _ _ => ⟨rfl, rfl⟩) (fun q hq => absurd hq (by omega)) h1
theorem X_outl {f : bkA} {N d : Nat} (hd : d < 16) : ∀ (m p n c : Nat) (g : bkA) (x : Int32) (f' : bkA), p + m = 12 → (∀ j, j ≠ 19 → g j = f j) → (∀ q, g 19 q = if q < p ∧ f 19 q = nI d then iM else f 19 q) → c ≤ cn (fun q => decide (f 19 q = nI d)) p → m7_takeOut_L4 N n (nI d) (nI c) (nI p) g = some (x, f') → (∀ j, j ≠ 19 → f' j = f j) ∧ (∀ q, q < 12 → f' 19 q = if f 19 q = nI d then iM else f 19 q) ∧ ∃ b, x = nI b ∧ b ≤ cnt f d
  | m, p, 0, c, g, x, f', hp, x1, x2, x3, h => by
    rw [m7_takeOut_L4] at h
    cases h
  | 0, p, n+1, c, g, x, f', hp, x1, x2, x3, h => by
    have e : p = 12 := by omega
    subst e
    rw [m7_takeOut_L4, if_pos (by decide)] at h
    have h := Prod.mk.inj (Option.some.inj h)
    rw [← h.1, ← h.2]
    refine ⟨x1, ?_, c, rfl, x3⟩
    intro q hq
    rw [x2 q]
    have p1 : (q < 12 ∧ f 19 q = nI d) ↔ f 19 q = nI d := ⟨fun z => z.2, fun z => ⟨hq, z⟩⟩
    simp only [p1]
  | m+1, p, n+1, c, g, x, f', hp, x1, x2, x3, h => by
    have hp12 : p < 12 := by omega
    have h12 : ¬ (12 : Int32) ≤ nI p := nI_ge hp12 (by decide)
    have e19 : g 19 p = f 19 p := by rw [x2 p, if_neg (by omega)]
    rw [m7_takeOut_L4, if_neg h12, rat_nI hp12 (by decide), e19] at h
    by_cases cc : f 19 p = nI d
    · have hc := cn_t (P := fun q => decide (f 19 q = nI d)) (n := p) (decide_eq_true cc)
      have y2 : ∀ q, wr g 19 p iM 19 q = if q < p + 1 ∧ f 19 q = nI d then iM else f 19 q := by
        intro q
        by_cases e : q = p
        · subst e
          rw [wr_s, if_pos ⟨by omega, cc⟩]
        · rw [wr_i e, x2 q]
          have p1 : (q < p + 1 ∧ f 19 q = nI d) ↔ (q < p ∧ f 19 q = nI d) := ⟨fun z => ⟨by omega, z.2⟩, fun z => ⟨by omega, z.2⟩⟩
          simp only [p1]
      have y1 : ∀ j, j ≠ 19 → wr g 19 p iM j = f j := fun j hj => by rw [wr_n hj]; exact x1 j hj
      rw [if_pos cc] at h
      simp only [lt1_s, ltx_s, lt2_s, wr_put hp12 (show (12 : Nat) < 2^31 by decide), nI_1] at h
      by_cases c2 : rat 12 (g 21) (nI p) < 3
      · rw [if_pos c2] at h
        exact X_outl hd m (p+1) n c _ x f' (by omega) y1 y2 (by omega) h
      · rw [if_neg c2] at h
        exact X_outl hd m (p+1) n (c+1) _ x f' (by omega) y1 y2 (by omega) h
    · have hc := cn_f (P := fun q => decide (f 19 q = nI d)) (n := p) (fun z => cc (of_decide_eq_true z))
      rw [if_neg cc] at h
      simp only [ltx_s, lt2_s, nI_1] at h
      refine X_outl hd m (p+1) n c g x f' (by omega) x1 ?_ (by omega) h
      intro q
      rw [x2 q]
      have p1 : (q < p + 1 ∧ f 19 q = nI d) ↔ (q < p ∧ f 19 q = nI d) := ⟨fun z => ⟨by
        by_cases e : q = p
        · subst e
          exact absurd z.2 cc
        · omega, z.2⟩, fun z => ⟨by omega, z.2⟩⟩
      simp only [p1]
/-- the dough d is taken out -/
theorem X_takeOut {f f' : bkA} {N d b l : Nat} (hd : d < 16) (hb : b < 8) (e11 : f 11 d = nI b) (e13 : f 13 d = nI l) (e : m7_takeOut N f (nI d) = some f') : ∃ c, c ≤ cnt f d ∧ (∀ j, j ≠ 9 → j ≠ 10 → j ≠ 15 → j ≠ 18 → j ≠ 19 → j ≠ 23 → f' j = f j) ∧ f' 15 = upd (f 15) d 2 ∧ f' 18 = upd (f 18) d (nI c) ∧ f' 9 = upd (f 9) b (f 9 b + nI l) ∧ f' 10 = upd (f 10) b (f 10 b + nI c) ∧ (∀ k, k ≠ 10 → f' 23 k = f 23 k) ∧ f' 23 10 = f 23 10 + nI l ∧ ∀ q, q < 12 → f' 19 q = if f 19 q = nI d then iM else f 19 q := by
  unfold m7_takeOut at e
  obtain ⟨x, g, h1, h2⟩ := ob2_e e
  obtain ⟨a1, a2, c, a3, a4⟩ := X_outl hd 12 0 N 0 f x g rfl (fun _ _ => rfl) (fun q => (if_neg (by omega)).symm) (Nat.zero_le _) h1
  have g11 : g 11 d = nI b := by rw [a1 11 (by decide)]; exact e11
  have g13 : g 13 d = nI l := by rw [a1 13 (by decide)]; exact e13
  rw [rat_nI hd (by decide), g11, ltx_s, rat_nI hd (by decide), g13, ltx_s, wr_put hd (by decide), ltx_s, wr_put hd (by decide), ltx_s, wr_inc hb (by decide), ltx_s, wr_inc hb (by decide), ltx_s, wr_u, ltx_s] at h2
  rw [← Option.some.inj h2]
  subst a3
  refine ⟨c, a4, ?_, ?_, ?_, ?_, ?_, ?_, ?_, ?_⟩
  · intro j j9 j10 j15 j18 j19 j23
    rw [wr_n j23, wr_n j10, wr_n j9, wr_n j18, wr_n j15]
    exact a1 j j19
  · rw [wr_n (by decide), wr_n (by decide), wr_n (by decide), wr_n (by decide), wr_r, a1 15 (by decide)]
  · rw [wr_n (by decide), wr_n (by decide), wr_n (by decide), wr_r, wr_n (by decide), a1 18 (by decide)]
  · rw [wr_n (by decide), wr_n (by decide), wr_r, wr_n (by decide), wr_n (by decide), a1 9 (by decide)]
  · rw [wr_n (by decide), wr_r, wr_n (by decide), wr_n (by decide), wr_n (by decide), a1 10 (by decide)]
  · intro k hk
    rw [wr_i hk, wr_n (by decide), wr_n (by decide), wr_n (by decide), wr_n (by decide), a1 23 (by decide)]
  · rw [wr_s, wr_n (by decide), wr_n (by decide), wr_n (by decide), wr_n (by decide), a1 23 (by decide)]
  · intro q hq
    rw [wr_n (by decide), wr_n (by decide), wr_n (by decide), wr_n (by decide), wr_n (by decide)]
    exact a2 q hq
def IXM (f : bkA) (K D T M : Nat) (σ : Int32) : Prop := iXP f D ∧ iXB f T ∧ iXL f D T ∧ iXU f D ∧ iXK f K ∧ iXE f M ∧ iXS f σ
theorem IXM_m {f : bkA} {K D T M M' : Nat} {σ : Int32} (h : IXM f K D T M σ) (hM : M ≤ M') : IXM f K D T M' σ := ⟨h.1, h.2.1, h.2.2.1, h.2.2.2.1, h.2.2.2.2.1, iXE_c h.2.2.2.2.2.1 hM rfl rfl, h.2.2.2.2.2.2⟩
theorem X_out1 {f f' : bkA} {K H D t T T' M N d : Nat} {σ : Int32} {ls : List Nat} (h0 : IV0 f K H D ls t T) (hx : IXM f K D T' M σ) (hdD : d < D) (h15 : f 15 d = nI 1) (e : m7_takeOut N f (nI d) = some f') : IXM f' K D T' (M + 4) σ := by
  obtain ⟨⟨e0, e1, e2, e3, e4, e5, hK, hH, hD, ht⟩, hd, hl, hpl, hh⟩ := h0
  obtain ⟨⟨b, b1, b2⟩, _, ⟨l, l1, l4, l3⟩, _⟩ := hd d hdD
  have d16 : d < 16 := by omega
  have b8 : b < 8 := by omega
  obtain ⟨c, c1, cj, c15, c18, c9, c10, ci, c23, c19⟩ := X_takeOut d16 b8 b2 l3 e
  obtain ⟨q1, q2, q3, q4, q5, q6, s1, s2, s3, s4, s5⟩ := hx
  have hcl : cnt f d = l := by rw [q1 d l hdD l4 l3, if_pos h15]
  refine ⟨?_, ?_, ?_, ?_, iXK_c q5 (cj 0 (by decide) (by decide) (by decide) (by decide) (by decide) (by decide)) (cj 1 (by decide) (by decide) (by decide) (by decide) (by decide) (by decide)), ?_, ?_⟩
  · intro z l' z1 z2 z3
    rw [cj 13 (by decide) (by decide) (by decide) (by decide) (by decide) (by decide)] at z3
    rw [c15]
    by_cases ez : z = d
    · subst ez
      rw [pk_us, if_neg (by decide)]
      refine cn_0 (fun q hq w => ?_)
      have w := of_decide_eq_true w
      rw [c19 q hq] at w
      by_cases cc : f 19 q = nI z
      · rw [if_pos cc] at w
        exact iM_ne_nI (by omega) w
      · rw [if_neg cc] at w
        exact cc w
    · rw [pk_un ez, ← q1 z l' z1 z2 z3]
      refine cn_congr (fun q hq => ?_)
      rw [c19 q hq]
      by_cases cc : f 19 q = nI d
      · rw [if_pos cc, cc, decide_eq_false (iM_ne_nI (by omega)), decide_eq_false (fun w => ez ((nI_eq (by omega) (by omega)).mp w).symm)]
      · rw [if_neg cc]
  · intro q hq hn
    rw [c19 q hq] at hn
    rw [cj 20 (by decide) (by decide) (by decide) (by decide) (by decide) (by decide), cj 21 (by decide) (by decide) (by decide) (by decide) (by decide) (by decide)]
    by_cases cc : f 19 q = nI d
    · rw [if_pos cc] at hn
      exact absurd rfl hn
    · rw [if_neg cc] at hn
      exact q2 q hq hn
  · intro z z1 z2
    rw [cj 17 (by decide) (by decide) (by decide) (by decide) (by decide) (by decide)]
    by_cases ez : z = d
    · subst ez
      exact q3 z z1 (Or.inl h15)
    · rw [c15, pk_un ez] at z2
      exact q3 z z1 z2
  · intro z l' z1 z2 z3
    rw [cj 13 (by decide) (by decide) (by decide) (by decide) (by decide) (by decide)] at z3
    rw [c18]
    by_cases ez : z = d
    · subst ez
      rw [pk_us]
      rw [l3] at z3
      have := (nI_eq (by omega) (by omega)).mp z3
      exact ⟨c, by omega, rfl⟩
    · rw [pk_un ez]
      exact q4 z l' z1 z2 z3
  · intro z z8
    obtain ⟨u, v, u1, u2, u3, u4⟩ := q6 z z8
    rw [c9, c10]
    by_cases ez : z = b
    · subst ez
      rw [pk_us, pk_us, u3, u4, nI_add, nI_add]
      exact ⟨u + l, v + c, by omega, by omega, rfl, rfl⟩
    · rw [pk_un ez, pk_un ez]
      exact ⟨u, v, u1, by omega, u3, u4⟩
  · unfold iXS
    rw [cj 5 (by decide) (by decide) (by decide) (by decide) (by decide) (by decide), cj 7 (by decide) (by decide) (by decide) (by decide) (by decide) (by decide), cj 8 (by decide) (by decide) (by decide) (by decide) (by decide) (by decide), c9, ci 6 (by decide), ci 7 (by decide), ci 8 (by decide), c23, sI_upd b8, i_s2, s5]
    exact ⟨s1, s2, s3, s4, rfl⟩
theorem X_done {K H D t T T' N M : Nat} {σ : Int32} {ls : List Nat} (hN : 100 < N) : ∀ (m i n : Nat) (c : Int32) (g : bkA) (r : Nat → Int32) (o x : Int32) (f' : bkA), i + m = D → IV0 g K H D ls t T → RGo g r o → LN r 213 ls → IXM g K D T' (M + 4 * i) σ → m7_takeOutDone_L4 N n c (nI i) g = some (x, f') → IXM f' K D T' (M + 4 * D) σ
  | m, i, 0, c, g, r, o, x, f', hi, h0, hR, hL, hx, h => by
    rw [m7_takeOutDone_L4] at h
    cases h
  | 0, i, n+1, c, g, r, o, x, f', hi, h0, hR, hL, hx, h => by
    have e : i = D := by omega
    subst e
    rw [m7_takeOutDone_L4, h0.1.2.2.1, if_pos (Int32.le_refl _)] at h
    rw [← (Prod.mk.inj (Option.some.inj h)).2]
    exact hx
  | m+1, i, n+1, c, g, r, o, x, f', hi, h0, hR, hL, hx, h => by
    have hD16 : D ≤ 16 := h0.1.2.2.2.2.2.2.2.2.1
    have hiD : i < D := by omega
    rw [m7_takeOutDone_L4, h0.1.2.2.1, if_neg (nI_ge hiD (by omega)), rat_nI (by omega) (by decide)] at h
    obtain ⟨y, g1, h1, hB⟩ := ob2_e h
    clear h
    rw [ltx_s, nI_1] at hB
    have skip : g1 = g → IXM f' K D T' (M + 4 * D) σ := by
      intro e
      rw [e] at hB
      exact X_done hN m (i+1) n y g r o x f' (by omega) h0 hR hL (IXM_m hx (by omega)) hB
    by_cases h15 : g 15 i = nI 1
    · rw [if_pos (show g 15 i = 1 from h15)] at h1
      obtain ⟨v, h2, h3⟩ := ob1_e h1
      by_cases v0 : v = 0
      · rw [if_pos v0] at h3
        exact skip ((Prod.mk.inj (Option.some.inj h3)).2).symm
      · rw [if_neg v0] at h3
        obtain ⟨g2, h4, h5⟩ := ob1_e h3
        simp only [ltx_s] at h5
        have e5 := (Prod.mk.inj (Option.some.inj h5)).2
        obtain ⟨f2, r2, t1, t2, t3, t4, t5, t6, t7, t8⟩ := S_takeOut (N := N) h0 hR hL hiD h15 hN
        rw [h4] at t1
        have e6 := Option.some.inj t1
        rw [← e6] at t3 t4
        have hx2 := X_out1 h0 hx hiD h15 h4
        rw [e5] at t3 t4 hx2
        exact X_done hN m (i+1) n y g1 r2 _ x f' (by omega) t3 t4 t5 (IXM_m hx2 (by omega)) hB
    · rw [if_neg (show ¬ g 15 i = 1 from h15)] at h1
      exact skip ((Prod.mk.inj (Option.some.inj h1)).2).symm
