/-! all that is done is taken out; the oven cools down; a tick -/
def OUTP (f : bkA) (K H D : Nat) (ls : List Nat) (t T : Nat) (o : Int32) (c : Nat) (f2 : bkA) (r2 : Nat → Int32) : Prop := IV0 f2 K H D ls t T ∧ RGo f2 r2 (o + nI c) ∧ LN r2 213 ls ∧ f2 6 = f 6 ∧ (∀ k, k ≠ 10 → f2 23 k = f 23 k) ∧ (∀ e, e < D → f 15 e = nI 3 → f2 15 e = nI 3) ∧ (∀ e, e < D → f 15 e = nI 1 ∨ f 15 e = nI 2 → f2 15 e = nI 1 ∨ f2 15 e = nI 2) ∧ (∀ e, e < D → f2 15 e = nI 3 → f 15 e = nI 3)
theorem S_out {f : bkA} {r : Nat → Int32} {K H D t T N : Nat} {o x11 x12 : Int32} {ls : List Nat} (h : IV0 f K H D ls t T) (hR : RGo f r o) (hL : LN r 213 ls) (hN : 100 < N) : ∃ c f2 r2, c ≤ D ∧ m7_takeOutDone N f = some (nI c, f2) ∧ m9_tick_L23 N N x11 x12 0 0 r = some (nI c, r2) ∧ OUTP f K H D ls t T o c f2 r2 := by
  have hD16 : D ≤ 16 := h.1.2.2.2.2.2.2.2.2.1
  have hK5 : K ≤ 5 := h.1.2.2.2.2.2.2.1
  have q : ∃ c f2 r2, c ≤ D ∧ m7_takeOutDone_L4 N N (nI 0) (nI 0) f = some (nI c, f2) ∧ m9_tick_L23 N N x11 x12 (nI 0) (nI 0) r = some (nI c, r2) ∧ OUTP f K H D ls t T o c f2 r2 := by
    refine loop_i (σ := Int32 × bkA × (Nat → Int32)) (fun n i x => ∃ c f2 r2, c ≤ D ∧ m7_takeOutDone_L4 N n x.1 (nI i) x.2.1 = some (nI c, f2) ∧ m9_tick_L23 N n x11 x12 x.1 (nI i) x.2.2 = some (nI c, r2) ∧ OUTP f K H D ls t T o c f2 r2) (fun i x => ∃ c, x.1 = nI c ∧ c ≤ i ∧ OUTP f K H D ls t T o c x.2.1 x.2.2) D ?_ ?_ N 0 (nI 0, f, r) (by omega) (by omega) ⟨0, rfl, Nat.le_refl _, h, by rw [show nI 0 = 0 from rfl, Int32.add_zero]; exact hR, hL, rfl, fun _ _ => rfl, fun _ _ q => q, fun _ _ q => q, fun _ _ q => q⟩
    · intro n x hx
      obtain ⟨c, c1, c2, hx⟩ := hx
      have e2 : x.2.1 23 2 = nI D := hx.1.1.2.2.1
      refine ⟨c, x.2.1, x.2.2, c2, ?_, ?_, hx⟩
      · rw [m7_takeOutDone_L4, e2, if_pos (Int32.le_refl _), c1]
      · rw [m9_tick_L23, c9_4, h9_4, RGo_i2 hx.2.1, e2, if_pos (Int32.le_refl _), c1]
    · intro n d x hdD hx ih
      obtain ⟨x0, f1, r1⟩ := x
      obtain ⟨c, c1, c2, hx⟩ := hx
      have hx0 := hx
      obtain ⟨g1, g2, g3, g4, g5, g6, g7, g8⟩ := hx
      dsimp only at c1 g1 g2 g3 g4 g5 g6 g7 g8 ⊢
      subst c1
      have d16 : d < 16 := by omega
      have e2 : f1 23 2 = nI D := g1.1.2.2.1
      obtain ⟨_, ⟨k, k1, k2⟩, _⟩ := g1.2.1 d hdD
      rw [m7_takeOutDone_L4, m9_tick_L23, e2, if_neg (nI_ge hdD (by omega)), c9_4, h9_4, RGo_i2 g2, e2, if_neg (nI_ge hdD (by omega)), rat_nI d16 (by decide)]
      by_cases h15 : f1 15 d = nI 1
      · obtain ⟨b, b1, b2, b3⟩ := S_baked (N := N) g2 d16 (by omega) k2 h15 hN
        rw [if_pos (show f1 15 d = 1 from h15), b2, b3, ob1_s, ob1_s]
        rcases b1 with b1 | b1
        · subst b1
          simp only [if_true, ob2_s, ltx_s, nI_1]
          exact ih (nI c, f1, r1) ⟨c, rfl, by omega, hx0⟩
        · subst b1
          obtain ⟨f2, r2, t1, t2, t3, t4, t5, t6, t7, t8⟩ := S_takeOut (N := N) g1 g2 g3 hdD h15 hN
          simp only [if_neg n10, t1, t2, ob1_s, ob2_s, ltx_s, nI_1]
          refine ih (nI (c+1), f2, r2) ⟨c+1, rfl, by omega, t3, ?_, t5, t6.trans g4, ?_, ?_, ?_, ?_⟩
          · dsimp only
            rw [Int32.add_assoc, nI_1] at t4
            exact t4
          · intro k' hk'
            exact (t7 k' hk').trans (g5 k' hk')
          · intro e heD q
            have q2 := g6 e heD q
            have ne : e ≠ d := by
              intro q3
              subst q3
              rw [h15] at q2
              exact absurd q2 (by decide)
            dsimp only
            rw [t8, pk_un ne]
            exact q2
          · intro e heD q
            dsimp only
            rw [t8]
            by_cases ne : e = d
            · subst ne
              rw [pk_us]
              exact Or.inr rfl
            · rw [pk_un ne]
              exact g7 e heD q
          · intro e heD q
            dsimp only at q
            rw [t8] at q
            by_cases ne : e = d
            · subst ne
              rw [pk_us] at q
              exact absurd q (by decide)
            · rw [pk_un ne] at q
              exact g8 e heD q
      · rw [if_neg (show ¬ f1 15 d = 1 from h15), baked9_no g2 d16 h15 hN, ob1_s]
        simp only [if_true, ob2_s, ltx_s, nI_1]
        exact ih (nI c, f1, r1) ⟨c, rfl, by omega, hx0⟩
  obtain ⟨c, f2, r2, q0, q1, q2, q3⟩ := q
  have q1' : m7_takeOutDone_L4 N N 0 0 f = some (nI c, f2) := q1
  refine ⟨c, f2, r2, q0, ?_, q2, q3⟩
  unfold m7_takeOutDone
  rw [q1', ob2_s]
