/-! p29: what was told ahead of some ticks is so behind them -/
theorem sb_s {P : Nat → Bool} {n : Nat} : sb P n ||| (if P n = true then 1 <<< (nI n &&& 31) else 0) = sb P (n+1) := by
  show _ = if P n = true then _ else _
  by_cases c : P n = true
  · rw [if_pos c, if_pos c]
  · rw [if_neg c, if_neg c]
    refine b_ext (fun i hi => ?_)
    rw [b_or, b_0, Bool.or_false]
theorem bit_sb {P : Nat → Bool} {n d : Nat} (hn : n ≤ 32) (hd : d < n) : (sb P n >>> (nI d &&& 31)) &&& 1 = if P d = true then 1 else 0 := by
  rw [bit_at (by omega), sb_bt n d hn (by omega), decide_eq_true hd, Bool.true_and]
section COMES
variable {f g c : bkA} {y y' : Nat → bkA} {o o' : Nat → Int32} {r : Nat → Int32} {K H D t T N m : Nat} {σ : Int32} {ls : List Nat}
def snP (N : Nat) (f : bkA) (m d : Nat) : Bool := decide (f 15 d = nI 0 ∧ (its N f m 15 d = nI 1 ∨ its N f m 15 d = nI 2))
def nvP (f : bkA) (d : Nat) : Bool := decide (¬ f 15 d = nI 0)
def spP (N : Nat) (f : bkA) (m d : Nat) : Bool := decide (its N f m 15 d = nI 3) && ! decide (f 15 d = nI 3)
theorem spP_mp {d : Nat} (h : spP N f m d = true) : its N f m 15 d = nI 3 ∧ ¬ f 15 d = nI 3 := by
  unfold spP at h
  rw [Bool.and_eq_true] at h
  refine ⟨of_decide_eq_true h.1, fun z => ?_⟩
  have q := h.2
  rw [decide_eq_true z] at q
  exact absurd q (by decide)
theorem spP_mpr {d : Nat} (h1 : its N f m 15 d = nI 3) (h2 : ¬ f 15 d = nI 3) : spP N f m d = true := by
  unfold spP
  rw [decide_eq_true h1, decide_eq_false h2]
  rfl
theorem comes2 (h : SIM f r K H D ls t T) (hx : IX9 f K D T σ) (hT : T ≤ 90000) (hN : 200 < N) (hm : m ≤ 60) : mL_comesTrue_L220 N N (its N f m 23 4) (sb (spP N f m) D) (sb (snP N f m) D) (sb (nvP f) D) 0 (its N f m) g c y' o' = some (1, its N f m, g, y', o') := by
  have hD : D ≤ 16 := h.1.1.2.2.2.2.2.2.2.2.1
  obtain ⟨r', ls', t', a1, a2, a3, a4⟩ := its_ok h hx hN m (by omega)
  have e2 : its N f m 23 2 = nI D := a1.1.1.2.2.1
  have q : mL_comesTrue_L220 N N (its N f m 23 4) (sb (spP N f m) D) (sb (snP N f m) D) (sb (nvP f) D) (nI 0) (its N f m) g c y' o' = some (1, its N f m, g, y', o') := by
    refine loop_i (σ := Unit) (fun n i _ => mL_comesTrue_L220 N n (its N f m 23 4) (sb (spP N f m) D) (sb (snP N f m) D) (sb (nvP f) D) (nI i) (its N f m) g c y' o' = some (1, its N f m, g, y', o')) (fun _ _ => True) D ?_ ?_ N 0 () (by omega) (by omega) trivial
    · intro n s _
      rw [mL_comesTrue_L220, w_2, e2, ob1_s, if_pos (Int32.le_refl _), w_3, ob1_s, if_pos rfl]
    · intro n d s hdD _ ih
      have nx := ih () trivial
      rw [mL_comesTrue_L220, w_2, e2, ob1_s, if_neg (nI_ge hdD (by omega)), bit_sb (by omega) hdD, bit_sb (by omega) hdD, bit_sb (by omega) hdD, d_4 a1 hdD]
      by_cases c0 : f 15 d = nI 0
      · have env : nvP f d = false := decide_eq_false (fun z => z c0)
        obtain ⟨_, _, _, ⟨p, p4, p5⟩, _⟩ := a1.1.2.1 d hdD
        have hp : p = 0 ∨ p = 1 ∨ p = 2 ∨ p = 3 := by omega
        rw [env, p5]
        rcases hp with e | e | e | e
        · subst e
          have e1 : spP N f m d = false := by
            unfold spP
            rw [p5]
            rfl
          have e2 : snP N f m d = false := by
            unfold snP
            rw [p5]
            exact decide_eq_false (fun z => by rcases z.2 with z | z <;> revert z <;> decide)
          rw [e1, e2]
          simp only [Bool.false_eq_true, if_false, lt1_s, ob1_s, if_true, if_neg (show ¬ (0 : Int32) = 1 by decide), if_neg (show ¬ nI 0 = 3 by decide), if_neg (show ¬ nI 0 = 1 by decide), if_neg (show ¬ nI 0 = 2 by decide), ltx_s, nI_1]
          exact nx
        · subst e
          have e1 : spP N f m d = false := by
            unfold spP
            rw [p5]
            rfl
          have e2 : snP N f m d = true := by
            unfold snP
            exact decide_eq_true ⟨c0, Or.inl p5⟩
          rw [e1, e2]
          simp only [Bool.false_eq_true, if_false, lt1_s, ob1_s, if_true, if_neg (show ¬ (0 : Int32) = 1 by decide), if_neg (show ¬ nI 1 = 3 by decide), if_pos (show nI 1 = 1 from rfl), ltx_s, nI_1]
          exact nx
        · subst e
          have e1 : spP N f m d = false := by
            unfold spP
            rw [p5]
            rfl
          have e2 : snP N f m d = true := by
            unfold snP
            exact decide_eq_true ⟨c0, Or.inr p5⟩
          rw [e1, e2]
          simp only [Bool.false_eq_true, if_false, lt1_s, ob1_s, if_true, if_neg (show ¬ (0 : Int32) = 1 by decide), if_neg (show ¬ nI 2 = 3 by decide), if_neg (show ¬ nI 2 = 1 by decide), if_pos (show nI 2 = 2 from rfl), ltx_s, nI_1]
          exact nx
        · subst e
          have e1 : spP N f m d = true := spP_mpr p5 (by rw [c0]; decide)
          have e2 : snP N f m d = false := by
            unfold snP
            rw [p5]
            exact decide_eq_false (fun z => by rcases z.2 with z | z <;> revert z <;> decide)
          rw [e1, e2]
          simp only [Bool.false_eq_true, if_false, lt1_s, ob1_s, if_true, if_neg (show ¬ (0 : Int32) = 1 by decide), if_pos (show nI 3 = 3 from rfl), if_neg (show ¬ nI 3 = 1 by decide), if_neg (show ¬ nI 3 = 2 by decide), ltx_s, nI_1]
          exact nx
      · have env : nvP f d = true := decide_eq_true c0
        rw [env]
        simp only [lt1_s, ob1_s, if_true, if_neg n10, ltx_s, nI_1]
        exact nx
  exact q
theorem comes_true (h : SIM f r K H D ls t T) (hx : IX9 f K D T σ) (hT : T ≤ 90000) (hN : 200 < N) (h1 : 1 ≤ m) (hm : m ≤ 60) (hsv : m2_save f y o = some (y', o')) : ∃ g', mL_comesTrue N f g c y o (nI m) = some (1, its N f m, g', y', o') := by
  have hD : D ≤ 16 := h.1.1.2.2.2.2.2.2.2.2.1
  have e2 : f 23 2 = nI D := h.1.1.2.2.1
  have e5 : f 23 5 = nI T := h.1.1.2.2.2.2.2.1
  have em : nI m - 1 = nI (m - 1) := pk_sub (a := m) (b := 1) h1
  have hph := its_PH h hx hN (show m - 1 ≤ m by omega) (by omega)
  obtain ⟨r', ls', t', a1, a2, a3, a4⟩ := its_ok h hx hN m (by omega)
  unfold mL_comesTrue
  rw [heat_its h hx (by omega) (by omega) hN, ob2_s, spoil_its h hx (by omega) (by omega) hN, ob2_s, em, spoil_its h hx (by omega) (by omega) hN, ob2_s]
  have q : ∀ g, ∃ g', mL_comesTrue_L30 N N (nI m) (its N f m 23 4) (sb (spP N f m) D) (sb (spP N f (m-1)) D) (sb (snP N f m) 0) (sb (nvP f) 0) (nI 0) f g c y o = some (1, its N f m, g', y', o') := by
    intro g
    refine loop_i (σ := bkA) (fun n i g => ∃ g', mL_comesTrue_L30 N n (nI m) (its N f m 23 4) (sb (spP N f m) D) (sb (spP N f (m-1)) D) (sb (snP N f m) i) (sb (nvP f) i) (nI i) f g c y o = some (1, its N f m, g', y', o')) (fun _ _ => True) D ?_ ?_ N 0 g (by omega) (by omega) trivial
    · intro n g _
      have z1 : sb (spP N f (m-1)) D &&& (sb (spP N f m) D ^^^ (-1)) = 0 := by
        rw [sb_andnot (M := fun _ => false) (by omega)]
        · exact sb_0 (fun i hi => by decide)
        · intro d hd
          cases c1 : spP N f (m-1) d
          · rfl
          · have q1 := spP_mp c1
            rw [spP_mpr (hph.1.1 d hd q1.1) q1.2]
            rfl
      have z2 : sb (spP N f m) D &&& sb (nvP f) D = 0 := by
        refine sb_and0 (by omega) (fun d hd z => ?_)
        have q1 := spP_mp z.1
        have q2 : ¬ f 15 d = nI 0 := of_decide_eq_true z.2
        obtain ⟨_, _, _, ⟨p, p4, p5⟩, _⟩ := h.1.2.1 d hd
        have hp : p = 0 ∨ p = 1 ∨ p = 2 ∨ p = 3 := by omega
        have q3 : f 15 d = nI 1 ∨ f 15 d = nI 2 := by
          rcases hp with e | e | e | e
          · rw [e] at p5
            exact absurd p5 q2
          · rw [e] at p5
            exact Or.inl p5
          · rw [e] at p5
            exact Or.inr p5
          · rw [e] at p5
            exact absurd p5 q1.2
        rcases a3.2 d hd q3 with w | w
        · rw [q1.1] at w
          exact absurd w (by decide)
        · rw [q1.1] at w
          exact absurd w (by decide)
      have z3 : sb (spP N f m) D &&& sb (snP N f m) D = 0 := by
        refine sb_and0 (by omega) (fun d hd z => ?_)
        have q1 := spP_mp z.1
        have q2 : f 15 d = nI 0 ∧ (its N f m 15 d = nI 1 ∨ its N f m 15 d = nI 2) := of_decide_eq_true z.2
        rcases q2.2 with w | w
        · rw [q1.1] at w
          exact absurd w (by decide)
        · rw [q1.1] at w
          exact absurd w (by decide)
      have hh0 : ∀ g, m8_heatIn N f g 0 = some (f 23 4, f) := fun g => heat_its (m := 0) h hx (by decide) (by omega) hN
      obtain ⟨_, t1, t2, u1, u2, u3, u4⟩ := hph
      have hle : its N f m 23 4 ≤ its N f (m-1) 23 4 := by
        rw [u1, u2]
        exact nI_le u3 (by omega)
      obtain ⟨cc, hcc⟩ := pass_its (m := m) h hx (by omega) (by omega) hN
      have hpass : m8_pass N f y o (nI m) = some (cc, its N f m, y', o') := by
        unfold m8_pass m7_refusalOfPass
        rw [if_neg (show ¬ nI m < 1 from nI_nlt (b := 1) h1 (by omega)), if_pos (show nI m ≤ 100 from nI_le (b := 100) (by omega) (by decide)), e5, nI_add, if_pos (show nI (T + m) ≤ 100000 from nI_le (b := 100000) (by omega) (by decide)), lt1_s, ckp_t (by decide), hsv, ob2_s, hcc, ob2_s]
      refine ⟨its N f (m-1), ?_⟩
      rw [mL_comesTrue_L30, w_2, e2, ob1_s, if_pos (Int32.le_refl _), if_pos z1, if_pos z2, if_pos z3, hh0, ob2_s, w_3, ob1_s, if_pos rfl, em, heat_its h hx (by omega) (by omega) hN, ob2_s, if_pos hle, hpass, ob4_s]
      exact comes2 h hx hT hN hm
    · intro n d g hdD _ ih
      obtain ⟨x, g2, x1, x2⟩ := then_its (g := g) h hx hdD (by omega) hN hm
      obtain ⟨lg, re, l1, l2, l3, l4, l5⟩ := logs_its h hdD hN
      obtain ⟨_, _, _, ⟨p, p4, p5⟩, _⟩ := h.1.2.1 d hdD
      have eS : (if x ≤ 0 then (0 : Int32) else if nI m < x then 0 else 1 <<< (nI d &&& 31)) = if snP N f m d = true then 1 <<< (nI d &&& 31) else 0 := by
        by_cases c1 : snP N f m d = true
        · have q := x2.mpr (of_decide_eq_true c1)
          rw [if_pos c1, if_neg (Int32.not_le.mpr q.1), if_neg (Int32.not_lt.mpr q.2)]
        · have q : ¬ (0 < x ∧ x ≤ nI m) := fun z => c1 (decide_eq_true (x2.mp z))
          rw [if_neg c1]
          by_cases c2 : x ≤ 0
          · rw [if_pos c2]
          · rw [if_neg c2, if_pos (Int32.not_le.mp (fun z => q ⟨Int32.not_le.mp c2, z⟩))]
      have eN : (if f 15 d ≤ 0 then (0 : Int32) else 1 <<< (nI d &&& 31)) = if nvP f d = true then 1 <<< (nI d &&& 31) else 0 := by
        by_cases c1 : f 15 d = nI 0
        · have e : nvP f d = false := decide_eq_false (fun z => z c1)
          rw [e, c1, if_pos (show nI 0 ≤ 0 from Int32.le_refl 0)]
          rfl
        · have e : nvP f d = true := decide_eq_true c1
          have hp0 : 0 < p := by
            by_cases z : p = 0
            · rw [z] at p5
              exact absurd p5 c1
            · omega
          rw [e, p5, if_neg (nI_nle hp0 (by omega))]
          rfl
      have eL : (if lg = 0 then (1 : Int32) else 0) = if re = 0 then 1 else 0 := by
        by_cases z : lg = 0
        · rw [if_pos z, if_pos (l3.mp z)]
        · rw [if_neg z, if_neg (fun w => z (l3.mpr w))]
      rw [mL_comesTrue_L30, w_2, e2, ob1_s, if_neg (nI_ge hdD (by omega)), x1, ob2_s, eS, lt1_s, sb_s, ltx_s, d_4 h hdD, ob1_s, eN, lt1_s, sb_s, ltx_s, l1, ob1_s, if_neg l4, lt1_s, l2, ob1_s, lt1_s, if_pos eL, w_3, ob1_s, if_pos l5, ltx_s, nI_1]
      exact ih g2 trivial
  exact q _
end COMES
