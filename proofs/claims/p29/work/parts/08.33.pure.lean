/-! which doughs would be spoiled: sets of bits (the first rows are kit/laws/BITS.to-paste's) -/
def bt (x : Int32) (i : Nat) : Bool := x.toBitVec.getLsbD i
theorem b_ext {x y : Int32} (h : ∀ i, i < 32 → bt x i = bt y i) : x = y := Int32.toBitVec_inj.mp (BitVec.eq_of_getLsbD_eq (fun i hi => h i hi))
theorem b_or (x y : Int32) (i : Nat) : bt (x ||| y) i = (bt x i || bt y i) := by unfold bt; rw [Int32.toBitVec_or, BitVec.getLsbD_or]
theorem b_and (x y : Int32) (i : Nat) : bt (x &&& y) i = (bt x i && bt y i) := by unfold bt; rw [Int32.toBitVec_and, BitVec.getLsbD_and]
theorem b_xor (x y : Int32) (i : Nat) : bt (x ^^^ y) i = (bt x i ^^ bt y i) := by unfold bt; rw [Int32.toBitVec_xor, BitVec.getLsbD_xor]
theorem b_m1 : ∀ i, i < 32 → bt (-1) i = true := by decide +kernel
theorem b_0 (i : Nat) : bt 0 i = false := BitVec.getLsbD_zero
theorem b_one : ∀ n, n < 32 → ∀ i, i < 32 → bt (1 <<< (nI n &&& 31)) i = decide (i = n) := by decide +kernel
def sb (P : Nat → Bool) : Nat → Int32
  | 0 => 0
  | n+1 => if P n = true then sb P n ||| (1 <<< (nI n &&& 31)) else sb P n
theorem sb_bt {P : Nat → Bool} : ∀ (n i : Nat), n ≤ 32 → i < 32 → bt (sb P n) i = (decide (i < n) && P i)
  | 0, i, hn, hi => by
    show bt 0 i = _
    rw [b_0, decide_eq_false (by omega)]
    rfl
  | n+1, i, hn, hi => by
    show bt (if P n = true then sb P n ||| (1 <<< (nI n &&& 31)) else sb P n) i = _
    have ih := sb_bt (P := P) n i (by omega) hi
    by_cases h : P n = true
    · rw [if_pos h, b_or, ih, b_one n (by omega) i hi]
      by_cases e : i = n
      · subst e
        rw [h, decide_eq_true (show i < i + 1 by omega), decide_eq_true rfl, Bool.or_true]
        rfl
      · rw [decide_eq_false e, Bool.or_false]
        by_cases l : i < n
        · rw [decide_eq_true l, decide_eq_true (show i < n + 1 by omega)]
        · rw [decide_eq_false l, decide_eq_false (show ¬ i < n + 1 by omega)]
    · rw [if_neg h, ih]
      by_cases e : i = n
      · subst e
        have hf : P i = false := by
          cases hp : P i
          · rfl
          · exact absurd hp h
        rw [hf, Bool.and_false, Bool.and_false]
      · by_cases l : i < n
        · rw [decide_eq_true l, decide_eq_true (show i < n + 1 by omega)]
        · rw [decide_eq_false l, decide_eq_false (show ¬ i < n + 1 by omega)]
theorem sb_andnot {A B M : Nat → Bool} {D : Nat} (hD : D ≤ 32) (h : ∀ d, d < D → M d = (A d && ! B d)) : sb A D &&& (sb B D ^^^ (-1)) = sb M D := by
  refine b_ext fun i hi => ?_
  rw [b_and, b_xor, b_m1 i hi, sb_bt D i hD hi, sb_bt D i hD hi, sb_bt D i hD hi]
  by_cases l : i < D
  · rw [decide_eq_true l, h i l]
    cases A i <;> cases B i <;> rfl
  · rw [decide_eq_false l]
    rfl
theorem spoiled7 {f : bkA} {N D : Nat} (e2 : f 23 2 = nI D) (hD : D ≤ 16) (hN : 100 < N) : m7_setOfSpoiled N f = some (sb (fun d => decide (f 15 d = nI 3)) D) := by
  unfold m7_setOfSpoiled
  have q : m7_setOfSpoiled_L4 N N (nI 0) (nI 0) f = some (sb (fun d => decide (f 15 d = nI 3)) D) := by
    refine loop_i (σ := Int32) (fun n i s => m7_setOfSpoiled_L4 N n s (nI i) f = some (sb (fun d => decide (f 15 d = nI 3)) D)) (fun i s => s = sb (fun d => decide (f 15 d = nI 3)) i) D ?_ ?_ N 0 (nI 0) (by omega) (by omega) rfl
    · intro n s hs
      rw [m7_setOfSpoiled_L4, e2, if_pos (Int32.le_refl _), hs]
    · intro n i s hi hs ih
      rw [m7_setOfSpoiled_L4, e2, if_neg (nI_ge hi (by omega)), rat_nI (by omega) (by decide), lt1_s, ltx_s, ltx_s, nI_1]
      refine ih _ ?_
      rw [hs]
      show _ = if decide (f 15 i = nI 3) = true then _ else _
      by_cases c : f 15 i = nI 3
      · rw [if_pos (show f 15 i = 3 from c), if_pos (decide_eq_true c)]
      · rw [if_neg (show ¬ f 15 i = 3 from c), if_neg (by rw [decide_eq_false c]; decide)]
  have q' : m7_setOfSpoiled_L4 N N 0 0 f = _ := q
  rw [q', ob1_s]
theorem spoiled9 {f g : bkA} {r u : Nat → Int32} {N D : Nat} (hR : RG f r) (hU : RG g u) (e2 : f 23 2 = nI D) (hD : D ≤ 16) (hN : 100 < N) : m9_spoiledIn_L37 N N 0 0 r u = some (sb (fun d => decide (f 15 d = nI 0) && decide (g 15 d = nI 3)) D) := by
  have q : m9_spoiledIn_L37 N N (nI 0) (nI 0) r u = some (sb (fun d => decide (f 15 d = nI 0) && decide (g 15 d = nI 3)) D) := by
    refine loop_i (σ := Int32) (fun n i s => m9_spoiledIn_L37 N n s (nI i) r u = some (sb (fun d => decide (f 15 d = nI 0) && decide (g 15 d = nI 3)) D)) (fun i s => s = sb (fun d => decide (f 15 d = nI 0) && decide (g 15 d = nI 3)) i) D ?_ ?_ N 0 (nI 0) (by omega) (by omega) rfl
    · intro n s hs
      rw [m9_spoiledIn_L37, c9_4, h9_4, RG_i2 hR, e2, if_pos (Int32.le_refl _), hs]
    · intro n i s hi hs ih
      rw [m9_spoiledIn_L37, c9_4, h9_4, RG_i2 hR, e2, if_neg (nI_ge hi (by omega)), a9_of4 (by omega), ob1_s, RG_15 hR (by omega)]
      have step : ∀ x22 : Int32, s ||| x22 = sb (fun d => decide (f 15 d = nI 0) && decide (g 15 d = nI 3)) (i+1) → (lt_ (s ||| x22) fun x27 => lt_ (nI i + 1) fun x28 => m9_spoiledIn_L37 N n x27 x28 r u) = some (sb (fun d => decide (f 15 d = nI 0) && decide (g 15 d = nI 3)) D) := by
        intro x22 hx
        rw [ltx_s, ltx_s, nI_1]
        exact ih _ hx
      have sbn : sb (fun d => decide (f 15 d = nI 0) && decide (g 15 d = nI 3)) (i+1) = if (decide (f 15 i = nI 0) && decide (g 15 i = nI 3)) = true then s ||| (1 <<< (nI i &&& 31)) else s := by
        rw [hs]
        rfl
      by_cases c : f 15 i = nI 0
      · rw [if_pos (show f 15 i = 0 from c), a9_of4 (by omega), ob1_s, RG_15 hU (by omega)]
        by_cases c2 : g 15 i = nI 3
        · rw [if_pos (show g 15 i = 3 from c2), ob1_s]
          refine step _ ?_
          rw [sbn, if_pos (by rw [decide_eq_true c, decide_eq_true c2]; rfl)]
        · rw [if_neg (show ¬ g 15 i = 3 from c2), ob1_s]
          refine step _ ?_
          rw [sbn, if_neg (by rw [decide_eq_false c2, Bool.and_false]; decide), Int32.or_zero]
      · rw [if_neg (show ¬ f 15 i = 0 from c), ob1_s]
        refine step _ ?_
        rw [sbn, if_neg (by rw [decide_eq_false c, Bool.false_and]; decide), Int32.or_zero]
  exact q
theorem S_spoiledIn {f : bkA} {r u : Nat → Int32} {K H D t T N m : Nat} {ls : List Nat} (h : SIM f r K H D ls t T) (hm : m ≤ 100) (hT : T ≤ 900000) (hN : 300 < N) : ∃ x c g y z u', m7_passTicks N f (nI m) = some (c, g) ∧ m7_setOfSpoiled N g = some y ∧ m7_setOfSpoiled N f = some z ∧ x = y &&& (z ^^^ (-1)) ∧ m9_tryTicks N r u (nI m) = some u' ∧ m9_spoiledIn_L37 N N 0 0 r u' = some x := by
  obtain ⟨c, g, u', ls', t', a1, a2, a3, a4⟩ := S_try (u := u) (N := N) (m := m) h hm hT hN
  have e2 := h.1.1.2.2.1
  have e2' := a3.1.1.2.2.1
  have hD : D ≤ 16 := h.1.1.2.2.2.2.2.2.2.2.1
  refine ⟨_, c, g, _, _, u', a1, spoiled7 e2' hD (by omega), spoiled7 e2 hD (by omega), rfl, a2, ?_⟩
  rw [spoiled9 h.2.1 a3.2.1 e2 hD (by omega)]
  refine congrArg some (sb_andnot (by omega) ?_).symm
  intro d hd
  obtain ⟨p, p1, p2⟩ := (h.1.2.1 d hd).2.2.2.1

  have hp : p = 0 ∨ p = 1 ∨ p = 2 ∨ p = 3 := by omega
  rcases hp with e | e | e | e
  · rw [p2, e, decide_eq_true rfl, decide_eq_false (show ¬ nI 0 = nI 3 by decide)]
    cases decide (g 15 d = nI 3) <;> rfl
  · rw [e] at p2
    have z := a4.2 d hd (Or.inl p2)
    have zf : ¬ g 15 d = nI 3 := by
      intro w
      rw [w] at z
      revert z
      decide
    rw [decide_eq_false zf, Bool.and_false]
    rfl
  · rw [e] at p2
    have z := a4.2 d hd (Or.inr p2)
    have zf : ¬ g 15 d = nI 3 := by
      intro w
      rw [w] at z
      revert z
      decide
    rw [decide_eq_false zf, Bool.and_false]
    rfl
  · rw [p2, e, decide_eq_false (show ¬ nI 3 = nI 0 by decide), decide_eq_true rfl]
    cases decide (g 15 d = nI 3) <;> rfl
