/-! a class's state and the model's row: what they have in common, and what always holds -/
def RG (f : bkA) (r : Nat → Int32) : Prop := (∀ j i, j < 24 → i < pL j → j ≠ 20 → j ≠ 21 → j ≠ 22 → r (pos j i) = f j i) ∧ (∀ p, p < 12 → ¬ f 19 p = iM → r (pos 20 p) = f 20 p ∧ r (pos 21 p) = f 21 p)
theorem RG_wr {f : bkA} {r : Nat → Int32} {j i : Nat} {v : Int32} (h : RG f r) (hj : j < 24) (h19 : 19 ≠ j) : RG (wr f j i v) (mr r j i v) := by
  constructor
  · intro j' i' hj' hi' n20 n21 n22
    rw [mr_at hj hj', wr_at, h.1 j' i' hj' hi' n20 n21 n22]
  · intro p hp hn
    rw [wr_n h19] at hn
    have h2 := h.2 p hp hn
    rw [mr_at (j' := 20) (i' := p) hj (by decide), mr_at (j' := 21) (i' := p) hj (by decide), wr_at, wr_at, h2.1, h2.2]
    exact ⟨rfl, rfl⟩
/-- a loaf is put on a place -/
theorem RG_loaf {f : bkA} {r : Nat → Int32} {p : Nat} {v a b : Int32} (h : RG f r) : RG (wr (wr (wr f 19 p v) 20 p a) 21 p b) (mr (mr (mr r 19 p v) 20 p a) 21 p b) := by
  constructor
  · intro j' i' hj' hi' n20 n21 n22
    rw [mr_n n21 (by decide) hj', mr_n n20 (by decide) hj', mr_at (by decide) hj', wr_n n21, wr_n n20, wr_at, h.1 j' i' hj' hi' n20 n21 n22]
  · intro p' hp hn
    rw [wr_n (by decide), wr_n (by decide)] at hn
    by_cases e : p' = p
    · subst e
      rw [mr_s, mr_n (by decide) (by decide) (by decide), mr_s, wr_s, wr_n (by decide), wr_s]
      exact ⟨rfl, rfl⟩
    · rw [wr_i e] at hn
      have h2 := h.2 p' hp hn
      rw [mr_n (j' := 20) (by decide) (by decide) (by decide), mr_i e (by decide), mr_n (j' := 20) (by decide) (by decide) (by decide), mr_i e (by decide), mr_n (j' := 21) (by decide) (by decide) (by decide), mr_n (j' := 21) (by decide) (by decide) (by decide), wr_n (by decide), wr_i e, wr_n (by decide), wr_i e, wr_n (by decide), wr_n (by decide)]
      exact h2
/-- a place is freed: the class leaves its two other numbers, the model clears them -/
theorem RG_free {f : bkA} {r : Nat → Int32} {p : Nat} {a b : Int32} (h : RG f r) : RG (wr f 19 p iM) (mr (mr (mr r 19 p iM) 20 p a) 21 p b) := by
  constructor
  · intro j' i' hj' hi' n20 n21 n22
    rw [mr_n n21 (by decide) hj', mr_n n20 (by decide) hj', mr_at (by decide) hj', wr_at, h.1 j' i' hj' hi' n20 n21 n22]
  · intro p' hp hn
    by_cases e : p' = p
    · subst e
      rw [wr_s] at hn
      exact absurd rfl hn
    · rw [wr_i e] at hn
      have h2 := h.2 p' hp hn
      rw [mr_n (j' := 20) (by decide) (by decide) (by decide), mr_i e (by decide), mr_n (j' := 20) (by decide) (by decide) (by decide), mr_i e (by decide), mr_n (j' := 21) (by decide) (by decide) (by decide), mr_n (j' := 21) (by decide) (by decide) (by decide), wr_n (by decide), wr_n (by decide)]
      exact h2
/-- a number of the line is of no account here -/
theorem RG_l1 {f : bkA} {r : Nat → Int32} {i : Nat} {v : Int32} (h : RG f r) : RG (wr f 22 i v) r := by
  constructor
  · intro j' i' hj' hi' n20 n21 n22
    rw [wr_n n22, h.1 j' i' hj' hi' n20 n21 n22]
  · intro p hp hn
    rw [wr_n (by decide)] at hn
    rw [wr_n (by decide), wr_n (by decide)]
    exact h.2 p hp hn
theorem RG_l2 {f : bkA} {r : Nat → Int32} {i : Nat} {v : Int32} (h : RG f r) : RG f (mr r 22 i v) := by
  constructor
  · intro j' i' hj' hi' n20 n21 n22
    rw [mr_n n22 (by decide) hj', h.1 j' i' hj' hi' n20 n21 n22]
  · intro p hp hn
    rw [mr_n (j' := 20) (by decide) (by decide) (by decide), mr_n (j' := 21) (by decide) (by decide) (by decide)]
    exact h.2 p hp hn
theorem RG_a {f : bkA} {r : Nat → Int32} {j i : Nat} (h : RG f r) (hj : j < 24) (hi : i < pL j) (n : ¬ (j = 20 ∨ j = 21 ∨ j = 22)) : r (pos j i) = f j i := h.1 j i hj hi (fun q => n (Or.inl q)) (fun q => n (Or.inr (Or.inl q))) (fun q => n (Or.inr (Or.inr q)))
theorem RG_0 {f : bkA} {r : Nat → Int32} {i : Nat} (h : RG f r) (hi : i < 5) : r (pos 0 i) = f 0 i := RG_a h (by decide) hi (by decide)
theorem RG_1 {f : bkA} {r : Nat → Int32} {i : Nat} (h : RG f r) (hi : i < 5) : r (pos 1 i) = f 1 i := RG_a h (by decide) hi (by decide)
theorem RG_2 {f : bkA} {r : Nat → Int32} {i : Nat} (h : RG f r) (hi : i < 5) : r (pos 2 i) = f 2 i := RG_a h (by decide) hi (by decide)
theorem RG_3 {f : bkA} {r : Nat → Int32} {i : Nat} (h : RG f r) (hi : i < 5) : r (pos 3 i) = f 3 i := RG_a h (by decide) hi (by decide)
theorem RG_4 {f : bkA} {r : Nat → Int32} {i : Nat} (h : RG f r) (hi : i < 5) : r (pos 4 i) = f 4 i := RG_a h (by decide) hi (by decide)
theorem RG_5 {f : bkA} {r : Nat → Int32} {i : Nat} (h : RG f r) (hi : i < 8) : r (pos 5 i) = f 5 i := RG_a h (by decide) hi (by decide)
theorem RG_6 {f : bkA} {r : Nat → Int32} {i : Nat} (h : RG f r) (hi : i < 8) : r (pos 6 i) = f 6 i := RG_a h (by decide) hi (by decide)
theorem RG_7 {f : bkA} {r : Nat → Int32} {i : Nat} (h : RG f r) (hi : i < 8) : r (pos 7 i) = f 7 i := RG_a h (by decide) hi (by decide)
theorem RG_8 {f : bkA} {r : Nat → Int32} {i : Nat} (h : RG f r) (hi : i < 8) : r (pos 8 i) = f 8 i := RG_a h (by decide) hi (by decide)
theorem RG_9 {f : bkA} {r : Nat → Int32} {i : Nat} (h : RG f r) (hi : i < 8) : r (pos 9 i) = f 9 i := RG_a h (by decide) hi (by decide)
theorem RG_10 {f : bkA} {r : Nat → Int32} {i : Nat} (h : RG f r) (hi : i < 8) : r (pos 10 i) = f 10 i := RG_a h (by decide) hi (by decide)
theorem RG_11 {f : bkA} {r : Nat → Int32} {i : Nat} (h : RG f r) (hi : i < 16) : r (pos 11 i) = f 11 i := RG_a h (by decide) hi (by decide)
theorem RG_12 {f : bkA} {r : Nat → Int32} {i : Nat} (h : RG f r) (hi : i < 16) : r (pos 12 i) = f 12 i := RG_a h (by decide) hi (by decide)
theorem RG_13 {f : bkA} {r : Nat → Int32} {i : Nat} (h : RG f r) (hi : i < 16) : r (pos 13 i) = f 13 i := RG_a h (by decide) hi (by decide)
theorem RG_14 {f : bkA} {r : Nat → Int32} {i : Nat} (h : RG f r) (hi : i < 16) : r (pos 14 i) = f 14 i := RG_a h (by decide) hi (by decide)
theorem RG_15 {f : bkA} {r : Nat → Int32} {i : Nat} (h : RG f r) (hi : i < 16) : r (pos 15 i) = f 15 i := RG_a h (by decide) hi (by decide)
theorem RG_16 {f : bkA} {r : Nat → Int32} {i : Nat} (h : RG f r) (hi : i < 16) : r (pos 16 i) = f 16 i := RG_a h (by decide) hi (by decide)
theorem RG_17 {f : bkA} {r : Nat → Int32} {i : Nat} (h : RG f r) (hi : i < 16) : r (pos 17 i) = f 17 i := RG_a h (by decide) hi (by decide)
theorem RG_18 {f : bkA} {r : Nat → Int32} {i : Nat} (h : RG f r) (hi : i < 16) : r (pos 18 i) = f 18 i := RG_a h (by decide) hi (by decide)
theorem RG_19 {f : bkA} {r : Nat → Int32} {i : Nat} (h : RG f r) (hi : i < 12) : r (pos 19 i) = f 19 i := RG_a h (by decide) hi (by decide)
theorem RG_i0 {f : bkA} {r : Nat → Int32} (h : RG f r) : r (pos 23 0) = f 23 0 := RG_a h (by decide) (by decide) (by decide)
theorem RG_i1 {f : bkA} {r : Nat → Int32} (h : RG f r) : r (pos 23 1) = f 23 1 := RG_a h (by decide) (by decide) (by decide)
theorem RG_i2 {f : bkA} {r : Nat → Int32} (h : RG f r) : r (pos 23 2) = f 23 2 := RG_a h (by decide) (by decide) (by decide)
theorem RG_i3 {f : bkA} {r : Nat → Int32} (h : RG f r) : r (pos 23 3) = f 23 3 := RG_a h (by decide) (by decide) (by decide)
theorem RG_i4 {f : bkA} {r : Nat → Int32} (h : RG f r) : r (pos 23 4) = f 23 4 := RG_a h (by decide) (by decide) (by decide)
theorem RG_i5 {f : bkA} {r : Nat → Int32} (h : RG f r) : r (pos 23 5) = f 23 5 := RG_a h (by decide) (by decide) (by decide)
theorem RG_i6 {f : bkA} {r : Nat → Int32} (h : RG f r) : r (pos 23 6) = f 23 6 := RG_a h (by decide) (by decide) (by decide)
theorem RG_i7 {f : bkA} {r : Nat → Int32} (h : RG f r) : r (pos 23 7) = f 23 7 := RG_a h (by decide) (by decide) (by decide)
theorem RG_i8 {f : bkA} {r : Nat → Int32} (h : RG f r) : r (pos 23 8) = f 23 8 := RG_a h (by decide) (by decide) (by decide)
theorem RG_i9 {f : bkA} {r : Nat → Int32} (h : RG f r) : r (pos 23 9) = f 23 9 := RG_a h (by decide) (by decide) (by decide)
theorem RG_i10 {f : bkA} {r : Nat → Int32} (h : RG f r) : r (pos 23 10) = f 23 10 := RG_a h (by decide) (by decide) (by decide)
theorem RG_i11 {f : bkA} {r : Nat → Int32} (h : RG f r) : r (pos 23 11) = f 23 11 := RG_a h (by decide) (by decide) (by decide)

def IVc (f : bkA) (K H D W t T : Nat) : Prop := f 23 0 = nI K ∧ f 23 1 = nI H ∧ f 23 2 = nI D ∧ f 23 3 = nI W ∧ f 23 4 = nI t ∧ f 23 5 = nI T ∧ K ≤ 5 ∧ H ≤ 8 ∧ D ≤ 16 ∧ t ≤ 400
def IVd (f : bkA) (K H D : Nat) : Prop := ∀ d, d < D → (∃ h, h < H ∧ f 11 d = nI h) ∧ (∃ k, k < K ∧ f 12 d = nI k) ∧ (∃ l, 1 ≤ l ∧ l ≤ 4 ∧ f 13 d = nI l) ∧ (∃ p, p < 4 ∧ f 15 d = nI p) ∧ (f 15 d = nI 0 ∨ f 15 d = nI 3 → f 17 d = iM)
def IVl (f : bkA) (D : Nat) (ls : List Nat) : Prop := LN (f 22) 0 ls ∧ ND ls ∧ ∀ d, d ∈ ls ↔ d < D ∧ f 15 d = nI 0
def IVp (f : bkA) (D : Nat) : Prop := ∀ p, p < 12 → f 19 p = iM ∨ ∃ d, d < D ∧ f 19 p = nI d ∧ f 15 d = nI 1
def IVh (f : bkA) (H : Nat) : Prop := ∀ j h, 5 ≤ j → j ≤ 10 → H ≤ h → h < 8 → f j h = nI 0
def IVn (f : bkA) (t T : Nat) : Prop := ∃ (u lb : Nat) (a : Nat → Nat), f 23 6 = nI u ∧ f 23 7 = nI lb ∧ u ≤ lb ∧ 25 * lb ≤ t + 72 * T ∧ (∀ h, h < 8 → f 6 h = nI (a h)) ∧ sumN a 8 ≤ 12 * T
/-- what always holds of a state of K kinds, H households, D doughs, the line ls, heat t, T ticks -/
def IV (f : bkA) (K H D : Nat) (ls : List Nat) (t T : Nat) : Prop := IVc f K H D ls.length t T ∧ IVd f K H D ∧ IVl f D ls ∧ IVp f D ∧ IVh f H ∧ IVn f t T
theorem IV_len {f : bkA} {K H D t T : Nat} {ls : List Nat} (h : IV f K H D ls t T) : ls.length ≤ D := php D h.2.2.1.2.1 (fun x hx => ((h.2.2.1.2.2 x).mp hx).1)
/-- the class's state and the model's row agree -/
def SIM (f : bkA) (r : Nat → Int32) (K H D : Nat) (ls : List Nat) (t T : Nat) : Prop := IV f K H D ls t T ∧ RG f r ∧ LN r 213 ls
theorem IVd_congr {f g : bkA} {K H D : Nat} (h : IVd f K H D) (e11 : g 11 = f 11) (e12 : g 12 = f 12) (e13 : g 13 = f 13) (e15 : g 15 = f 15) (e17 : g 17 = f 17) : IVd g K H D := by
  unfold IVd
  rw [e11, e12, e13, e15, e17]
  exact h
theorem IVl_congr {f g : bkA} {D : Nat} {ls : List Nat} (h : IVl f D ls) (e15 : g 15 = f 15) (e22 : g 22 = f 22) : IVl g D ls := by
  unfold IVl
  rw [e15, e22]
  exact h
theorem IVp_congr {f g : bkA} {D : Nat} (h : IVp f D) (e15 : g 15 = f 15) (e19 : g 19 = f 19) : IVp g D := by
  unfold IVp
  rw [e15, e19]
  exact h
theorem IVh_congr {f g : bkA} {H : Nat} (h : IVh f H) (e5 : g 5 = f 5) (e6 : g 6 = f 6) (e7 : g 7 = f 7) (e8 : g 8 = f 8) (e9 : g 9 = f 9) (e10 : g 10 = f 10) : IVh g H := by
  intro j k h1 h2 h3 h4
  have e : g j = f j := by
    have h5 : j = 5 ∨ j = 6 ∨ j = 7 ∨ j = 8 ∨ j = 9 ∨ j = 10 := by omega
    rcases h5 with q | q | q | q | q | q <;> subst q <;> assumption
  rw [e]
  exact h j k h1 h2 h3 h4
/-- a write in a row of households that are there -/
theorem IVh_wr {f : bkA} {H j i : Nat} {v : Int32} (h : IVh f H) (hi : i < H) : IVh (wr f j i v) H := by
  intro j' k h1 h2 h3 h4
  rw [wr_at, if_neg (fun q => by have := q.2; omega)]
  exact h j' k h1 h2 h3 h4
theorem IVn_congr {f g : bkA} {t T : Nat} (h : IVn f t T) (e6 : g 6 = f 6) (e1 : g 23 6 = f 23 6) (e2 : g 23 7 = f 23 7) : IVn g t T := by
  unfold IVn
  rw [e6, e1, e2]
  exact h
