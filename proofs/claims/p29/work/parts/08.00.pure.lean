/-! the pure part: numbers, rows, positions -/
theorem l_0 : (0 : Int32) = nI 0 := rfl
theorem l_1 : (1 : Int32) = nI 1 := rfl
theorem l_2 : (2 : Int32) = nI 2 := rfl
theorem l_3 : (3 : Int32) = nI 3 := rfl
theorem l_4 : (4 : Int32) = nI 4 := rfl
theorem l_5 : (5 : Int32) = nI 5 := rfl
theorem l_6 : (6 : Int32) = nI 6 := rfl
theorem l_7 : (7 : Int32) = nI 7 := rfl
theorem l_8 : (8 : Int32) = nI 8 := rfl
theorem l_9 : (9 : Int32) = nI 9 := rfl
theorem l_10 : (10 : Int32) = nI 10 := rfl
theorem l_11 : (11 : Int32) = nI 11 := rfl
theorem l_12 : (12 : Int32) = nI 12 := rfl
theorem l_13 : (13 : Int32) = nI 13 := rfl
theorem l_14 : (14 : Int32) = nI 14 := rfl
theorem l_15 : (15 : Int32) = nI 15 := rfl
theorem l_16 : (16 : Int32) = nI 16 := rfl
theorem l_17 : (17 : Int32) = nI 17 := rfl
theorem l_18 : (18 : Int32) = nI 18 := rfl
theorem l_19 : (19 : Int32) = nI 19 := rfl
theorem l_20 : (20 : Int32) = nI 20 := rfl
theorem l_21 : (21 : Int32) = nI 21 := rfl
theorem l_22 : (22 : Int32) = nI 22 := rfl
theorem l_23 : (23 : Int32) = nI 23 := rfl
theorem l_24 : (24 : Int32) = nI 24 := rfl
theorem l_25 : (25 : Int32) = nI 25 := rfl
theorem l_26 : (26 : Int32) = nI 26 := rfl
theorem l_27 : (27 : Int32) = nI 27 := rfl
theorem l_28 : (28 : Int32) = nI 28 := rfl
theorem l_29 : (29 : Int32) = nI 29 := rfl
theorem l_30 : (30 : Int32) = nI 30 := rfl
theorem l_31 : (31 : Int32) = nI 31 := rfl
theorem l_32 : (32 : Int32) = nI 32 := rfl
theorem l_33 : (33 : Int32) = nI 33 := rfl
theorem l_34 : (34 : Int32) = nI 34 := rfl
theorem l_35 : (35 : Int32) = nI 35 := rfl
theorem l_36 : (36 : Int32) = nI 36 := rfl
theorem l_37 : (37 : Int32) = nI 37 := rfl
theorem l_38 : (38 : Int32) = nI 38 := rfl
theorem l_39 : (39 : Int32) = nI 39 := rfl
theorem l_40 : (40 : Int32) = nI 40 := rfl
theorem l_41 : (41 : Int32) = nI 41 := rfl
theorem l_48 : (48 : Int32) = nI 48 := rfl
theorem l_50 : (50 : Int32) = nI 50 := rfl
theorem l_57 : (57 : Int32) = nI 57 := rfl
theorem l_60 : (60 : Int32) = nI 60 := rfl
theorem l_85 : (85 : Int32) = nI 85 := rfl
theorem l_97 : (97 : Int32) = nI 97 := rfl
theorem l_99 : (99 : Int32) = nI 99 := rfl
theorem l_100 : (100 : Int32) = nI 100 := rfl
theorem l_122 : (122 : Int32) = nI 122 := rfl
theorem l_127 : (127 : Int32) = nI 127 := rfl
theorem l_128 : (128 : Int32) = nI 128 := rfl
theorem l_150 : (150 : Int32) = nI 150 := rfl
theorem l_213 : (213 : Int32) = nI 213 := rfl
theorem l_229 : (229 : Int32) = nI 229 := rfl
theorem l_265 : (265 : Int32) = nI 265 := rfl
theorem l_350 : (350 : Int32) = nI 350 := rfl
theorem l_400 : (400 : Int32) = nI 400 := rfl
theorem l_795 : (795 : Int32) = nI 795 := rfl
theorem l_999 : (999 : Int32) = nI 999 := rfl
theorem l_1060 : (1060 : Int32) = nI 1060 := rfl
theorem l_100000 : (100000 : Int32) = nI 100000 := rfl
def iM : Int32 := -1
theorem l_m1 : - nI 1 = iM := rfl
theorem l_m1' : (-1 : Int32) = iM := rfl
theorem nI_ne_iM {n : Nat} (h : n < 2^31) : ¬ nI n = iM := by
  intro e
  have h1 := nI_toInt h
  rw [e] at h1
  have h2 : iM.toInt = -1 := by decide
  rw [h2] at h1
  omega
theorem iM_ne_nI {n : Nat} (h : n < 2^31) : ¬ iM = nI n := fun e => nI_ne_iM h e.symm
theorem iM_lt0 : iM < nI 0 := by decide
theorem iM_add1 : iM + nI 1 = nI 0 := by decide
theorem ob1_s {α β : Type} {a : α} {k : α → Option β} : ob1 (some a) k = k a := rfl
theorem ob2_s {α α2 β : Type} {a : α} {b : α2} {k : α → α2 → Option β} : ob2 (some (a, b)) k = k a b := rfl
theorem ob3_s {α α2 α3 β : Type} {a : α} {b : α2} {c : α3} {k : α → α2 → α3 → Option β} : ob3 (some (a, b, c)) k = k a b c := rfl
theorem ob4_s {α α2 α3 α4 β : Type} {a : α} {b : α2} {c : α3} {d : α4} {k : α → α2 → α3 → α4 → Option β} : ob4 (some (a, b, c, d)) k = k a b c d := rfl
theorem ob5_s {α α2 α3 α4 α5 β : Type} {a : α} {b : α2} {c : α3} {d : α4} {e : α5} {k : α → α2 → α3 → α4 → α5 → Option β} : ob5 (some (a, b, c, d, e)) k = k a b c d e := rfl
theorem ob6_s {α α2 α3 α4 α5 α6 β : Type} {a : α} {b : α2} {c : α3} {d : α4} {e : α5} {f : α6} {k : α → α2 → α3 → α4 → α5 → α6 → Option β} : ob6 (some (a, b, c, d, e, f)) k = k a b c d e f := rfl
theorem lt1_s {α β : Type} {a : α} {k : α → β} : lt1 a k = k a := rfl
theorem lt2_s {α α2 β : Type} {a : α} {b : α2} {k : α → α2 → β} : lt2 (a, b) k = k a b := rfl
theorem lt3_s {α α2 α3 β : Type} {a : α} {b : α2} {c : α3} {k : α → α2 → α3 → β} : lt3 (a, b, c) k = k a b c := rfl
theorem ltx_s {α β : Type} {a : α} {k : α → β} : lt_ a k = k a := rfl
theorem rat_nI {n d : Nat} {g : Nat → Int32} (h : d < n) (hn : n < 2^31) : rat n g (nI d) = g d := by
  unfold rat
  rw [if_neg (nI_pos (by omega)), if_neg (nI_ge h hn), nI_clamp (by omega)]
theorem rput_nI {n d : Nat} {g : Nat → Int32} {v : Int32} (h : d < n) (hn : n < 2^31) : rput n g (nI d) v = upd g d v := by
  unfold rput
  rw [if_neg (nI_pos (by omega)), if_neg (nI_ge h hn), nI_clamp (by omega)]
theorem rinc_nI {n d : Nat} {g : Nat → Int32} {v : Int32} (h : d < n) (hn : n < 2^31) : rinc n g (nI d) v = upd g d (g d + v) := by
  unfold rinc
  rw [rput_nI h hn, rat_nI h hn]
theorem rat_iM {n : Nat} {g : Nat → Int32} : rat n g iM = 0 := by
  unfold rat
  rw [if_pos (by decide)]
theorem ck_nI {β : Type} {d n : Nat} {k : Option β} (h : d < n) (hn : n < 2^31) : ck (nI d) n k = k := by
  unfold ck
  rw [if_neg (nI_in h hn)]
theorem ckp_t {β : Type} {c : Prop} [Decidable c] {k : Option β} (h : c) : ckp c k = k := by
  unfold ckp
  rw [if_pos h]
/-! positions in the model's row of 265 -/
def po (j i : Nat) : Nat := if j < 5 then 12+5*i+j else if j < 11 then 37+6*i+(j-5) else if j < 19 then 85+8*i+(j-11) else if j < 22 then 229+3*i+(j-19) else if j = 22 then 213+i else if i = 0 then 2 else if i = 1 then 3 else if i = 2 then 4 else if i = 3 then 5 else if i = 4 then 0 else if i = 5 then 1 else i
def pL (j : Nat) : Nat := if j < 5 then 5 else if j < 11 then 8 else if j < 19 then 16 else if j < 22 then 12 else if j < 23 then 16 else 12
/-- outside of a row: beyond all that is -/
def pos (j i : Nat) : Nat := if i < pL j then po j i else 1000 + 24 * i + j
theorem pL_0 {j : Nat} (h : j < 5) : pL j = 5 := by
  unfold pL
  rw [if_pos h]
theorem pL_5 {j : Nat} (h : j < 6) : pL (5+j) = 8 := by
  unfold pL
  rw [if_neg (by omega), if_pos (by omega)]
theorem pL_11 {j : Nat} (h : j < 8) : pL (11+j) = 16 := by
  unfold pL
  rw [if_neg (by omega), if_neg (by omega), if_pos (by omega)]
theorem pL_19 {j : Nat} (h : j < 3) : pL (19+j) = 12 := by
  unfold pL
  rw [if_neg (by omega), if_neg (by omega), if_neg (by omega), if_pos (by omega)]
theorem pos_k {j i : Nat} (h : j < 5) (hi : i < 5) : pos j i = 12+5*i+j := by
  unfold pos
  rw [if_pos (by rw [pL_0 h]; exact hi)]
  unfold po
  rw [if_pos h]
theorem pos_h {j i : Nat} (h : j < 6) (hi : i < 8) : pos (5+j) i = 37+6*i+j := by
  unfold pos
  rw [if_pos (by rw [pL_5 h]; exact hi)]
  unfold po
  rw [if_neg (by omega), if_pos (by omega)]
  omega
theorem pos_d {j i : Nat} (h : j < 8) (hi : i < 16) : pos (11+j) i = 85+8*i+j := by
  unfold pos
  rw [if_pos (by rw [pL_11 h]; exact hi)]
  unfold po
  rw [if_neg (by omega), if_neg (by omega), if_pos (by omega)]
  omega
theorem pos_p {j i : Nat} (h : j < 3) (hi : i < 12) : pos (19+j) i = 229+3*i+j := by
  unfold pos
  rw [if_pos (by rw [pL_19 h]; exact hi)]
  unfold po
  rw [if_neg (by omega), if_neg (by omega), if_neg (by omega), if_pos (by omega)]
  omega
theorem pos_l {i : Nat} (hi : i < 16) : pos 22 i = 213+i := if_pos (c := i < pL 22) hi
/-- a position tells its row and its place -/
def unpos (q : Nat) : Nat × Nat := if q < 12 then (23, if q = 2 then 0 else if q = 3 then 1 else if q = 4 then 2 else if q = 5 then 3 else if q = 0 then 4 else if q = 1 then 5 else q) else if q < 37 then ((q-12)%5, (q-12)/5) else if q < 85 then (5+(q-37)%6, (q-37)/6) else if q < 213 then (11+(q-85)%8, (q-85)/8) else if q < 229 then (22, q-213) else if q < 265 then (19+(q-229)%3, (q-229)/3) else ((q-1000)%24, (q-1000)/24)
theorem pL_cases {j i : Nat} (hj : j < 24) (hi : i < pL j) : (j < 5 ∧ i < 5) ∨ (∃ a, a < 6 ∧ j = 5+a ∧ i < 8) ∨ (∃ a, a < 8 ∧ j = 11+a ∧ i < 16) ∨ (∃ a, a < 3 ∧ j = 19+a ∧ i < 12) ∨ (j = 22 ∧ i < 16) ∨ (j = 23 ∧ i < 12) := by
  unfold pL at hi
  by_cases h1 : j < 5
  · rw [if_pos h1] at hi
    exact Or.inl ⟨h1, hi⟩
  rw [if_neg h1] at hi
  by_cases h2 : j < 11
  · rw [if_pos h2] at hi
    exact Or.inr (Or.inl ⟨j-5, by omega, by omega, hi⟩)
  rw [if_neg h2] at hi
  by_cases h3 : j < 19
  · rw [if_pos h3] at hi
    exact Or.inr (Or.inr (Or.inl ⟨j-11, by omega, by omega, hi⟩))
  rw [if_neg h3] at hi
  by_cases h4 : j < 22
  · rw [if_pos h4] at hi
    exact Or.inr (Or.inr (Or.inr (Or.inl ⟨j-19, by omega, by omega, hi⟩)))
  rw [if_neg h4] at hi
  by_cases h5 : j < 23
  · rw [if_pos h5] at hi
    exact Or.inr (Or.inr (Or.inr (Or.inr (Or.inl ⟨by omega, hi⟩))))
  rw [if_neg h5] at hi
  exact Or.inr (Or.inr (Or.inr (Or.inr (Or.inr ⟨by omega, hi⟩))))
theorem pos_i {i : Nat} (h : i < 12) : pos 23 i < 12 := by
  have h7 : i = 0 ∨ i = 1 ∨ i = 2 ∨ i = 3 ∨ i = 4 ∨ i = 5 ∨ i = 6 ∨ i = 7 ∨ i = 8 ∨ i = 9 ∨ i = 10 ∨ i = 11 := by omega
  rcases h7 with h | h | h | h | h | h | h | h | h | h | h | h <;> subst h <;> decide
theorem pos_lt {j i : Nat} (hj : j < 24) (hi : i < pL j) : pos j i < 265 := by
  rcases pL_cases hj hi with ⟨h1, h2⟩ | ⟨a, h0, h1, h2⟩ | ⟨a, h0, h1, h2⟩ | ⟨a, h0, h1, h2⟩ | ⟨h1, h2⟩ | ⟨h1, h2⟩
  · rw [pos_k h1 h2]
    omega
  · subst h1
    rw [pos_h h0 h2]
    omega
  · subst h1
    rw [pos_d h0 h2]
    omega
  · subst h1
    rw [pos_p h0 h2]
    omega
  · subst h1
    rw [pos_l h2]
    omega
  · subst h1
    have := pos_i h2
    omega
theorem unpos_pos {j i : Nat} (hj : j < 24) : unpos (pos j i) = (j, i) := by
  by_cases hi : i < pL j
  · rcases pL_cases hj hi with ⟨h1, h2⟩ | ⟨a, h0, h1, h2⟩ | ⟨a, h0, h1, h2⟩ | ⟨a, h0, h1, h2⟩ | ⟨h1, h2⟩ | ⟨h1, h2⟩
    · rw [pos_k h1 h2]
      unfold unpos
      rw [if_neg (by omega), if_pos (by omega)]
      exact Prod.ext (by show _ = j; omega) (by show _ = i; omega)
    · subst h1
      rw [pos_h h0 h2]
      unfold unpos
      rw [if_neg (by omega), if_neg (by omega), if_pos (by omega)]
      exact Prod.ext (by show _ = 5+a; omega) (by show _ = i; omega)
    · subst h1
      rw [pos_d h0 h2]
      unfold unpos
      rw [if_neg (by omega), if_neg (by omega), if_neg (by omega), if_pos (by omega)]
      exact Prod.ext (by show _ = 11+a; omega) (by show _ = i; omega)
    · subst h1
      rw [pos_p h0 h2]
      unfold unpos
      rw [if_neg (by omega), if_neg (by omega), if_neg (by omega), if_neg (by omega), if_neg (by omega), if_pos (by omega)]
      exact Prod.ext (by show _ = 19+a; omega) (by show _ = i; omega)
    · subst h1
      rw [pos_l h2]
      unfold unpos
      rw [if_neg (by omega), if_neg (by omega), if_neg (by omega), if_neg (by omega), if_pos (by omega)]
      exact Prod.ext rfl (by show _ = i; omega)
    · subst h1
      have h7 : i = 0 ∨ i = 1 ∨ i = 2 ∨ i = 3 ∨ i = 4 ∨ i = 5 ∨ i = 6 ∨ i = 7 ∨ i = 8 ∨ i = 9 ∨ i = 10 ∨ i = 11 := by omega
      rcases h7 with h | h | h | h | h | h | h | h | h | h | h | h <;> subst h <;> rfl
  · have e : pos j i = 1000 + 24 * i + j := if_neg hi
    rw [e]
    unfold unpos
    rw [if_neg (by omega), if_neg (by omega), if_neg (by omega), if_neg (by omega), if_neg (by omega), if_neg (by omega)]
    exact Prod.ext (by show _ = j; omega) (by show _ = i; omega)
theorem pos_inj {j i j' i' : Nat} (hj : j < 24) (hj' : j' < 24) (e : pos j i = pos j' i') : j = j' ∧ i = i' := by
  have e1 := unpos_pos (i := i) hj
  rw [e, unpos_pos hj'] at e1
  exact ⟨(Prod.mk.inj e1).1.symm, (Prod.mk.inj e1).2.symm⟩
/-- a write of the class's state, and of the model's row -/
def wr (f : bkA) (j i : Nat) (v : Int32) : bkA := ur f j (upd (f j) i v)
def mr (r : Nat → Int32) (j i : Nat) (v : Int32) : Nat → Int32 := upd r (pos j i) v
theorem mr_at {r : Nat → Int32} {j i j' i' : Nat} {v : Int32} (hj : j < 24) (hj' : j' < 24) : mr r j i v (pos j' i') = if j' = j ∧ i' = i then v else r (pos j' i') := by
  unfold mr upd
  by_cases h : j' = j ∧ i' = i
  · rw [if_pos h, if_pos (by rw [h.1, h.2])]
  · rw [if_neg h, if_neg]
    intro e
    exact h (pos_inj hj' hj e)
theorem mr_s {r : Nat → Int32} {j i : Nat} {v : Int32} : mr r j i v (pos j i) = v := pk_us
theorem mr_n {r : Nat → Int32} {j i j' i' : Nat} {v : Int32} (h : j' ≠ j) (hj : j < 24) (hj' : j' < 24) : mr r j i v (pos j' i') = r (pos j' i') := by
  rw [mr_at hj hj', if_neg (fun q => h q.1)]
theorem mr_i {r : Nat → Int32} {j i i' : Nat} {v : Int32} (h : i' ≠ i) (hj : j < 24) : mr r j i v (pos j i') = r (pos j i') := by
  rw [mr_at hj hj, if_neg (fun q => h q.2)]
theorem wr_at {f : bkA} {j i j' i' : Nat} {v : Int32} : wr f j i v j' i' = if j' = j ∧ i' = i then v else f j' i' := by
  unfold wr
  by_cases h : j' = j
  · subst h
    rw [ur_s]
    unfold upd
    by_cases h2 : i' = i
    · rw [if_pos h2, if_pos ⟨rfl, h2⟩]
    · rw [if_neg h2, if_neg (fun q => h2 q.2)]
  · rw [ur_n h, if_neg (fun q => h q.1)]
theorem wr_s {f : bkA} {j i : Nat} {v : Int32} : wr f j i v j i = v := by
  rw [wr_at, if_pos ⟨rfl, rfl⟩]
theorem wr_n {f : bkA} {j i j' : Nat} {v : Int32} (h : j' ≠ j) : wr f j i v j' = f j' := ur_n h
theorem wr_i {f : bkA} {j i i' : Nat} {v : Int32} (h : i' ≠ i) : wr f j i v j i' = f j i' := by
  rw [wr_at, if_neg (fun q => h q.2)]
theorem wr_u {f : bkA} {j : Nat} {v : Int32} {i : Nat} : ur f j (upd (f j) i v) = wr f j i v := rfl
theorem wr_put {f : bkA} {j n i : Nat} {v : Int32} (h : i < n) (hn : n < 2^31) : ur f j (rput n (f j) (nI i) v) = wr f j i v := by
  rw [rput_nI h hn]
  rfl
theorem wr_inc {f : bkA} {j n i : Nat} {v : Int32} (h : i < n) (hn : n < 2^31) : ur f j (rinc n (f j) (nI i) v) = wr f j i (f j i + v) := by
  rw [rinc_nI h hn]
  rfl
theorem mr_u {r : Nat → Int32} {j i : Nat} {v : Int32} : upd r (pos j i) v = mr r j i v := rfl
/-! the model's words read at positions -/
theorem x9_of {r : Nat → Int32} {d j : Nat} (hd : d < 16) (hj : j < 8) : m9_of r (nI d) (nI j) = some (r (pos (11+j) d)) := by
  unfold m9_of
  have e : (85 + (8 * nI d)) + nI j = nI (85 + 8*d + j) := by rw [l_85, l_8, pk_mul, nI_add, nI_add]
  rw [e, ck_nI (by omega) (by decide), nI_clamp (by omega), pos_d hj hd]
theorem a9_of0 {r : Nat → Int32} {d : Nat} (hd : d < 16) : m9_of r (nI d) 0 = some (r (pos 11 d)) := x9_of (j := 0) hd (by decide)
theorem a9_of1 {r : Nat → Int32} {d : Nat} (hd : d < 16) : m9_of r (nI d) 1 = some (r (pos 12 d)) := x9_of (j := 1) hd (by decide)
theorem a9_of2 {r : Nat → Int32} {d : Nat} (hd : d < 16) : m9_of r (nI d) 2 = some (r (pos 13 d)) := x9_of (j := 2) hd (by decide)
theorem a9_of3 {r : Nat → Int32} {d : Nat} (hd : d < 16) : m9_of r (nI d) 3 = some (r (pos 14 d)) := x9_of (j := 3) hd (by decide)
theorem a9_of4 {r : Nat → Int32} {d : Nat} (hd : d < 16) : m9_of r (nI d) 4 = some (r (pos 15 d)) := x9_of (j := 4) hd (by decide)
theorem a9_of5 {r : Nat → Int32} {d : Nat} (hd : d < 16) : m9_of r (nI d) 5 = some (r (pos 16 d)) := x9_of (j := 5) hd (by decide)
theorem a9_of6 {r : Nat → Int32} {d : Nat} (hd : d < 16) : m9_of r (nI d) 6 = some (r (pos 17 d)) := x9_of (j := 6) hd (by decide)
theorem a9_of7 {r : Nat → Int32} {d : Nat} (hd : d < 16) : m9_of r (nI d) 7 = some (r (pos 18 d)) := x9_of (j := 7) hd (by decide)
theorem x9_at {r : Nat → Int32} {d j : Nat} (hd : d < 12) (hj : j < 3) : m9_at r (nI d) (nI j) = some (r (pos (19+j) d)) := by
  unfold m9_at
  have e : (229 + (3 * nI d)) + nI j = nI (229 + 3*d + j) := by rw [l_229, l_3, pk_mul, nI_add, nI_add]
  rw [e, ck_nI (by omega) (by decide), nI_clamp (by omega), pos_p hj hd]
theorem a9_at0 {r : Nat → Int32} {d : Nat} (hd : d < 12) : m9_at r (nI d) 0 = some (r (pos 19 d)) := x9_at (j := 0) hd (by decide)
theorem a9_at1 {r : Nat → Int32} {d : Nat} (hd : d < 12) : m9_at r (nI d) 1 = some (r (pos 20 d)) := x9_at (j := 1) hd (by decide)
theorem a9_at2 {r : Nat → Int32} {d : Nat} (hd : d < 12) : m9_at r (nI d) 2 = some (r (pos 21 d)) := x9_at (j := 2) hd (by decide)
theorem x9_kindOf {r : Nat → Int32} {d j : Nat} (hd : d < 5) (hj : j < 5) : m9_kindOf r (nI d) (nI j) = some (r (pos j d)) := by
  unfold m9_kindOf
  have e : (12 + (5 * nI d)) + nI j = nI (12 + 5*d + j) := by rw [l_12, l_5, pk_mul, nI_add, nI_add]
  rw [e, ck_nI (by omega) (by decide), nI_clamp (by omega), pos_k hj hd]
theorem a9_kindOf0 {r : Nat → Int32} {d : Nat} (hd : d < 5) : m9_kindOf r (nI d) 0 = some (r (pos 0 d)) := x9_kindOf (j := 0) hd (by decide)
theorem a9_kindOf1 {r : Nat → Int32} {d : Nat} (hd : d < 5) : m9_kindOf r (nI d) 1 = some (r (pos 1 d)) := x9_kindOf (j := 1) hd (by decide)
theorem a9_kindOf2 {r : Nat → Int32} {d : Nat} (hd : d < 5) : m9_kindOf r (nI d) 2 = some (r (pos 2 d)) := x9_kindOf (j := 2) hd (by decide)
theorem a9_kindOf3 {r : Nat → Int32} {d : Nat} (hd : d < 5) : m9_kindOf r (nI d) 3 = some (r (pos 3 d)) := x9_kindOf (j := 3) hd (by decide)
theorem a9_kindOf4 {r : Nat → Int32} {d : Nat} (hd : d < 5) : m9_kindOf r (nI d) 4 = some (r (pos 4 d)) := x9_kindOf (j := 4) hd (by decide)
theorem x9_put {r : Nat → Int32} {d j : Nat} {v : Int32} (hd : d < 16) (hj : j < 8) : m9_put r (nI d) (nI j) v = some (mr r (11+j) d v) := by
  unfold m9_put
  have e : (85 + (8 * nI d)) + nI j = nI (85 + 8*d + j) := by rw [l_85, l_8, pk_mul, nI_add, nI_add]
  rw [e, ck_nI (by omega) (by decide), nI_clamp (by omega), ← pos_d hj hd]
  rfl
theorem a9_put0 {r : Nat → Int32} {d : Nat} {v : Int32} (hd : d < 16) : m9_put r (nI d) 0 v = some (mr r 11 d v) := x9_put (j := 0) hd (by decide)
theorem a9_put1 {r : Nat → Int32} {d : Nat} {v : Int32} (hd : d < 16) : m9_put r (nI d) 1 v = some (mr r 12 d v) := x9_put (j := 1) hd (by decide)
theorem a9_put2 {r : Nat → Int32} {d : Nat} {v : Int32} (hd : d < 16) : m9_put r (nI d) 2 v = some (mr r 13 d v) := x9_put (j := 2) hd (by decide)
theorem a9_put3 {r : Nat → Int32} {d : Nat} {v : Int32} (hd : d < 16) : m9_put r (nI d) 3 v = some (mr r 14 d v) := x9_put (j := 3) hd (by decide)
theorem a9_put4 {r : Nat → Int32} {d : Nat} {v : Int32} (hd : d < 16) : m9_put r (nI d) 4 v = some (mr r 15 d v) := x9_put (j := 4) hd (by decide)
theorem a9_put5 {r : Nat → Int32} {d : Nat} {v : Int32} (hd : d < 16) : m9_put r (nI d) 5 v = some (mr r 16 d v) := x9_put (j := 5) hd (by decide)
theorem a9_put6 {r : Nat → Int32} {d : Nat} {v : Int32} (hd : d < 16) : m9_put r (nI d) 6 v = some (mr r 17 d v) := x9_put (j := 6) hd (by decide)
theorem a9_put7 {r : Nat → Int32} {d : Nat} {v : Int32} (hd : d < 16) : m9_put r (nI d) 7 v = some (mr r 18 d v) := x9_put (j := 7) hd (by decide)
theorem a9_byKind0 {r : Nat → Int32} {d k : Nat} (hd : d < 16) (e : r (pos 12 d) = nI k) (hk : k < 5) : m9_byKind r (nI d) 0 = some (r (pos 0 k)) := by
  unfold m9_byKind
  rw [a9_of1 hd, ob1_s, e, a9_kindOf0 hk, ob1_s]
theorem a9_byKind1 {r : Nat → Int32} {d k : Nat} (hd : d < 16) (e : r (pos 12 d) = nI k) (hk : k < 5) : m9_byKind r (nI d) 1 = some (r (pos 1 k)) := by
  unfold m9_byKind
  rw [a9_of1 hd, ob1_s, e, a9_kindOf1 hk, ob1_s]
theorem a9_byKind2 {r : Nat → Int32} {d k : Nat} (hd : d < 16) (e : r (pos 12 d) = nI k) (hk : k < 5) : m9_byKind r (nI d) 2 = some (r (pos 2 k)) := by
  unfold m9_byKind
  rw [a9_of1 hd, ob1_s, e, a9_kindOf2 hk, ob1_s]
theorem a9_byKind3 {r : Nat → Int32} {d k : Nat} (hd : d < 16) (e : r (pos 12 d) = nI k) (hk : k < 5) : m9_byKind r (nI d) 3 = some (r (pos 3 k)) := by
  unfold m9_byKind
  rw [a9_of1 hd, ob1_s, e, a9_kindOf3 hk, ob1_s]
theorem a9_byKind4 {r : Nat → Int32} {d k : Nat} (hd : d < 16) (e : r (pos 12 d) = nI k) (hk : k < 5) : m9_byKind r (nI d) 4 = some (r (pos 4 k)) := by
  unfold m9_byKind
  rw [a9_of1 hd, ob1_s, e, a9_kindOf4 hk, ob1_s]
theorem c9_0 {β : Type} {k : Option β} : ck 0 265 k = k := ck_nI (d := 0) (by decide) (by decide)
theorem h9_0 : (0 : Int32).toNatClampNeg = pos 23 4 := nI_clamp (n := 0) (by decide)
theorem c9_1 {β : Type} {k : Option β} : ck 1 265 k = k := ck_nI (d := 1) (by decide) (by decide)
theorem h9_1 : (1 : Int32).toNatClampNeg = pos 23 5 := nI_clamp (n := 1) (by decide)
theorem c9_2 {β : Type} {k : Option β} : ck 2 265 k = k := ck_nI (d := 2) (by decide) (by decide)
theorem h9_2 : (2 : Int32).toNatClampNeg = pos 23 0 := nI_clamp (n := 2) (by decide)
theorem c9_3 {β : Type} {k : Option β} : ck 3 265 k = k := ck_nI (d := 3) (by decide) (by decide)
theorem h9_3 : (3 : Int32).toNatClampNeg = pos 23 1 := nI_clamp (n := 3) (by decide)
theorem c9_4 {β : Type} {k : Option β} : ck 4 265 k = k := ck_nI (d := 4) (by decide) (by decide)
theorem h9_4 : (4 : Int32).toNatClampNeg = pos 23 2 := nI_clamp (n := 4) (by decide)
theorem c9_5 {β : Type} {k : Option β} : ck 5 265 k = k := ck_nI (d := 5) (by decide) (by decide)
theorem h9_5 : (5 : Int32).toNatClampNeg = pos 23 3 := nI_clamp (n := 5) (by decide)
theorem c9_6 {β : Type} {k : Option β} : ck 6 265 k = k := ck_nI (d := 6) (by decide) (by decide)
theorem h9_6 : (6 : Int32).toNatClampNeg = pos 23 6 := nI_clamp (n := 6) (by decide)
theorem c9_7 {β : Type} {k : Option β} : ck 7 265 k = k := ck_nI (d := 7) (by decide) (by decide)
theorem h9_7 : (7 : Int32).toNatClampNeg = pos 23 7 := nI_clamp (n := 7) (by decide)
theorem c9_8 {β : Type} {k : Option β} : ck 8 265 k = k := ck_nI (d := 8) (by decide) (by decide)
theorem h9_8 : (8 : Int32).toNatClampNeg = pos 23 8 := nI_clamp (n := 8) (by decide)
theorem c9_9 {β : Type} {k : Option β} : ck 9 265 k = k := ck_nI (d := 9) (by decide) (by decide)
theorem h9_9 : (9 : Int32).toNatClampNeg = pos 23 9 := nI_clamp (n := 9) (by decide)
theorem c9_10 {β : Type} {k : Option β} : ck 10 265 k = k := ck_nI (d := 10) (by decide) (by decide)
theorem h9_10 : (10 : Int32).toNatClampNeg = pos 23 10 := nI_clamp (n := 10) (by decide)
theorem c9_11 {β : Type} {k : Option β} : ck 11 265 k = k := ck_nI (d := 11) (by decide) (by decide)
theorem h9_11 : (11 : Int32).toNatClampNeg = pos 23 11 := nI_clamp (n := 11) (by decide)
theorem x9_H {d j : Nat} (hd : d < 8) (hj : j < 6) : (37 + (6 * nI d)) + nI j = nI (pos (5+j) d) := by
  rw [l_37, l_6, pk_mul, nI_add, nI_add, pos_h hj hd]
theorem e9_H0 {d : Nat} (hd : d < 8) : (37 + (6 * nI d)) + 0 = nI (pos 5 d) := x9_H (j := 0) hd (by decide)
theorem e9_H1 {d : Nat} (hd : d < 8) : (37 + (6 * nI d)) + 1 = nI (pos 6 d) := x9_H (j := 1) hd (by decide)
theorem e9_H2 {d : Nat} (hd : d < 8) : (37 + (6 * nI d)) + 2 = nI (pos 7 d) := x9_H (j := 2) hd (by decide)
theorem e9_H3 {d : Nat} (hd : d < 8) : (37 + (6 * nI d)) + 3 = nI (pos 8 d) := x9_H (j := 3) hd (by decide)
theorem e9_H4 {d : Nat} (hd : d < 8) : (37 + (6 * nI d)) + 4 = nI (pos 9 d) := x9_H (j := 4) hd (by decide)
theorem e9_H5 {d : Nat} (hd : d < 8) : (37 + (6 * nI d)) + 5 = nI (pos 10 d) := x9_H (j := 5) hd (by decide)
theorem x9_P {d j : Nat} (hd : d < 12) (hj : j < 3) : (229 + (3 * nI d)) + nI j = nI (pos (19+j) d) := by
  rw [l_229, l_3, pk_mul, nI_add, nI_add, pos_p hj hd]
theorem e9_P0 {d : Nat} (hd : d < 12) : (229 + (3 * nI d)) + 0 = nI (pos 19 d) := x9_P (j := 0) hd (by decide)
theorem e9_P1 {d : Nat} (hd : d < 12) : (229 + (3 * nI d)) + 1 = nI (pos 20 d) := x9_P (j := 1) hd (by decide)
theorem e9_P2 {d : Nat} (hd : d < 12) : (229 + (3 * nI d)) + 2 = nI (pos 21 d) := x9_P (j := 2) hd (by decide)
theorem x9_K {d j : Nat} (hd : d < 5) (hj : j < 5) : (12 + (5 * nI d)) + nI j = nI (pos j d) := by
  rw [l_12, l_5, pk_mul, nI_add, nI_add, pos_k hj hd]
theorem e9_K0 {d : Nat} (hd : d < 5) : (12 + (5 * nI d)) + 0 = nI (pos 0 d) := x9_K (j := 0) hd (by decide)
theorem e9_K1 {d : Nat} (hd : d < 5) : (12 + (5 * nI d)) + 1 = nI (pos 1 d) := x9_K (j := 1) hd (by decide)
theorem e9_K2 {d : Nat} (hd : d < 5) : (12 + (5 * nI d)) + 2 = nI (pos 2 d) := x9_K (j := 2) hd (by decide)
theorem e9_K3 {d : Nat} (hd : d < 5) : (12 + (5 * nI d)) + 3 = nI (pos 3 d) := x9_K (j := 3) hd (by decide)
theorem e9_K4 {d : Nat} (hd : d < 5) : (12 + (5 * nI d)) + 4 = nI (pos 4 d) := x9_K (j := 4) hd (by decide)
theorem e9_L {i : Nat} (hi : i < 16) : (213 : Int32) + nI i = nI (pos 22 i) := by
  rw [l_213, nI_add, pos_l hi]
theorem e9_L1 {i : Nat} (hi : i + 1 < 16) : ((213 : Int32) + nI i) + 1 = nI (pos 22 (i+1)) := by
  rw [l_213, nI_add, l_1, nI_add, pos_l hi]
  rfl
theorem k9_K {β : Type} {j i : Nat} {k : Option β} (hj : j < 24) (hi : i < pL j) : ck (nI (pos j i)) 265 k = k := ck_nI (pos_lt hj hi) (by decide)
theorem q9_K {j i : Nat} (hj : j < 24) (hi : i < pL j) : (nI (pos j i)).toNatClampNeg = pos j i := nI_clamp (by have := pos_lt hj hi; omega)

theorem k9_0 {β : Type} {i : Nat} {k : Option β} (hi : i < 5) : ck (nI (pos 0 i)) 265 k = k := k9_K (by decide) hi
theorem q9_0 {i : Nat} (hi : i < 5) : (nI (pos 0 i)).toNatClampNeg = pos 0 i := q9_K (by decide) hi
theorem k9_1 {β : Type} {i : Nat} {k : Option β} (hi : i < 5) : ck (nI (pos 1 i)) 265 k = k := k9_K (by decide) hi
theorem q9_1 {i : Nat} (hi : i < 5) : (nI (pos 1 i)).toNatClampNeg = pos 1 i := q9_K (by decide) hi
theorem k9_2 {β : Type} {i : Nat} {k : Option β} (hi : i < 5) : ck (nI (pos 2 i)) 265 k = k := k9_K (by decide) hi
theorem q9_2 {i : Nat} (hi : i < 5) : (nI (pos 2 i)).toNatClampNeg = pos 2 i := q9_K (by decide) hi
theorem k9_3 {β : Type} {i : Nat} {k : Option β} (hi : i < 5) : ck (nI (pos 3 i)) 265 k = k := k9_K (by decide) hi
theorem q9_3 {i : Nat} (hi : i < 5) : (nI (pos 3 i)).toNatClampNeg = pos 3 i := q9_K (by decide) hi
theorem k9_4 {β : Type} {i : Nat} {k : Option β} (hi : i < 5) : ck (nI (pos 4 i)) 265 k = k := k9_K (by decide) hi
theorem q9_4 {i : Nat} (hi : i < 5) : (nI (pos 4 i)).toNatClampNeg = pos 4 i := q9_K (by decide) hi
theorem k9_5 {β : Type} {i : Nat} {k : Option β} (hi : i < 8) : ck (nI (pos 5 i)) 265 k = k := k9_K (by decide) hi
theorem q9_5 {i : Nat} (hi : i < 8) : (nI (pos 5 i)).toNatClampNeg = pos 5 i := q9_K (by decide) hi
theorem k9_6 {β : Type} {i : Nat} {k : Option β} (hi : i < 8) : ck (nI (pos 6 i)) 265 k = k := k9_K (by decide) hi
theorem q9_6 {i : Nat} (hi : i < 8) : (nI (pos 6 i)).toNatClampNeg = pos 6 i := q9_K (by decide) hi
theorem k9_7 {β : Type} {i : Nat} {k : Option β} (hi : i < 8) : ck (nI (pos 7 i)) 265 k = k := k9_K (by decide) hi
theorem q9_7 {i : Nat} (hi : i < 8) : (nI (pos 7 i)).toNatClampNeg = pos 7 i := q9_K (by decide) hi
theorem k9_8 {β : Type} {i : Nat} {k : Option β} (hi : i < 8) : ck (nI (pos 8 i)) 265 k = k := k9_K (by decide) hi
theorem q9_8 {i : Nat} (hi : i < 8) : (nI (pos 8 i)).toNatClampNeg = pos 8 i := q9_K (by decide) hi
theorem k9_9 {β : Type} {i : Nat} {k : Option β} (hi : i < 8) : ck (nI (pos 9 i)) 265 k = k := k9_K (by decide) hi
theorem q9_9 {i : Nat} (hi : i < 8) : (nI (pos 9 i)).toNatClampNeg = pos 9 i := q9_K (by decide) hi
theorem k9_10 {β : Type} {i : Nat} {k : Option β} (hi : i < 8) : ck (nI (pos 10 i)) 265 k = k := k9_K (by decide) hi
theorem q9_10 {i : Nat} (hi : i < 8) : (nI (pos 10 i)).toNatClampNeg = pos 10 i := q9_K (by decide) hi
theorem k9_11 {β : Type} {i : Nat} {k : Option β} (hi : i < 16) : ck (nI (pos 11 i)) 265 k = k := k9_K (by decide) hi
theorem q9_11 {i : Nat} (hi : i < 16) : (nI (pos 11 i)).toNatClampNeg = pos 11 i := q9_K (by decide) hi
theorem k9_12 {β : Type} {i : Nat} {k : Option β} (hi : i < 16) : ck (nI (pos 12 i)) 265 k = k := k9_K (by decide) hi
theorem q9_12 {i : Nat} (hi : i < 16) : (nI (pos 12 i)).toNatClampNeg = pos 12 i := q9_K (by decide) hi
theorem k9_13 {β : Type} {i : Nat} {k : Option β} (hi : i < 16) : ck (nI (pos 13 i)) 265 k = k := k9_K (by decide) hi
theorem q9_13 {i : Nat} (hi : i < 16) : (nI (pos 13 i)).toNatClampNeg = pos 13 i := q9_K (by decide) hi
theorem k9_14 {β : Type} {i : Nat} {k : Option β} (hi : i < 16) : ck (nI (pos 14 i)) 265 k = k := k9_K (by decide) hi
theorem q9_14 {i : Nat} (hi : i < 16) : (nI (pos 14 i)).toNatClampNeg = pos 14 i := q9_K (by decide) hi
theorem k9_15 {β : Type} {i : Nat} {k : Option β} (hi : i < 16) : ck (nI (pos 15 i)) 265 k = k := k9_K (by decide) hi
theorem q9_15 {i : Nat} (hi : i < 16) : (nI (pos 15 i)).toNatClampNeg = pos 15 i := q9_K (by decide) hi
theorem k9_16 {β : Type} {i : Nat} {k : Option β} (hi : i < 16) : ck (nI (pos 16 i)) 265 k = k := k9_K (by decide) hi
theorem q9_16 {i : Nat} (hi : i < 16) : (nI (pos 16 i)).toNatClampNeg = pos 16 i := q9_K (by decide) hi
theorem k9_17 {β : Type} {i : Nat} {k : Option β} (hi : i < 16) : ck (nI (pos 17 i)) 265 k = k := k9_K (by decide) hi
theorem q9_17 {i : Nat} (hi : i < 16) : (nI (pos 17 i)).toNatClampNeg = pos 17 i := q9_K (by decide) hi
theorem k9_18 {β : Type} {i : Nat} {k : Option β} (hi : i < 16) : ck (nI (pos 18 i)) 265 k = k := k9_K (by decide) hi
theorem q9_18 {i : Nat} (hi : i < 16) : (nI (pos 18 i)).toNatClampNeg = pos 18 i := q9_K (by decide) hi
theorem k9_19 {β : Type} {i : Nat} {k : Option β} (hi : i < 12) : ck (nI (pos 19 i)) 265 k = k := k9_K (by decide) hi
theorem q9_19 {i : Nat} (hi : i < 12) : (nI (pos 19 i)).toNatClampNeg = pos 19 i := q9_K (by decide) hi
theorem k9_20 {β : Type} {i : Nat} {k : Option β} (hi : i < 12) : ck (nI (pos 20 i)) 265 k = k := k9_K (by decide) hi
theorem q9_20 {i : Nat} (hi : i < 12) : (nI (pos 20 i)).toNatClampNeg = pos 20 i := q9_K (by decide) hi
theorem k9_21 {β : Type} {i : Nat} {k : Option β} (hi : i < 12) : ck (nI (pos 21 i)) 265 k = k := k9_K (by decide) hi
theorem q9_21 {i : Nat} (hi : i < 12) : (nI (pos 21 i)).toNatClampNeg = pos 21 i := q9_K (by decide) hi
theorem k9_22 {β : Type} {i : Nat} {k : Option β} (hi : i < 16) : ck (nI (pos 22 i)) 265 k = k := k9_K (by decide) hi
theorem q9_22 {i : Nat} (hi : i < 16) : (nI (pos 22 i)).toNatClampNeg = pos 22 i := q9_K (by decide) hi
theorem k9_23 {β : Type} {i : Nat} {k : Option β} (hi : i < 12) : ck (nI (pos 23 i)) 265 k = k := k9_K (by decide) hi
theorem q9_23 {i : Nat} (hi : i < 12) : (nI (pos 23 i)).toNatClampNeg = pos 23 i := q9_K (by decide) hi
theorem wr_put' {f : bkA} {j n i : Nat} {x v : Int32} (hx : x = nI i) (h : i < n) (hn : n < 2^31) : ur f j (rput n (f j) x v) = wr f j i v := by
  rw [hx, wr_put h hn]
theorem wr_c23 {f : bkA} {j i i' : Nat} {v v' : Int32} (h : j ≠ 23) : wr (wr f 23 i v) j i' v' = wr (wr f j i' v') 23 i v := by
  funext a
  funext b
  rw [wr_at, wr_at, wr_at, wr_at]
  by_cases h1 : a = j ∧ b = i'
  · rw [if_pos h1, if_neg (fun q => h (h1.1.symm.trans q.1)), if_pos h1]
  · rw [if_neg h1, if_neg h1]
theorem wr_r {f : bkA} {j i : Nat} {v : Int32} : wr f j i v j = upd (f j) i v := ur_s
theorem mr_c23 {r : Nat → Int32} {j i i' : Nat} {v v' : Int32} (h : j ≠ 23) (hj : j < 24) : mr (mr r 23 i v) j i' v' = mr (mr r j i' v') 23 i v := by
  funext a
  unfold mr upd
  by_cases h1 : a = pos j i'
  · subst h1
    rw [if_pos rfl, if_neg (fun q => h (pos_inj hj (by decide) q).1), if_pos rfl]
  · rw [if_neg h1, if_neg h1]
