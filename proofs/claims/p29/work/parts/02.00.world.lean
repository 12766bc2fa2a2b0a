/-! the world of the claim: 314 cells at the addresses xa X 0 .. 313, their contents out of rows of ints and longs.
States 0 (now), 1 (whatIf), 2..5 (saved): cells 51*k ..; rows 24*k + j of ints (j = 23: the State's own ints). -/
abbrev bkA : Type := Nat → Nat → Int32
abbrev bkL : Type := Nat → Nat → Int64
abbrev bkW : Type := bkA × bkL
abbrev bkX : Type := va_G × (ClassId × (ClassId × (ClassId × (Nat → Nat))))
def xD (X : bkX) : va_G := X.1
def xI (X : bkX) : ClassId := X.2.1
def xJ (X : bkX) : ClassId := X.2.2.1
def xQ (X : bkX) : ClassId := X.2.2.2.1
def xa (X : bkX) : Nat → Nat := X.2.2.2.2
def xT (X : bkX) : List (ClassId × FieldType) := [(xI X, .int), (xQ X, .object "BakeTurns$State")]
def xF (b0 : Nat) : Nat → Prop := fun q => b0 ≤ q
def bkLen (j : Nat) : Nat := if j < 5 then 5 else if j < 11 then 8 else if j < 19 then 16 else if j < 22 then 12 else 16
def ur {α : Type} (f : Nat → α) (j : Nat) (g : α) : Nat → α := fun j' => if j' = j then g else f j'
theorem ur_s {α : Type} {f : Nat → α} {j : Nat} {g : α} : ur f j g j = g := if_pos rfl
theorem ur_n {α : Type} {f : Nat → α} {j i : Nat} {g : α} (h : i ≠ j) : ur f j g i = f i := if_neg h
def ua (w : bkW) (a : Nat) (g : Nat → Int32) : bkW := (ur w.1 a g, w.2)
def pk (w : bkW) (k : Nat) (f : bkA) : bkW := (fun a => if a / 24 = k then f (a % 24) else w.1 a, w.2)
def stF (X : bkX) (k : Nat) (f : bkA) : List Value := [.ref (xa X (51*k+1)), .ref (xa X (51*k+2)), .ref (xa X (51*k+3)), .ref (xa X (51*k+4)), .ref (xa X (51*k+27)), .int (f 23 3), .int (f 23 4), .int (f 23 5), .int (f 23 6), .int (f 23 7), .int (f 23 8), .int (f 23 9), .int (f 23 10), .int (f 23 11)]
def kiF (X : bkX) (k : Nat) (f : bkA) : List Value := [.int (f 23 0), .ref (xa X (51*k+5)), .ref (xa X (51*k+6)), .ref (xa X (51*k+7)), .ref (xa X (51*k+8)), .ref (xa X (51*k+9))]
def hoF (X : bkX) (k : Nat) (f : bkA) : List Value := [.int (f 23 1), .ref (xa X (51*k+10)), .ref (xa X (51*k+11)), .ref (xa X (51*k+12)), .ref (xa X (51*k+13)), .ref (xa X (51*k+14)), .ref (xa X (51*k+15))]
def doF (X : bkX) (k : Nat) (f : bkA) : List Value := [.int (f 23 2), .ref (xa X (51*k+16)), .ref (xa X (51*k+17)), .ref (xa X (51*k+18)), .ref (xa X (51*k+19)), .ref (xa X (51*k+20)), .ref (xa X (51*k+21)), .ref (xa X (51*k+22)), .ref (xa X (51*k+23))]
def plF (X : bkX) (k : Nat) : List Value := [.ref (xa X (51*k+24)), .ref (xa X (51*k+25)), .ref (xa X (51*k+26))]
def embS (X : bkX) (k : Nat) (f : bkA) (i : Nat) : va_E :=
  if i = 0 then .inr (7, stF X k f) else if i = 1 then .inr (4, kiF X k f) else if i = 2 then .inr (3, hoF X k f) else if i = 3 then .inr (1, doF X k f) else if i = 4 then .inr (5, plF X k)
  else if i < 28 then .inr (6, [.ref (xa X (51*k+23+i))]) else .inl (xI X, bkLen (i-28), .inl (f (i-28)))
def embX (X : bkX) (w : bkW) (i : Nat) : va_E :=
  if i = 0 then .inr (8, [.ref (xa X 0), .ref (xa X 51), .ref (xa X 307), .ref (xa X 309)])
  else if i = 1 then .inr (2, [.ref (xa X 308), .int (w.1 147 0), .int (w.1 147 1)])
  else if i = 2 then .inl (xQ X, 4, .inr (.inr (.inr (.inr (fun j => some (xa X (51*(2+j))))))))
  else if i = 3 then .inr (0, [.ref (xa X 310), .ref (xa X 311), .int (w.1 146 0), .int (w.1 146 1), .int (w.1 146 2), .int (w.1 146 3)])
  else if i = 4 then .inr (6, [.ref (xa X 312)])
  else if i = 5 then .inr (6, [.ref (xa X 313)])
  else if i = 6 then .inl (xI X, 150, .inl (w.1 144))
  else if i = 7 then .inl (xI X, 5, .inl (w.1 145))
  else .inr (0, [])
def emb (X : bkX) (w : bkW) (i : Nat) : va_E := if i < 306 then embS X (i/51) (fun j => w.1 (24*(i/51)+j)) (i%51) else embX X w (i-306)
def wl (X : bkX) (e : Nat → va_E) : va_W := (List.range 314).map fun i => (xa X i, e i)
def HW (X : bkX) (w : bkW) (H : Heap) : Prop := va_P (xD X) vwCl (wl X (emb X w)) H
def XO (X : bkX) (b0 : Nat) : Prop := (∀ i j : Nat, i < 314 → j < 314 → xa X i = xa X j → i = j) ∧ ∀ i : Nat, i < 314 → b0 ≤ xa X i
abbrev XK (X : bkX) (U : State) : Prop := va_K (xD X) vwCl (xT X) U
def WU (X : bkX) (w : bkW) (U : State) : Prop := HW X w U.heap ∧ XK X U
theorem wl_get {X : bkX} {e : Nat → va_E} {i : Nat} (hi : i < 314) : (wl X e)[i]? = some (xa X i, e i) := by
  simp [wl, hi]
theorem wl_set {X : bkX} {e : Nat → va_E} {i : Nat} {v : va_E} (hi : i < 314) : (wl X e).set i (xa X i, v) = wl X (vf_upd e i v) := by
  apply List.ext_getElem?
  intro j
  rw [List.getElem?_set]
  by_cases h : i = j
  · subst h
    have hl : i < (wl X e).length := by simp [wl, hi]
    rw [if_pos rfl, if_pos hl, wl_get hi]
    simp [vf_upd]
  · rw [if_neg h]
    by_cases hj : j < 314
    · rw [wl_get hj, wl_get hj]
      have h2 : ¬ j = i := fun q => h q.symm
      simp [vf_upd, h2]
    · rw [List.getElem?_eq_none (by simp [wl]; omega), List.getElem?_eq_none (by simp [wl]; omega)]
theorem wl_congr {X : bkX} {e e' : Nat → va_E} (h : ∀ i, i < 314 → e i = e' i) : wl X e = wl X e' := by
  apply List.map_congr_left
  intro i hi
  rw [h i (List.mem_range.mp hi)]
theorem XO.D {X : bkX} {b0 : Nat} (h : XO X b0) (e : Nat → va_E) : va_D (xF b0) (wl X e) := by
  have key : ∀ (k : Nat) (q : Nat × va_E), (wl X e)[k]? = some q → k < 314 ∧ q.1 = xa X k := by
    intro k q hk
    by_cases hl : k < 314
    · rw [wl_get hl] at hk
      cases hk
      exact ⟨hl, rfl⟩
    · rw [List.getElem?_eq_none (by simp [wl]; omega)] at hk
      cases hk
  refine ⟨fun i j p q hi hj hpq => ?_, fun k q hk => ?_⟩
  · obtain ⟨h1, e1⟩ := key i p hi
    obtain ⟨h2, e2⟩ := key j q hj
    exact h.1 i j h1 h2 (by rw [← e1, ← e2, hpq])
  · obtain ⟨h1, e1⟩ := key k q hk
    show b0 ≤ q.1
    rw [e1]
    exact h.2 k h1
theorem embS_congr {X : bkX} {k : Nat} {f g : bkA} {i : Nat} (hi : i < 51) (h : ∀ j, j < 24 → f j = g j) : embS X k f i = embS X k g i := by
  have h23 := h 23 (by decide)
  unfold embS stF kiF hoF doF
  rw [h23]
  by_cases h28 : i < 28
  · simp [h28]
  · rw [h (i - 28) (by omega)]
theorem embX_congr {X : bkX} {w w' : bkW} {i : Nat} (h : ∀ a, 144 ≤ a → a < 156 → w.1 a = w'.1 a) (h2 : w.2 = w'.2) : embX X w i = embX X w' i := by
  unfold embX
  rw [h 144 (by decide) (by decide), h 145 (by decide) (by decide), h 146 (by decide) (by decide), h 147 (by decide) (by decide)]
theorem emb_pk {X : bkX} {w : bkW} {k i : Nat} {f : bkA} (hk : k < 6) (hi : i < 51) : emb X (pk w k f) (51*k+i) = embS X k f i := by
  unfold emb
  have h1 : 51*k+i < 306 := by omega
  have h2 : (51*k+i)/51 = k := by omega
  have h3 : (51*k+i)%51 = i := by omega
  rw [if_pos h1, h2, h3]
  refine embS_congr hi fun j hj => ?_
  have h4 : (24*k+j)/24 = k := by omega
  have h5 : (24*k+j)%24 = j := by omega
  show (if (24*k+j)/24 = k then f ((24*k+j)%24) else _) = f j
  rw [if_pos h4, h5]
theorem emb_pk_upd {X : bkX} {w : bkW} {k i : Nat} {f f' : bkA} {v : va_E} (hk : k < 6) (hi : i < 51) (h : ∀ i', i' < 51 → embS X k f' i' = if i' = i then v else embS X k f i') (j : Nat) : vf_upd (emb X (pk w k f)) (51*k+i) v j = emb X (pk w k f') j := by
  unfold vf_upd
  by_cases hj : j < 306
  · by_cases hjk : j / 51 = k
    · have e1 : j = 51*k + j%51 := by omega
      have e2 : j % 51 < 51 := by omega
      rw [e1, emb_pk hk e2, emb_pk hk e2, h _ e2]
      by_cases e3 : j % 51 = i
      · rw [if_pos e3, if_pos (by omega)]
      · rw [if_neg e3, if_neg (by omega)]
    · rw [if_neg (by omega)]
      unfold emb
      rw [if_pos hj, if_pos hj]
      refine embS_congr (by omega) fun a ha => ?_
      show (if (24*(j/51)+a)/24 = k then _ else _) = (if (24*(j/51)+a)/24 = k then _ else _)
      rw [if_neg (by omega), if_neg (by omega)]
  · rw [if_neg (by omega)]
    unfold emb
    rw [if_neg hj, if_neg hj]
    refine embX_congr (fun a h1 h2 => ?_) rfl
    show (if a/24 = k then _ else _) = (if a/24 = k then _ else _)
    rw [if_neg (by omega), if_neg (by omega)]
/-- a row of a State is set -/
theorem embS_row {X : bkX} {k j : Nat} {f : bkA} {g : Nat → Int32} (hj : j < 23) : ∀ i', i' < 51 → embS X k (ur f j g) i' = if i' = 28 + j then .inl (xI X, bkLen j, .inl g) else embS X k f i' := by
  intro i hi
  have h23 : ur f j g 23 = f 23 := ur_n (by omega)
  by_cases h : i = 28 + j
  · subst h
    have h1 : ¬ 28 + j = 0 := by omega
    have h2 : ¬ 28 + j = 1 := by omega
    have h3 : ¬ 28 + j = 2 := by omega
    have h4 : ¬ 28 + j = 3 := by omega
    have h5 : ¬ 28 + j = 4 := by omega
    have h6 : ¬ 28 + j < 28 := by omega
    have h7 : 28 + j - 28 = j := by omega
    rw [if_pos rfl]
    unfold embS
    rw [if_neg h1, if_neg h2, if_neg h3, if_neg h4, if_neg h5, if_neg h6, h7, ur_s]
  · rw [if_neg h]
    unfold embS stF kiF hoF doF
    rw [h23]
    by_cases h28 : i < 28
    · simp [h28]
    · rw [ur_n (by omega)]
theorem pk_ua {w : bkW} {k j : Nat} {f : bkA} {g : Nat → Int32} (hj : j < 24) : ua (pk w k f) (24*k+j) g = pk w k (ur f j g) := by
  unfold ua pk ur
  refine Prod.ext (funext fun a => ?_) rfl
  dsimp only
  by_cases h : a / 24 = k
  · rw [if_pos h, if_pos h]
    by_cases h2 : a % 24 = j
    · rw [if_pos h2, if_pos (by omega)]
    · rw [if_neg h2, if_neg (by omega)]
  · rw [if_neg h, if_neg h, if_neg (by omega)]
theorem pk_at {w : bkW} {k j : Nat} {f : bkA} (hj : j < 24) : (pk w k f).1 (24*k+j) = f j := by
  have h4 : (24*k+j)/24 = k := by omega
  have h5 : (24*k+j)%24 = j := by omega
  show (if (24*k+j)/24 = k then f ((24*k+j)%24) else _) = f j
  rw [if_pos h4, h5]
theorem pk_self (w : bkW) (k : Nat) : pk w k (fun j => w.1 (24*k+j)) = w := by
  unfold pk
  refine Prod.ext (funext fun a => ?_) rfl
  dsimp only
  by_cases h : a / 24 = k
  · rw [if_pos h]
    have e : 24*k + a%24 = a := by omega
    show w.1 (24*k + a%24) = w.1 a
    rw [e]
  · rw [if_neg h]
/-- where a Row lies: its object's cell, its array's cell, its row of ints, its length -/
def RW (X : bkX) (cr ca a n : Nat) : Prop := (cr < 314 ∧ ca < 314) ∧ n < 2^31 ∧ (∀ w, emb X w cr = .inr (6, [.ref (xa X ca)])) ∧ (∀ w, emb X w ca = .inl (xI X, n, .inl (w.1 a))) ∧ ∀ w g i, vf_upd (emb X w) ca (.inl (xI X, n, .inl g)) i = emb X (ua w a g) i
theorem bkLen_lt (j : Nat) : bkLen j < 2^31 := by
  unfold bkLen
  split
  · decide
  · split
    · decide
    · split
      · decide
      · split <;> decide
theorem RW_st {X : bkX} {k j : Nat} (hk : k < 6) (hj : j < 23) : RW X (51*k+(5+j)) (51*k+(28+j)) (24*k+j) (bkLen j) := by
  refine ⟨⟨by omega, by omega⟩, bkLen_lt j, fun w => ?_, fun w => ?_, fun w g i => ?_⟩
  · have h := emb_pk (X := X) (w := w) (f := fun j => w.1 (24*k+j)) hk (show 5 + j < 51 by omega)
    rw [pk_self] at h
    rw [h]
    have h1 : ¬ 5 + j = 0 := by omega
    have h2 : ¬ 5 + j = 1 := by omega
    have h3 : ¬ 5 + j = 2 := by omega
    have h4 : ¬ 5 + j = 3 := by omega
    have h5 : ¬ 5 + j = 4 := by omega
    have h6 : 5 + j < 28 := by omega
    have h7 : 51*k+23+(5+j) = 51*k+(28+j) := by omega
    unfold embS
    rw [if_neg h1, if_neg h2, if_neg h3, if_neg h4, if_neg h5, if_pos h6, h7]
  · have h := emb_pk (X := X) (w := w) (f := fun j => w.1 (24*k+j)) hk (show 28 + j < 51 by omega)
    rw [pk_self] at h
    rw [h]
    have h1 : ¬ 28 + j = 0 := by omega
    have h2 : ¬ 28 + j = 1 := by omega
    have h3 : ¬ 28 + j = 2 := by omega
    have h4 : ¬ 28 + j = 3 := by omega
    have h5 : ¬ 28 + j = 4 := by omega
    have h6 : ¬ 28 + j < 28 := by omega
    have h7 : 28 + j - 28 = j := by omega
    unfold embS
    rw [if_neg h1, if_neg h2, if_neg h3, if_neg h4, if_neg h5, if_neg h6, h7]
  · have h := emb_pk_upd (X := X) (w := w) (f := fun j => w.1 (24*k+j)) (f' := ur (fun j => w.1 (24*k+j)) j g) hk (show 28 + j < 51 by omega) (embS_row hj) i
    rw [pk_self, ← pk_ua (by omega), pk_self] at h
    exact h
theorem RW_tx {X : bkX} : RW X 310 312 144 150 := by
  refine ⟨⟨by decide, by decide⟩, by decide, fun w => rfl, fun w => rfl, fun w g i => ?_⟩
  unfold vf_upd
  by_cases h : i = 312
  · subst h
    rfl
  · rw [if_neg h]
    unfold emb
    by_cases hi : i < 306
    · rw [if_pos hi, if_pos hi]
      refine embS_congr (by omega) fun j hj => ?_
      exact (ur_n (by omega)).symm
    · rw [if_neg hi, if_neg hi]
      have h2 : ¬ i - 306 = 6 := by omega
      unfold embX
      simp only [h2, if_false, ua, ur, Nat.reduceEqDiff]
theorem RW_nu {X : bkX} : RW X 311 313 145 5 := by
  refine ⟨⟨by decide, by decide⟩, by decide, fun w => rfl, fun w => rfl, fun w g i => ?_⟩
  unfold vf_upd
  by_cases h : i = 313
  · subst h
    rfl
  · rw [if_neg h]
    unfold emb
    by_cases hi : i < 306
    · rw [if_pos hi, if_pos hi]
      refine embS_congr (by omega) fun j hj => ?_
      exact (ur_n (by omega)).symm
    · rw [if_neg hi, if_neg hi]
      have h2 : ¬ i - 306 = 7 := by omega
      unfold embX
      simp only [h2, if_false, ua, ur, Nat.reduceEqDiff]
