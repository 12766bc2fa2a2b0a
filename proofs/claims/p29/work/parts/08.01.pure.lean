/-! lists of numbers, rows that hold them, sums -/
def LN (g : Nat → Int32) : Nat → List Nat → Prop
  | _, [] => True
  | b, x :: xs => g b = nI x ∧ LN g (b+1) xs
theorem LN_app {g : Nat → Int32} {xs ys : List Nat} : ∀ {b : Nat}, LN g b (xs ++ ys) ↔ LN g b xs ∧ LN g (b + xs.length) ys := by
  induction xs with
  | nil =>
    intro b
    exact ⟨fun h => ⟨trivial, h⟩, fun h => h.2⟩
  | cons x xs ih =>
    intro b
    have e : b + (xs.length + 1) = b + 1 + xs.length := by omega
    constructor
    · intro h
      have h2 := ih.mp h.2
      refine ⟨⟨h.1, h2.1⟩, ?_⟩
      show LN g (b + (xs.length + 1)) ys
      rw [e]
      exact h2.2
    · intro h
      refine ⟨h.1.1, ih.mpr ⟨h.1.2, ?_⟩⟩
      have h2 : LN g (b + (xs.length + 1)) ys := h.2
      rw [e] at h2
      exact h2
theorem LN_congr {g g' : Nat → Int32} {xs : List Nat} : ∀ {b : Nat}, (∀ i, b ≤ i → i < b + xs.length → g' i = g i) → LN g b xs → LN g' b xs := by
  induction xs with
  | nil =>
    intro b h h2
    trivial
  | cons x xs ih =>
    intro b h h2
    refine ⟨?_, ih ?_ h2.2⟩
    · rw [h b (Nat.le_refl b) (by show b < b + (xs.length + 1); omega)]
      exact h2.1
    · intro i h3 h4
      exact h i (by omega) (by show i < b + (xs.length + 1); omega)
theorem LN_mid {g : Nat → Int32} {pre suf : List Nat} {x b : Nat} (h : LN g b (pre ++ x :: suf)) : LN g b pre ∧ g (b + pre.length) = nI x ∧ LN g (b + pre.length + 1) suf := by
  have h2 := LN_app.mp h
  exact ⟨h2.1, h2.2.1, h2.2.2⟩
theorem LN_put {g : Nat → Int32} {xs : List Nat} {b x : Nat} (h : LN g b xs) : LN (upd g (b + xs.length) (nI x)) b (xs ++ [x]) := by
  refine LN_app.mpr ⟨LN_congr ?_ h, ?_⟩
  · intro i h1 h2
    exact pk_un (by omega)
  · exact ⟨pk_us, trivial⟩
theorem LN_mem {g : Nat → Int32} {xs : List Nat} {x : Nat} : ∀ {b : Nat}, LN g b xs → x ∈ xs → ∃ i, i < xs.length ∧ g (b+i) = nI x := by
  induction xs with
  | nil =>
    intro b h hx
    cases hx
  | cons y xs ih =>
    intro b h hx
    rcases List.mem_cons.mp hx with h2 | h2
    · subst h2
      exact ⟨0, by show 0 < xs.length + 1; omega, h.1⟩
    · obtain ⟨i, h3, h4⟩ := ih h.2 h2
      refine ⟨i+1, by show i+1 < xs.length + 1; omega, ?_⟩
      have e : b + (i+1) = b + 1 + i := by omega
      rw [e]
      exact h4
theorem split_at {xs : List Nat} : ∀ {i : Nat}, i < xs.length → ∃ pre x suf, xs = pre ++ x :: suf ∧ pre.length = i := by
  induction xs with
  | nil =>
    intro i h
    exact absurd h (by show ¬ i < 0; omega)
  | cons y xs ih =>
    intro i h
    cases i with
    | zero => exact ⟨[], y, xs, rfl, rfl⟩
    | succ i =>
      obtain ⟨pre, x, suf, h1, h2⟩ := ih (i := i) (by have h3 : i + 1 < xs.length + 1 := h; omega)
      refine ⟨y :: pre, x, suf, ?_, ?_⟩
      · rw [h1]
        rfl
      · show pre.length + 1 = i + 1
        rw [h2]
theorem split_mem {xs : List Nat} {x : Nat} (h : x ∈ xs) : ∃ pre suf, xs = pre ++ x :: suf := by
  induction xs with
  | nil => cases h
  | cons y xs ih =>
    rcases List.mem_cons.mp h with h2 | h2
    · subst h2
      exact ⟨[], xs, rfl⟩
    · obtain ⟨pre, suf, h3⟩ := ih h2
      exact ⟨y :: pre, suf, by rw [h3]; rfl⟩
def ND : List Nat → Prop
  | [] => True
  | x :: xs => (¬ x ∈ xs) ∧ ND xs
theorem ND_mid {pre suf : List Nat} {x : Nat} (h : ND (pre ++ x :: suf)) : ND (pre ++ suf) ∧ (¬ x ∈ pre) ∧ (¬ x ∈ suf) := by
  induction pre with
  | nil => exact ⟨h.2, (fun q => by cases q), h.1⟩
  | cons y pre ih =>
    obtain ⟨h1, h2, h3⟩ := ih h.2
    refine ⟨⟨?_, h1⟩, ?_, h3⟩
    · intro q
      apply h.1
      rcases List.mem_append.mp q with q | q
      · exact List.mem_append.mpr (Or.inl q)
      · exact List.mem_append.mpr (Or.inr (List.mem_cons.mpr (Or.inr q)))
    · intro q
      rcases List.mem_cons.mp q with q | q
      · apply h.1
        rw [← q]
        exact List.mem_append.mpr (Or.inr (List.mem_cons.mpr (Or.inl rfl)))
      · exact h2 q
theorem ND_ins {pre suf : List Nat} {x : Nat} (h : ND (pre ++ suf)) (h1 : ¬ x ∈ pre) (h2 : ¬ x ∈ suf) : ND (pre ++ x :: suf) := by
  induction pre with
  | nil => exact ⟨h2, h⟩
  | cons y pre ih =>
    refine ⟨?_, ih h.2 (fun q => h1 (List.mem_cons.mpr (Or.inr q)))⟩
    intro q
    rcases List.mem_append.mp q with q | q
    · exact h.1 (List.mem_append.mpr (Or.inl q))
    · rcases List.mem_cons.mp q with q | q
      · exact h1 (List.mem_cons.mpr (Or.inl q.symm))
      · exact h.1 (List.mem_append.mpr (Or.inr q))
theorem mem_mid {pre suf : List Nat} {x y : Nat} : y ∈ pre ++ x :: suf ↔ y = x ∨ y ∈ pre ++ suf := by
  constructor
  · intro q
    rcases List.mem_append.mp q with q | q
    · exact Or.inr (List.mem_append.mpr (Or.inl q))
    · rcases List.mem_cons.mp q with q | q
      · exact Or.inl q
      · exact Or.inr (List.mem_append.mpr (Or.inr q))
  · intro q
    rcases q with q | q
    · exact List.mem_append.mpr (Or.inr (List.mem_cons.mpr (Or.inl q)))
    · rcases List.mem_append.mp q with q | q
      · exact List.mem_append.mpr (Or.inl q)
      · exact List.mem_append.mpr (Or.inr (List.mem_cons.mpr (Or.inr q)))
theorem len_mid {pre suf : List Nat} {x : Nat} : (pre ++ x :: suf).length = pre.length + suf.length + 1 := by
  rw [List.length_append]
  show pre.length + (suf.length + 1) = _
  omega
theorem php : ∀ (D : Nat) {ls : List Nat}, ND ls → (∀ x, x ∈ ls → x < D) → ls.length ≤ D
  | 0, [], _, _ => Nat.le_refl 0
  | 0, x :: xs, _, h => absurd (h x (List.mem_cons.mpr (Or.inl rfl))) (by omega)
  | D+1, ls, hn, h => by
    by_cases hd : D ∈ ls
    · obtain ⟨pre, suf, e⟩ := split_mem hd
      subst e
      obtain ⟨h1, h2, h3⟩ := ND_mid hn
      have h4 := php D h1 (fun x hx => by
        have h5 := h x (mem_mid.mpr (Or.inr hx))
        have h6 : x ≠ D := by
          intro e
          subst e
          rcases List.mem_append.mp hx with q | q
          · exact h2 q
          · exact h3 q
        omega)
      rw [len_mid]
      rw [List.length_append] at h4
      omega
    · have h4 := php D hn (fun x hx => by
        have h5 := h x hx
        have h6 : x ≠ D := by
          intro e
          subst e
          exact hd hx
        omega)
      omega
def fil (p : Nat → Bool) : List Nat → List Nat
  | [] => []
  | x :: xs => if p x = true then x :: fil p xs else fil p xs
theorem fil_t {p : Nat → Bool} {x : Nat} {xs : List Nat} (h : p x = true) : fil p (x :: xs) = x :: fil p xs := if_pos h
theorem fil_f {p : Nat → Bool} {x : Nat} {xs : List Nat} (h : ¬ p x = true) : fil p (x :: xs) = fil p xs := if_neg h
theorem fil_app {p : Nat → Bool} {xs ys : List Nat} : fil p (xs ++ ys) = fil p xs ++ fil p ys := by
  induction xs with
  | nil => rfl
  | cons x xs ih =>
    show fil p (x :: (xs ++ ys)) = _
    by_cases h : p x = true
    · rw [fil_t h, fil_t h, ih]
      rfl
    · rw [fil_f h, fil_f h, ih]
theorem mem_fil {p : Nat → Bool} {xs : List Nat} {y : Nat} : y ∈ fil p xs ↔ y ∈ xs ∧ p y = true := by
  induction xs with
  | nil => exact ⟨(fun h => by cases h), (fun h => by cases h.1)⟩
  | cons x xs ih =>
    by_cases h : p x = true
    · rw [fil_t h]
      constructor
      · intro q
        rcases List.mem_cons.mp q with q | q
        · exact ⟨List.mem_cons.mpr (Or.inl q), by rw [q]; exact h⟩
        · exact ⟨List.mem_cons.mpr (Or.inr (ih.mp q).1), (ih.mp q).2⟩
      · intro q
        rcases List.mem_cons.mp q.1 with q1 | q1
        · exact List.mem_cons.mpr (Or.inl q1)
        · exact List.mem_cons.mpr (Or.inr (ih.mpr ⟨q1, q.2⟩))
    · rw [fil_f h]
      constructor
      · intro q
        exact ⟨List.mem_cons.mpr (Or.inr (ih.mp q).1), (ih.mp q).2⟩
      · intro q
        rcases List.mem_cons.mp q.1 with q1 | q1
        · rw [q1] at q
          exact absurd q.2 h
        · exact ih.mpr ⟨q1, q.2⟩
theorem ND_fil {p : Nat → Bool} {xs : List Nat} (h : ND xs) : ND (fil p xs) := by
  induction xs with
  | nil => trivial
  | cons x xs ih =>
    by_cases h2 : p x = true
    · rw [fil_t h2]
      exact ⟨fun q => h.1 (mem_fil.mp q).1, ih h.2⟩
    · rw [fil_f h2]
      exact ih h.2
theorem fil_congr {p q : Nat → Bool} {xs : List Nat} (h : ∀ x, x ∈ xs → p x = q x) : fil p xs = fil q xs := by
  induction xs with
  | nil => rfl
  | cons x xs ih =>
    have h1 := h x (List.mem_cons.mpr (Or.inl rfl))
    have h2 := ih (fun y hy => h y (List.mem_cons.mpr (Or.inr hy)))
    by_cases h3 : p x = true
    · rw [fil_t h3, fil_t (by rw [← h1]; exact h3), h2]
    · rw [fil_f h3, fil_f (by rw [← h1]; exact h3), h2]
theorem fil_all {p : Nat → Bool} {xs : List Nat} (h : ∀ x, x ∈ xs → p x = true) : fil p xs = xs := by
  induction xs with
  | nil => rfl
  | cons x xs ih =>
    rw [fil_t (h x (List.mem_cons.mpr (Or.inl rfl))), ih (fun y hy => h y (List.mem_cons.mpr (Or.inr hy)))]
theorem fil_len {p : Nat → Bool} {xs : List Nat} : (fil p xs).length ≤ xs.length := by
  induction xs with
  | nil => exact Nat.le_refl 0
  | cons x xs ih =>
    by_cases h : p x = true
    · rw [fil_t h]
      show (fil p xs).length + 1 ≤ xs.length + 1
      omega
    · rw [fil_f h]
      show (fil p xs).length ≤ xs.length + 1
      omega
def sumN (a : Nat → Nat) : Nat → Nat
  | 0 => 0
  | n+1 => sumN a n + a n
theorem sumN_congr {a b : Nat → Nat} : ∀ {n : Nat}, (∀ i, i < n → a i = b i) → sumN a n = sumN b n
  | 0, _ => rfl
  | n+1, h => by
    show sumN a n + a n = sumN b n + b n
    rw [sumN_congr (fun i hi => h i (by omega)), h n (by omega)]
theorem sumN_le {a b : Nat → Nat} : ∀ {n : Nat}, (∀ i, i < n → a i ≤ b i) → sumN a n ≤ sumN b n
  | 0, _ => Nat.le_refl 0
  | n+1, h => by
    show sumN a n + a n ≤ sumN b n + b n
    have h1 := sumN_le (n := n) (fun i hi => h i (by omega))
    have h2 := h n (by omega)
    omega
theorem sumN_mem {a : Nat → Nat} : ∀ {n i : Nat}, i < n → a i ≤ sumN a n
  | 0, _, h => absurd h (by omega)
  | n+1, i, h => by
    show a i ≤ sumN a n + a n
    by_cases e : i = n
    · subst e
      omega
    · have := sumN_mem (a := a) (n := n) (i := i) (by omega)
      omega
theorem sumN_mono {a : Nat → Nat} : ∀ {m n : Nat}, n ≤ m → sumN a n ≤ sumN a m
  | 0, n, h => by
    have e : n = 0 := by omega
    subst e
    exact Nat.le_refl _
  | m+1, n, h => by
    show sumN a n ≤ sumN a m + a m
    by_cases e : n = m+1
    · subst e
      exact Nat.le_refl _
    · have := sumN_mono (a := a) (m := m) (n := n) (by omega)
      omega
theorem sumN_0 {a : Nat → Nat} : ∀ {n : Nat}, (∀ i, i < n → a i = 0) → sumN a n = 0
  | 0, _ => rfl
  | n+1, h => by
    show sumN a n + a n = 0
    rw [sumN_0 (fun i hi => h i (by omega)), h n (by omega)]
theorem sumN_inc {a : Nat → Nat} {h0 : Nat} : ∀ {n : Nat}, h0 < n → sumN (fun i => if i = h0 then a i + 1 else a i) n = sumN a n + 1
  | 0, h => absurd h (by omega)
  | n+1, h => by
    show sumN _ n + (if n = h0 then a n + 1 else a n) = sumN a n + a n + 1
    by_cases e : n = h0
    · rw [if_pos e, sumN_congr (b := a) (fun i hi => if_neg (by omega))]
      omega
    · rw [if_neg e, sumN_inc (n := n) (by omega)]
      omega
