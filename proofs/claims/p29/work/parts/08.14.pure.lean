/-! the line grows older, in the model's order; both alike -/
theorem fil_fil {p q : Nat → Bool} {xs : List Nat} : fil q (fil p xs) = fil (fun x => p x && q x) xs := by
  induction xs with
  | nil => rfl
  | cons x xs ih =>
    by_cases h : p x = true
    · rw [fil_t h]
      by_cases h2 : q x = true
      · rw [fil_t h2, fil_t (p := fun x => p x && q x) (show (p x && q x) = true by rw [h, h2]; rfl), ih]
      · rw [fil_f h2, fil_f (p := fun x => p x && q x) (show ¬ (p x && q x) = true by rw [h, Bool.true_and]; exact h2), ih]
    · rw [fil_f h, fil_f (p := fun x => p x && q x) (show ¬ (p x && q x) = true by rw [Bool.not_eq_true] at h; rw [h, Bool.false_and]; decide), ih]
theorem fil_ne {pre suf : List Nat} {d : Nat} (h : ND (pre ++ d :: suf)) : fil (fun x => decide (x ≠ d)) (pre ++ d :: suf) = pre ++ suf := by
  obtain ⟨h1, h2, h3⟩ := ND_mid h
  rw [fil_app, fil_f (show ¬ decide (d ≠ d) = true by rw [decide_eq_false (fun q => q rfl)]; decide), fil_all (p := fun x => decide (x ≠ d)) (xs := pre) (fun x hx => decide_eq_true (p := x ≠ d) (fun e => h2 (by rw [← e]; exact hx))), fil_all (p := fun x => decide (x ≠ d)) (xs := suf) (fun x hx => decide_eq_true (p := x ≠ d) (fun e => h3 (by rw [← e]; exact hx)))]
def ya (f : bkA) (i x : Nat) : Bool := ! (decide (x < i) && od f x)
def G9 (f : bkA) (r : Nat → Int32) (ls : List Nat) (i : Nat) (s : Nat → Int32) : Prop := (∀ d, d < 16 → s (pos 14 d) = if d < i ∧ d ∈ ls then f 14 d + 1 else f 14 d) ∧ (∀ d, d < 16 → s (pos 15 d) = if d < i ∧ d ∈ ls ∧ od f d = true then nI 3 else f 15 d) ∧ s (pos 23 11) = f 23 11 + nI (ls.length - (fil (ya f i) ls).length) ∧ s (pos 23 3) = nI (fil (ya f i) ls).length ∧ LN s 213 (fil (ya f i) ls) ∧ (∀ j k, j < 24 → j ≠ 14 → j ≠ 15 → j ≠ 22 → ¬ (j = 23 ∧ (k = 3 ∨ k = 11)) → s (pos j k) = r (pos j k))
theorem ya_same {f : bkA} {i : Nat} {ls : List Nat} (h : i ∈ ls → ¬ od f i = true) : fil (ya f (i+1)) ls = fil (ya f i) ls := by
  refine fil_congr ?_
  intro x hx
  unfold ya
  by_cases e : x = i
  · subst e
    have h1 := h hx
    rw [Bool.not_eq_true] at h1
    rw [h1, Bool.and_false, Bool.and_false]
  · by_cases c : x < i
    · rw [decide_eq_true c, decide_eq_true (show x < i + 1 by omega)]
    · rw [decide_eq_false c, decide_eq_false (show ¬ x < i + 1 by omega)]
theorem ya_next {f : bkA} {i : Nat} {ls pre suf : List Nat} (hn : ND ls) (ho : od f i = true) (e : fil (ya f i) ls = pre ++ i :: suf) : fil (ya f (i+1)) ls = pre ++ suf := by
  have hn2 : ND (pre ++ i :: suf) := by
    rw [← e]
    exact ND_fil hn
  rw [← fil_ne hn2, ← e, fil_fil]
  refine fil_congr ?_
  intro x hx
  unfold ya
  by_cases e : x = i
  · subst e
    rw [ho, decide_eq_true (show x < x + 1 by omega), decide_eq_false (show ¬ x ≠ x from fun q => q rfl), Bool.and_false]
    rfl
  · rw [decide_eq_true (show x ≠ i from e), Bool.and_true]
    by_cases c : x < i
    · rw [decide_eq_true c, decide_eq_true (show x < i + 1 by omega)]
    · rw [decide_eq_false c, decide_eq_false (show ¬ x < i + 1 by omega)]
theorem age9 {f : bkA} {r : Nat → Int32} {K H D t T N : Nat} {ls : List Nat} (h : SIM f r K H D ls t T) (hN : 100 < N) : ∃ s, m9_age N r = some s ∧ G9 f r ls D s := by
  have hle := IV_len h.1
  have h16 := IV_16 h.1
  obtain ⟨⟨⟨e0, e1, e2, e3, e4, e5, hK, hH, hD, ht⟩, hd, hl, hp, hh, hn⟩, hR, hL⟩ := h
  have q : ∃ s, m9_age_L2 N N (nI 0) r = some s ∧ G9 f r ls D s := by
    refine loop_i (σ := Nat → Int32) (fun n i x => ∃ s, m9_age_L2 N n (nI i) x = some s ∧ G9 f r ls D s) (fun i x => G9 f r ls i x) D ?_ ?_ N 0 r (by omega) (by omega) ?_
    · intro n x hx
      have e : x (pos 23 2) = nI D := by rw [hx.2.2.2.2.2 23 2 (by decide) (by decide) (by decide) (by decide) (by omega), RG_i2 hR, e2]
      refine ⟨x, ?_, hx⟩
      rw [m9_age_L2, c9_4, h9_4, e, if_pos (Int32.le_refl _)]
    · intro n i x hi hx ih
      obtain ⟨x14, x15, x11, x3, xL, xr⟩ := hx
      have i16 : i < 16 := by omega
      have e : x (pos 23 2) = nI D := by rw [xr 23 2 (by decide) (by decide) (by decide) (by decide) (by omega), RG_i2 hR, e2]
      have e15 : x (pos 15 i) = f 15 i := by rw [x15 i i16, if_neg (by omega)]
      have e14 : x (pos 14 i) = f 14 i := by rw [x14 i i16, if_neg (by omega)]
      have fle : (fil (ya f i) ls).length ≤ ls.length := fil_len
      rw [m9_age_L2, c9_4, h9_4, e, if_neg (nI_ge hi (by omega)), a9_of4 i16, ob1_s, e15]
      by_cases c : f 15 i = 0
      · have him : i ∈ ls := (hl.2.2 i).mpr ⟨hi, c⟩
        obtain ⟨_, ⟨k, k1, k2⟩, _⟩ := hd i hi
        have k5 : k < 5 := by omega
        have e12 : mr x 14 i (f 14 i + 1) (pos 12 i) = nI k := by
          rw [mr_n (by decide) (by decide) (by decide), xr 12 i (by decide) (by decide) (by decide) (by decide) (by omega), RG_12 hR i16, k2]
        have eod : od f i = decide (¬ f 14 i + 1 ≤ f 3 k + f 4 k) := by
          unfold od
          rw [k2, nI_clamp (by omega)]
        rw [if_pos c, a9_of3 i16, ob1_s, e14, a9_put3 i16, ob1_s, a9_of3 i16, ob1_s, mr_s, a9_byKind3 i16 e12 k5, ob1_s, a9_byKind4 i16 e12 k5, ob1_s, mr_n (by decide) (by decide) (by decide), mr_n (by decide) (by decide) (by decide), xr 3 k (by decide) (by decide) (by decide) (by decide) (by omega), xr 4 k (by decide) (by decide) (by decide) (by decide) (by omega), RG_3 hR k5, RG_4 hR k5]
        by_cases c2 : f 14 i + 1 ≤ f 3 k + f 4 k
        · have no : ¬ od f i = true := by
            rw [eod, decide_eq_false (fun q => q c2)]
            decide
          have ey := ya_same (f := f) (i := i) (ls := ls) (fun _ => no)
          rw [if_pos c2, ob1_s, ltx_s, nI_1]
          refine ih _ ⟨?_, ?_, ?_, ?_, ?_, ?_⟩
          · intro d d16
            by_cases e : d = i
            · subst e
              rw [mr_s, if_pos ⟨by omega, him⟩]
            · rw [mr_i e (by decide), x14 d d16]
              have p : (d < i + 1 ∧ d ∈ ls) ↔ (d < i ∧ d ∈ ls) := ⟨fun q => ⟨by omega, q.2⟩, fun q => ⟨by omega, q.2⟩⟩
              simp only [p]
          · intro d d16
            rw [mr_n (by decide) (by decide) (by decide), x15 d d16]
            by_cases e : d = i
            · subst e
              rw [if_neg (fun q => no q.2.2), if_neg (fun q => no q.2.2)]
            · have p : (d < i + 1 ∧ d ∈ ls ∧ od f d = true) ↔ (d < i ∧ d ∈ ls ∧ od f d = true) := ⟨fun q => ⟨by omega, q.2⟩, fun q => ⟨by omega, q.2⟩⟩
              simp only [p]
          · rw [mr_n (by decide) (by decide) (by decide), ey]
            exact x11
          · rw [mr_n (by decide) (by decide) (by decide), ey]
            exact x3
          · rw [ey]
            exact LN_mr xL (by omega) (by decide) (by decide)
          · intro j k' hj h1 h2 h3 h4
            rw [mr_n h1 (by decide) hj]
            exact xr j k' hj h1 h2 h3 h4
        · have yo : od f i = true := by
            rw [eod, decide_eq_true c2]
          have hm : i ∈ fil (ya f i) ls := mem_fil.mpr ⟨him, by unfold ya; rw [decide_eq_false (by omega), Bool.false_and]; rfl⟩
          obtain ⟨pre, suf, es⟩ := split_mem hm
          have ey := ya_next hl.2.1 yo es
          have hnd : ND (pre ++ i :: suf) := by
            rw [← es]
            exact ND_fil hl.2.1
          have hlm := len_mid (pre := pre) (suf := suf) (x := i)
          rw [if_neg c2, a9_put4 i16, ob1_s]
          obtain ⟨s', l1, l2, l3, l4⟩ := leave9 (r := mr (mr x 14 i (f 14 i + 1)) 15 i 3) (N := N) (d := i) (pre := pre) (suf := suf) (by rw [mr_n (by decide) (by decide) (by decide), mr_n (by decide) (by decide) (by decide), x3, es]) (by rw [← es]; exact LN_mr (LN_mr xL (by omega) (by decide) (by decide)) (by omega) (by decide) (by decide)) hnd (fun z hz => by rw [← es] at hz; exact h16 z (mem_fil.mp hz).1) hN
          have l11 : s' (pos 23 11) = f 23 11 + nI (ls.length - (fil (ya f i) ls).length) := by
            rw [l2 23 11 (by decide) (by decide) (by decide), mr_n (by decide) (by decide) (by decide), mr_n (by decide) (by decide) (by decide), x11]
          rw [l1, ob1_s, c9_11, c9_11, h9_11, l11, ltx_s, ob1_s, mr_u, ltx_s, nI_1]
          have ll : (fil (ya f i) ls).length = pre.length + suf.length + 1 := by
            rw [es, hlm]
          have la : (pre ++ suf).length = pre.length + suf.length := List.length_append
          refine ih _ ⟨?_, ?_, ?_, ?_, ?_, ?_⟩
          · intro d d16
            rw [mr_n (by decide) (by decide) (by decide), l2 14 d (by decide) (by decide) (by omega), mr_n (by decide) (by decide) (by decide)]
            by_cases e : d = i
            · subst e
              rw [mr_s, if_pos ⟨by omega, him⟩]
            · rw [mr_i e (by decide), x14 d d16]
              have p : (d < i + 1 ∧ d ∈ ls) ↔ (d < i ∧ d ∈ ls) := ⟨fun q => ⟨by omega, q.2⟩, fun q => ⟨by omega, q.2⟩⟩
              simp only [p]
          · intro d d16
            rw [mr_n (by decide) (by decide) (by decide), l2 15 d (by decide) (by decide) (by omega)]
            by_cases e : d = i
            · subst e
              rw [mr_s, if_pos ⟨by omega, him, yo⟩]
              rfl
            · rw [mr_i e (by decide), mr_n (by decide) (by decide) (by decide), x15 d d16]
              have p : (d < i + 1 ∧ d ∈ ls ∧ od f d = true) ↔ (d < i ∧ d ∈ ls ∧ od f d = true) := ⟨fun q => ⟨by omega, q.2⟩, fun q => ⟨by omega, q.2⟩⟩
              simp only [p]
          · rw [mr_s, ey, la, ll, Int32.add_assoc, nI_1]
            congr 2
            omega
          · rw [mr_i (by decide) (by decide), ey]
            exact l3
          · rw [ey]
            exact LN_mr l4 (by omega) (by decide) (by decide)
          · intro j k' hj h1 h2 h3 h4
            rw [mr_at (by decide) hj, if_neg (fun q => h4 ⟨q.1, Or.inr q.2⟩), l2 j k' hj h3 (fun q => h4 ⟨q.1, Or.inl q.2⟩), mr_n h2 (by decide) hj, mr_n h1 (by decide) hj]
            exact xr j k' hj h1 h2 h3 h4
      · have hni : ¬ i ∈ ls := fun q => c ((hl.2.2 i).mp q).2
        have ey := ya_same (f := f) (i := i) (ls := ls) (fun q => absurd q hni)
        rw [if_neg c, ob1_s, ltx_s, nI_1]
        refine ih _ ⟨?_, ?_, ?_, ?_, ?_, xr⟩
        · intro d d16
          rw [x14 d d16]
          have p : (d < i + 1 ∧ d ∈ ls) ↔ (d < i ∧ d ∈ ls) := ⟨fun q => ⟨by
            by_cases e : d = i
            · subst e
              exact absurd q.2 hni
            · omega, q.2⟩, fun q => ⟨by omega, q.2⟩⟩
          simp only [p]
        · intro d d16
          rw [x15 d d16]
          have p : (d < i + 1 ∧ d ∈ ls ∧ od f d = true) ↔ (d < i ∧ d ∈ ls ∧ od f d = true) := ⟨fun q => ⟨by
            by_cases e : d = i
            · subst e
              exact absurd q.2.1 hni
            · omega, q.2⟩, fun q => ⟨by omega, q.2⟩⟩
          simp only [p]
        · rw [ey]
          exact x11
        · rw [ey]
          exact x3
        · rw [ey]
          exact xL
    · have e : fil (ya f 0) ls = ls := fil_all (fun x _ => by unfold ya; rw [decide_eq_false (by omega), Bool.false_and]; rfl)
      refine ⟨?_, ?_, ?_, ?_, ?_, fun _ _ _ _ _ _ _ => rfl⟩
      · intro d d16
        rw [if_neg (by omega), RG_14 hR d16]
      · intro d d16
        rw [if_neg (by omega), RG_15 hR d16]
      · rw [e, Nat.sub_self, RG_i11 hR]
        exact (Int32.add_zero _).symm
      · rw [e, RG_i3 hR, e3]
      · rw [e]
        exact hL
  obtain ⟨s, q1, q2⟩ := q
  have q1' : m9_age_L2 N N 0 r = some s := q1
  refine ⟨s, ?_, q2⟩
  unfold m9_age
  rw [q1', ob1_s]
