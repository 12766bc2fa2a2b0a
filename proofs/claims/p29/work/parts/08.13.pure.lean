/-! the line grows older -/
theorem leave15 {N : Nat} : ∀ (suf pre : List Nat) (n : Nat) (s : Nat → Int32), suf.length < n → s (pos 23 3) = nI (pre.length + suf.length) → LN s 213 pre → LN s (213 + pre.length + 1) suf → pre.length + suf.length < 16 → ∃ s', m9_leaveLine_L15 N n (nI pre.length) s = some s' ∧ (∀ j k, j < 24 → j ≠ 22 → s' (pos j k) = s (pos j k)) ∧ LN s' 213 (pre ++ suf)
  | [], pre, n, s, hn, e3, h1, h2, h16 => by
    obtain ⟨n, rfl⟩ : ∃ m, n = m + 1 := ⟨n - 1, by have : 0 < n := hn; omega⟩
    refine ⟨s, ?_, fun _ _ _ _ => rfl, ?_⟩
    · rw [m9_leaveLine_L15, c9_5, h9_5, e3, if_pos (show nI (pre.length + [].length) ≤ nI pre.length from Int32.le_refl (nI pre.length))]
    · rw [List.append_nil]
      exact h1
  | y :: suf, pre, n, s, hn, e3, h1, h2, h16 => by
    have hl : (y :: suf).length = suf.length + 1 := rfl
    rw [hl] at hn e3 h16
    obtain ⟨n, rfl⟩ : ∃ m, n = m + 1 := ⟨n - 1, by omega⟩
    have ey : s (pos 22 (pre.length + 1)) = nI y := by
      rw [pos_l (by omega)]
      exact h2.1
    have e16 : pre.length < 16 := by omega
    rw [m9_leaveLine_L15, c9_5, h9_5, e3, if_neg (nI_ge (by omega) (by omega)), e9_L1 (by omega), k9_22 (by omega), e9_L (by omega), k9_22 (by omega), q9_22 (by omega), q9_22 (by omega), ey, mr_u, ltx_s, ltx_s, nI_1]
    have lp : (pre ++ [y]).length = pre.length + 1 := by
      rw [List.length_append]
      rfl
    obtain ⟨s', a1, a2, a3⟩ := leave15 (N := N) suf (pre ++ [y]) n (mr s 22 pre.length (nI y)) (by omega) (by rw [mr_n (by decide) (by decide) (by decide), e3, lp]; congr 1; omega) (LN_mrput h1 e16) (by
      rw [lp]
      refine LN_congr ?_ h2.2
      intro i b1 b2
      unfold mr
      rw [pos_l e16]
      exact pk_un (by omega)) (by rw [lp]; omega)
    rw [lp] at a1
    refine ⟨s', a1, ?_, ?_⟩
    · intro j k hj hk
      rw [a2 j k hj hk, mr_n hk (by decide) hj]
    · rw [List.append_assoc] at a3
      exact a3
theorem leave9 {r : Nat → Int32} {N d : Nat} {pre suf : List Nat} (e3 : r (pos 23 3) = nI (pre ++ d :: suf).length) (hL : LN r 213 (pre ++ d :: suf)) (hn : ND (pre ++ d :: suf)) (hx : ∀ x, x ∈ pre ++ d :: suf → x < 16) (hN : 100 < N) : ∃ r', m9_leaveLine N r (nI d) = some r' ∧ (∀ j k, j < 24 → j ≠ 22 → ¬ (j = 23 ∧ k = 3) → r' (pos j k) = r (pos j k)) ∧ r' (pos 23 3) = nI (pre ++ suf).length ∧ LN r' 213 (pre ++ suf) := by
  have hd : d < 16 := hx d (mem_mid.mpr (Or.inl rfl))
  have hle := php 16 hn hx
  have hlm := len_mid (pre := pre) (suf := suf) (x := d)
  have c := U9_place (N := N) e3 hL hn hx hd hN
  obtain ⟨n1, n2, n3⟩ := ND_mid hn
  rw [ixOf_mid n2, Nat.zero_add] at c
  obtain ⟨h1, h2, h3⟩ := LN_mid hL
  unfold m9_leaveLine
  rw [c, ob1_s, c9_5, c9_5, h9_5, e3, hlm, mr_u]
  have em : nI (pre.length + suf.length + 1) - 1 = nI (pre.length + suf.length) := nI_pred _
  rw [em, ltx_s]
  obtain ⟨s', a1, a2, a3⟩ := leave15 (N := N) suf pre N (mr r 23 3 (nI (pre.length + suf.length))) (by omega) mr_s (LN_mr h1 (by omega) (by decide) (by decide)) (by
    refine LN_congr ?_ h3
    intro i b1 b2
    have e : i = pos 22 (i - 213) := by
      rw [pos_l (by omega)]
      omega
    rw [e, mr_n (by decide) (by decide) (by decide)]) (by omega)
  rw [a1, ob1_s]
  refine ⟨s', rfl, ?_, ?_, a3⟩
  · intro j k hj h22 hjk
    rw [a2 j k hj h22, mr_at (by decide) hj, if_neg hjk]
  · rw [a2 23 3 (by decide) (by decide), mr_s, List.length_append]
/-- a dough that a tick makes too old -/
def od (f : bkA) (d : Nat) : Bool := decide (¬ f 14 d + 1 ≤ f 3 (f 12 d).toNatClampNeg + f 4 (f 12 d).toNatClampNeg)
def yg (f : bkA) (d : Nat) : Bool := ! od f d
def G7 (f : bkA) (pre suf : List Nat) (g : bkA) : Prop := (∀ d, d < 16 → g 14 d = if d ∈ pre then f 14 d + 1 else f 14 d) ∧ (∀ d, d < 16 → g 15 d = if d ∈ pre ∧ od f d = true then nI 3 else f 15 d) ∧ g 23 11 = f 23 11 + nI (pre.length - (fil (yg f) pre).length) ∧ LN (g 22) 0 (fil (yg f) pre) ∧ LN (g 22) pre.length suf ∧ (∀ j, j ≠ 14 → j ≠ 15 → j ≠ 22 → j ≠ 23 → g j = f j) ∧ (∀ k, k ≠ 11 → g 23 k = f 23 k)
theorem grow7 {f : bkA} {N K : Nat} {W : Nat} (hK : K ≤ 5) (hW : W ≤ 16) : ∀ (suf pre : List Nat) (n : Nat) (g : bkA), suf.length < n → pre.length + suf.length = W → ND (pre ++ suf) → (∀ d, d ∈ pre ++ suf → d < 16 ∧ ∃ k, k < K ∧ f 12 d = nI k) → G7 f pre suf g → ∃ g', m7_growOlder_L9 N n (nI W) (nI (fil (yg f) pre).length) (nI pre.length) g = some (nI (fil (yg f) (pre ++ suf)).length, g') ∧ G7 f (pre ++ suf) [] g'
  | [], pre, n, g, hn, hw, hnd, hx, hg => by
    obtain ⟨n, rfl⟩ : ∃ m, n = m + 1 := ⟨n - 1, by have : 0 < n := hn; omega⟩
    have e : W = pre.length := by
      rw [← hw]
      rfl
    refine ⟨g, ?_, ?_⟩
    · rw [m7_growOlder_L9, e, if_pos (Int32.le_refl _), List.append_nil]
    · rw [List.append_nil]
      exact hg
  | d :: suf, pre, n, g, hn, hw, hnd, hx, hg => by
    have hl : (d :: suf).length = suf.length + 1 := rfl
    rw [hl] at hn hw
    obtain ⟨n, rfl⟩ : ∃ m, n = m + 1 := ⟨n - 1, by omega⟩
    obtain ⟨g14, g15, g11, gk, gs, gj, gi⟩ := hg
    obtain ⟨d16, k, k1, k2⟩ := hx d (mem_mid.mpr (Or.inl rfl))
    obtain ⟨nd1, nd2, nd3⟩ := ND_mid hnd
    have ed : g 22 pre.length = nI d := gs.1
    have k5 : k < 5 := by omega
    have e12 : g 12 d = nI k := by
      rw [gj 12 (by decide) (by decide) (by decide) (by decide)]
      exact k2
    have eod : od f d = decide (¬ f 14 d + 1 ≤ f 3 k + f 4 k) := by
      unfold od
      rw [k2, nI_clamp (by omega)]
    have lp : (pre ++ [d]).length = pre.length + 1 := by
      rw [List.length_append]
      rfl
    have las : (pre ++ [d]) ++ suf = pre ++ d :: suf := by
      rw [List.append_assoc]
      rfl
    have m14 : ∀ x, x ∈ pre ++ [d] ↔ x ∈ pre ∨ x = d := by
      intro x
      constructor
      · intro q
        rcases List.mem_append.mp q with q | q
        · exact Or.inl q
        · rcases List.mem_cons.mp q with q | q
          · exact Or.inr q
          · cases q
      · intro q
        rcases q with q | q
        · exact List.mem_append.mpr (Or.inl q)
        · exact List.mem_append.mpr (Or.inr (List.mem_cons.mpr (Or.inl q)))
    have fle : (fil (yg f) pre).length ≤ pre.length := fil_len
    rw [m7_growOlder_L9, if_neg (nI_ge (by omega) (by omega)), rat_nI (by omega) (by decide), ed, ltx_s, rat_nI d16 (by decide), e12, ltx_s, wr_inc d16 (by decide), ltx_s, rat_nI d16 (by decide), wr_s, rat_nI k5 (by decide), rat_nI k5 (by decide), wr_n (by decide), wr_n (by decide), gj 3 (by decide) (by decide) (by decide) (by decide), gj 4 (by decide) (by decide) (by decide) (by decide), g14 d d16, if_neg nd2]
    by_cases c : f 14 d + 1 ≤ f 3 k + f 4 k
    · have ey : yg f d = true := by
        unfold yg
        rw [eod, decide_eq_false (fun q => q c)]
        rfl
      have no : ¬ od f d = true := by
        rw [eod, decide_eq_false (fun q => q c)]
        decide
      have ef : fil (yg f) (pre ++ [d]) = fil (yg f) pre ++ [d] := by
        rw [fil_app, fil_t ey]
        rfl
      have efl : (fil (yg f) (pre ++ [d])).length = (fil (yg f) pre).length + 1 := by
        rw [ef, List.length_append]
        rfl
      rw [if_pos c, wr_put (by omega) (by decide), ltx_s, ltx_s, lt2_s, ltx_s, nI_1, nI_1]
      have hG : G7 f (pre ++ [d]) suf (wr (wr g 14 d (f 14 d + 1)) 22 (fil (yg f) pre).length (nI d)) := by
        refine ⟨?_, ?_, ?_, ?_, ?_, ?_, ?_⟩
        · intro x hx16
          rw [wr_n (by decide)]
          by_cases e : x = d
          · subst e
            rw [wr_s, if_pos ((m14 x).mpr (Or.inr rfl))]
          · rw [wr_i e, g14 x hx16]
            by_cases q : x ∈ pre
            · rw [if_pos q, if_pos ((m14 x).mpr (Or.inl q))]
            · rw [if_neg q, if_neg (fun q2 => ((m14 x).mp q2).elim q e)]
        · intro x hx16
          rw [wr_n (by decide), wr_n (by decide), g15 x hx16]
          by_cases e : x = d
          · subst e
            rw [if_neg (fun q => no q.2), if_neg (fun q => no q.2)]
          · by_cases q : x ∈ pre
            · simp only [q, (m14 x).mpr (Or.inl q), true_and]
            · have q3 : ¬ x ∈ pre ++ [d] := fun q2 => ((m14 x).mp q2).elim q e
              rw [if_neg (fun z => q z.1), if_neg (fun z => q3 z.1)]
        · rw [wr_n (by decide), wr_n (by decide), g11, lp, efl]
          congr 2
          omega
        · rw [wr_r, ef]
          have q := LN_put (x := d) gk
          rw [Nat.zero_add] at q
          rw [wr_n (by decide)]
          exact q
        · rw [wr_r, lp]
          refine LN_congr ?_ gs.2
          intro i b1 b2
          rw [wr_n (by decide)]
          exact pk_un (by omega)
        · intro j h1 h2 h3 h4
          rw [wr_n h3, wr_n h1]
          exact gj j h1 h2 h3 h4
        · intro q hq
          rw [wr_n (by decide), wr_n (by decide)]
          exact gi q hq
      obtain ⟨g', a1, a2⟩ := grow7 (f := f) (N := N) hK hW suf (pre ++ [d]) n (wr (wr g 14 d (f 14 d + 1)) 22 (fil (yg f) pre).length (nI d)) (by omega) (by rw [lp]; omega) (by rw [las]; exact hnd) (by rw [las]; exact hx) hG
      rw [lp, efl, las] at a1
      rw [las] at a2
      exact ⟨g', a1, a2⟩
    · have ey : ¬ yg f d = true := by
        unfold yg
        rw [eod, decide_eq_true c]
        decide
      have yo : od f d = true := by
        rw [eod, decide_eq_true c]
      have ef : fil (yg f) (pre ++ [d]) = fil (yg f) pre := by
        rw [fil_app, fil_f ey]
        exact List.append_nil _
      rw [if_neg c, wr_put d16 (by decide), ltx_s, wr_u, ltx_s, lt2_s, ltx_s, nI_1]
      have hG : G7 f (pre ++ [d]) suf (wr (wr (wr g 14 d (f 14 d + 1)) 15 d 3) 23 11 (wr (wr g 14 d (f 14 d + 1)) 15 d 3 23 11 + 1)) := by
        refine ⟨?_, ?_, ?_, ?_, ?_, ?_, ?_⟩
        · intro x hx16
          rw [wr_n (by decide), wr_n (by decide)]
          by_cases e : x = d
          · subst e
            rw [wr_s, if_pos ((m14 x).mpr (Or.inr rfl))]
          · rw [wr_i e, g14 x hx16]
            by_cases q : x ∈ pre
            · rw [if_pos q, if_pos ((m14 x).mpr (Or.inl q))]
            · rw [if_neg q, if_neg (fun q2 => ((m14 x).mp q2).elim q e)]
        · intro x hx16
          rw [wr_n (by decide)]
          by_cases e : x = d
          · subst e
            rw [wr_s, if_pos ⟨(m14 x).mpr (Or.inr rfl), yo⟩]
            rfl
          · rw [wr_i e, wr_n (by decide), g15 x hx16]
            by_cases q : x ∈ pre
            · simp only [q, (m14 x).mpr (Or.inl q), true_and]
            · have q3 : ¬ x ∈ pre ++ [d] := fun q2 => ((m14 x).mp q2).elim q e
              rw [if_neg (fun z => q z.1), if_neg (fun z => q3 z.1)]
        · rw [wr_s, wr_n (by decide), wr_n (by decide), g11, lp, ef, Int32.add_assoc, nI_1]
          congr 2
          omega
        · rw [wr_n (by decide), wr_n (by decide), wr_n (by decide), ef]
          exact gk
        · rw [wr_n (by decide), wr_n (by decide), wr_n (by decide), lp]
          exact gs.2
        · intro j h1 h2 h3 h4
          rw [wr_n h4, wr_n h2, wr_n h1]
          exact gj j h1 h2 h3 h4
        · intro q hq
          rw [wr_i hq, wr_n (by decide), wr_n (by decide)]
          exact gi q hq
      obtain ⟨g', a1, a2⟩ := grow7 (f := f) (N := N) hK hW suf (pre ++ [d]) n (wr (wr (wr g 14 d (f 14 d + 1)) 15 d 3) 23 11 (wr (wr g 14 d (f 14 d + 1)) 15 d 3 23 11 + 1)) (by omega) (by rw [lp]; omega) (by rw [las]; exact hnd) (by rw [las]; exact hx) hG
      rw [lp, ef, las] at a1
      rw [las] at a2
      exact ⟨g', a1, a2⟩
