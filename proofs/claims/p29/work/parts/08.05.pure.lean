/-! logs, uses, the line: the class and the model alike -/
theorem mr_sw {r : Nat → Int32} {j i j' i' : Nat} {v v' : Int32} (h : j ≠ j') (hj : j < 24) (hj' : j' < 24) : mr (mr r j' i' v') j i v = mr (mr r j i v) j' i' v' := by
  funext a
  unfold mr upd
  by_cases h1 : a = pos j i
  · subst h1
    rw [if_pos rfl, if_neg (fun q => h (pos_inj hj hj' q).1), if_pos rfl]
  · rw [if_neg h1, if_neg h1]
theorem S_takeLogs {f : bkA} {r : Nat → Int32} {K H D t T b1 : Nat} {ls : List Nat} (h : SIM f r K H D ls t T) (hb : b1 < H) (a2 : Int32) : ∃ x f' r', m7_takeLogs f (nI b1) a2 = (x, f') ∧ m9_bringNow r (nI b1) a2 = some (x, r') ∧ SIM f' r' K H D ls t T := by
  have hle := IV_len h.1
  obtain ⟨⟨⟨e0, e1, e2, e3, e4, e5, hK, hH, hD, ht⟩, hd, hl, hp, hh, hn⟩, hR, hL⟩ := h
  refine ⟨f 5 b1 + a2, wr (wr (wr f 5 b1 (f 5 b1 + a2)) 8 b1 (f 8 b1 + a2)) 23 8 (f 23 8 + a2), mr (mr (mr r 5 b1 (f 5 b1 + a2)) 8 b1 (f 8 b1 + a2)) 23 8 (f 23 8 + a2), ?_, ?_, ?_⟩
  · unfold m7_takeLogs
    simp (disch := omega) only [ltx_s, wr_inc, wr_u]
    simp (disch := omega) only [wr_s, wr_n, wr_i, rat_nI]
  · unfold m9_bringNow m9_grow
    simp (disch := omega) only [ltx_s, ob2_s, e9_H0, e9_H3, k9_5, k9_8, q9_5, q9_8, mr_u, mr_n, mr_i, mr_s, c9_8, h9_8, RG_5 hR, RG_8 hR, RG_i8 hR]
    rw [mr_c23 (j := 5) (by decide) (by decide), mr_sw (j := 5) (j' := 8) (by decide) (by decide) (by decide)]
  · refine ⟨⟨⟨?_, ?_, ?_, ?_, ?_, ?_, hK, hH, hD, ht⟩, IVd_congr hd ?_ ?_ ?_ ?_ ?_, IVl_congr hl ?_ ?_, IVp_congr hp ?_ ?_, ?_, IVn_congr hn ?_ ?_ ?_⟩, ?_, ?_⟩
    all_goals first
      | (simp (disch := omega) only [wr_s, wr_n, wr_i]; done)
      | (simp (disch := omega) only [wr_s, wr_n, wr_i]; assumption)
      | skip
    · intro j k h1 h2 h3 h4
      rw [wr_n (by omega)]
      exact IVh_wr (IVh_wr hh hb) hb j k h1 h2 h3 h4
    · exact RG_wr (RG_wr (RG_wr hR (by decide) (by decide)) (by decide) (by decide)) (by decide) (by decide)
    · exact LN_mr (LN_mr (LN_mr hL (by omega) (by decide) (by decide)) (by omega) (by decide) (by decide)) (by omega) (by decide) (by decide)
theorem S_burnLogs {f : bkA} {r : Nat → Int32} {K H D t T b1 b2 : Nat} {ls : List Nat} (h : SIM f r K H D ls t T) (hb : b1 < H) (hb2 : b2 ≤ 16) (ht2 : t + 25 * b2 ≤ 400) : ∃ x f' r', m7_burnLogs f (nI b1) (nI b2) = (x, f') ∧ m9_stokeNow r (nI b1) (nI b2) = some (x, r') ∧ SIM f' r' K H D ls (t + 25 * b2) T := by
  have hle := IV_len h.1
  obtain ⟨⟨⟨e0, e1, e2, e3, e4, e5, hK, hH, hD, ht⟩, hd, hl, hp, hh, hn⟩, hR, hL⟩ := h
  obtain ⟨u, lb, a, n1, n2, n3, n4, n5, n6⟩ := hn
  have e25 : nI t + 25 * nI b2 = nI (t + 25 * b2) := by rw [l_25, pk_mul, nI_add]
  refine ⟨nI (t + 25 * b2), wr (wr (wr (wr (wr f 5 b1 (f 5 b1 + -nI b2)) 7 b1 (f 7 b1 + nI b2)) 23 6 (nI (u + b2))) 23 7 (nI (lb + b2))) 23 4 (nI (t + 25 * b2)), mr (mr (mr (mr (mr r 5 b1 (f 5 b1 + -nI b2)) 7 b1 (f 7 b1 + nI b2)) 23 6 (nI (u + b2))) 23 7 (nI (lb + b2))) 23 4 (nI (t + 25 * b2)), ?_, ?_, ?_⟩
  · unfold m7_burnLogs
    simp (disch := omega) only [ltx_s, wr_inc, wr_u]
    simp (disch := omega) only [wr_s, wr_n, wr_i, n1, n2, e4, e25, nI_add]
  · unfold m9_stokeNow m9_grow
    simp (disch := omega) only [ltx_s, ob2_s, e9_H0, e9_H2, k9_5, k9_7, q9_5, q9_7, mr_u, mr_n, mr_i, mr_s, c9_6, h9_6, c9_7, h9_7, c9_0, h9_0, RG_5 hR, RG_7 hR, RG_i6 hR, RG_i7 hR, RG_i4 hR, n1, n2, e4, e25, nI_add]
  · refine ⟨⟨⟨?_, ?_, ?_, ?_, ?_, ?_, hK, hH, hD, ht2⟩, IVd_congr hd ?_ ?_ ?_ ?_ ?_, IVl_congr hl ?_ ?_, IVp_congr hp ?_ ?_, ?_, ⟨u + b2, lb + b2, a, ?_, ?_, by omega, by omega, ?_, n6⟩⟩, ?_, ?_⟩
    all_goals first
      | (simp (disch := omega) only [wr_s, wr_n, wr_i]; done)
      | (simp (disch := omega) only [wr_s, wr_n, wr_i]; assumption)
      | skip
    · intro j k h1 h2 h3 h4
      rw [wr_n (by omega), wr_n (by omega), wr_n (by omega)]
      exact IVh_wr (IVh_wr hh hb) hb j k h1 h2 h3 h4
    · exact RG_wr (RG_wr (RG_wr (RG_wr (RG_wr hR (by decide) (by decide)) (by decide) (by decide)) (by decide) (by decide)) (by decide) (by decide)) (by decide) (by decide)
    · exact LN_mr (LN_mr (LN_mr (LN_mr (LN_mr hL (by omega) (by decide) (by decide)) (by omega) (by decide) (by decide)) (by omega) (by decide) (by decide)) (by omega) (by decide) (by decide)) (by omega) (by decide) (by decide)
theorem U7_useOfAll {f : bkA} {H N : Nat} {a : Nat → Nat} (e1 : f 23 1 = nI H) (hH : H ≤ 8) (ha : ∀ h, h < 8 → f 6 h = nI (a h)) (hN : 100 < N) : m7_useOfAll N f = some (nI (sumN a H)) := by
  unfold m7_useOfAll
  have q : m7_useOfAll_L4 N N (nI 0) (nI 0) f = some (nI (sumN a H)) := by
    refine loop_i (σ := Int32) (fun n i s => m7_useOfAll_L4 N n s (nI i) f = some (nI (sumN a H))) (fun i s => s = nI (sumN a i)) H ?_ ?_ N 0 (nI 0) (by omega) (by omega) rfl
    · intro n s hs
      rw [m7_useOfAll_L4, e1, if_pos (Int32.le_refl _), hs]
    · intro n i s hi hs ih
      rw [m7_useOfAll_L4, e1, if_neg (nI_ge hi (by omega)), ltx_s, ltx_s, rat_nI (by omega) (by decide), ha i (by omega), hs, nI_add, nI_1]
      exact ih _ rfl
  have q' : m7_useOfAll_L4 N N 0 0 f = some (nI (sumN a H)) := q
  rw [q', ob1_s]
theorem U9_useOfAll {f : bkA} {r : Nat → Int32} {H N : Nat} {a : Nat → Nat} (hR : RG f r) (e1 : f 23 1 = nI H) (hH : H ≤ 8) (ha : ∀ h, h < 8 → f 6 h = nI (a h)) (hN : 100 < N) : m9_useOfAll N r = some (nI (sumN a H)) := by
  unfold m9_useOfAll
  have q : m9_useOfAll_L4 N N (nI 0) (nI 0) r = some (nI (sumN a H)) := by
    refine loop_i (σ := Int32) (fun n i s => m9_useOfAll_L4 N n s (nI i) r = some (nI (sumN a H))) (fun i s => s = nI (sumN a i)) H ?_ ?_ N 0 (nI 0) (by omega) (by omega) rfl
    · intro n s hs
      rw [m9_useOfAll_L4, c9_3, h9_3, RG_i1 hR, e1, if_pos (Int32.le_refl _), hs]
    · intro n i s hi hs ih
      rw [m9_useOfAll_L4, c9_3, h9_3, RG_i1 hR, e1, if_neg (nI_ge hi (by omega)), e9_H1 (by omega), k9_6 (by omega), q9_6 (by omega), RG_6 hR (by omega), ltx_s, ltx_s, ha i (by omega), hs, nI_add, nI_1]
      exact ih _ rfl
  have q' : m9_useOfAll_L4 N N 0 0 r = some (nI (sumN a H)) := q
  rw [q', ob1_s]
theorem LN_i {g : Nat → Int32} {xs : List Nat} : ∀ {b i : Nat}, LN g b xs → i < xs.length → ∃ x, x ∈ xs ∧ g (b+i) = nI x := by
  induction xs with
  | nil =>
    intro b i h hi
    exact absurd hi (by show ¬ i < 0; omega)
  | cons y xs ih =>
    intro b i h hi
    cases i with
    | zero => exact ⟨y, List.mem_cons.mpr (Or.inl rfl), h.1⟩
    | succ i =>
      obtain ⟨x, h1, h2⟩ := ih (i := i) h.2 (by have h3 : i + 1 < xs.length + 1 := hi; omega)
      refine ⟨x, List.mem_cons.mpr (Or.inr h1), ?_⟩
      have e : b + (i+1) = b + 1 + i := by omega
      rw [e]
      exact h2
theorem LN_other {g : Nat → Int32} {pre suf : List Nat} {d b i : Nat} (h : LN g b (pre ++ d :: suf)) (hn : ND (pre ++ d :: suf)) (hi : i < (pre ++ d :: suf).length) (hne : i ≠ pre.length) : ∃ x, x ∈ pre ++ d :: suf ∧ x ≠ d ∧ g (b+i) = nI x := by
  obtain ⟨h1, h2, h3⟩ := LN_mid h
  obtain ⟨n1, n2, n3⟩ := ND_mid hn
  rw [len_mid] at hi
  by_cases q : i < pre.length
  · obtain ⟨x, hx, ex⟩ := LN_i h1 q
    exact ⟨x, mem_mid.mpr (Or.inr (List.mem_append.mpr (Or.inl hx))), fun e => n2 (by rw [← e]; exact hx), ex⟩
  · obtain ⟨x, hx, ex⟩ := LN_i (i := i - pre.length - 1) h3 (by omega)
    have e : b + pre.length + 1 + (i - pre.length - 1) = b + i := by omega
    rw [e] at ex
    exact ⟨x, mem_mid.mpr (Or.inr (List.mem_append.mpr (Or.inr hx))), fun e => n3 (by rw [← e]; exact hx), ex⟩
/-- where a dough stands in the line -/
def ixOf (d : Nat) : List Nat → Nat → Int32
  | [], _ => iM
  | x :: xs, b => if x = d then nI b else ixOf d xs (b+1)
theorem ixOf_mid {d : Nat} {pre suf : List Nat} : ∀ {b : Nat}, (¬ d ∈ pre) → ixOf d (pre ++ d :: suf) b = nI (b + pre.length) := by
  induction pre with
  | nil =>
    intro b h
    show (if d = d then nI b else _) = _
    rw [if_pos rfl]
    rfl
  | cons y pre ih =>
    intro b h
    show (if y = d then nI b else ixOf d (pre ++ d :: suf) (b+1)) = _
    rw [if_neg (fun e => h (List.mem_cons.mpr (Or.inl e.symm))), ih (fun q => h (List.mem_cons.mpr (Or.inr q)))]
    have e : b + 1 + pre.length = b + (pre.length + 1) := by omega
    rw [e]
    rfl
theorem ixOf_not {d : Nat} {xs : List Nat} : ∀ {b : Nat}, (¬ d ∈ xs) → ixOf d xs b = iM := by
  induction xs with
  | nil =>
    intro b h
    rfl
  | cons y xs ih =>
    intro b h
    show (if y = d then nI b else ixOf d xs (b+1)) = _
    rw [if_neg (fun e => h (List.mem_cons.mpr (Or.inl e.symm))), ih (fun q => h (List.mem_cons.mpr (Or.inr q)))]
theorem U7_place {f : bkA} {N d : Nat} {ls : List Nat} (e3 : f 23 3 = nI ls.length) (hL : LN (f 22) 0 ls) (hn : ND ls) (hx : ∀ x, x ∈ ls → x < 16) (hd : d < 16) (hN : 100 < N) : m7_placeInLine N f (nI d) = some (ixOf d ls 0) := by
  have hle := php 16 hn hx
  unfold m7_placeInLine
  by_cases hm : d ∈ ls
  · obtain ⟨pre, suf, e⟩ := split_mem hm
    subst e
    obtain ⟨n1, n2, n3⟩ := ND_mid hn
    rw [ixOf_mid n2, Nat.zero_add]
    have hlm := len_mid (pre := pre) (suf := suf) (x := d)
    have q : m7_placeInLine_L2 N N (nI d) (nI 0) f = some (nI pre.length) := by
      refine loop_i (σ := Unit) (fun n i _ => m7_placeInLine_L2 N n (nI d) (nI i) f = some (nI pre.length)) (fun _ _ => True) pre.length ?_ ?_ N 0 () (by omega) (by omega) trivial
      · intro n s _
        have q1 := (LN_mid hL).2.1
        rw [Nat.zero_add] at q1
        rw [m7_placeInLine_L2, e3, if_neg (nI_ge (by omega) (by omega)), rat_nI (by omega) (by decide), q1, if_pos rfl]
      · intro n i s hi _ ih
        obtain ⟨x, q1, q2, q3⟩ := LN_other (i := i) hL hn (by omega) (by omega)
        rw [Nat.zero_add] at q3
        have hx16 := hx x q1
        rw [m7_placeInLine_L2, e3, if_neg (nI_ge (by omega) (by omega)), rat_nI (by omega) (by decide), q3, if_neg (fun e => q2 ((nI_eq (by omega) (by omega)).mp e)), ltx_s, nI_1]
        exact ih () trivial
    exact q
  · rw [ixOf_not hm]
    have q : m7_placeInLine_L2 N N (nI d) (nI 0) f = some iM := by
      refine loop_i (σ := Unit) (fun n i _ => m7_placeInLine_L2 N n (nI d) (nI i) f = some iM) (fun _ _ => True) ls.length ?_ ?_ N 0 () (by omega) (by omega) trivial
      · intro n s _
        rw [m7_placeInLine_L2, e3, if_pos (Int32.le_refl _)]
        rfl
      · intro n i s hi _ ih
        obtain ⟨x, q1, q3⟩ := LN_i hL hi
        rw [Nat.zero_add] at q3
        have hx16 := hx x q1
        rw [m7_placeInLine_L2, e3, if_neg (nI_ge (by omega) (by omega)), rat_nI (by omega) (by decide), q3, if_neg (fun e => hm (by rw [← (nI_eq (by omega) (by omega)).mp e]; exact q1)), ltx_s, nI_1]
        exact ih () trivial
    exact q
theorem U9_place {r : Nat → Int32} {N d : Nat} {ls : List Nat} (e3 : r (pos 23 3) = nI ls.length) (hL : LN r 213 ls) (hn : ND ls) (hx : ∀ x, x ∈ ls → x < 16) (hd : d < 16) (hN : 100 < N) : m9_placeInLine N r (nI d) = some (ixOf d ls 0) := by
  have hle := php 16 hn hx
  unfold m9_placeInLine
  by_cases hm : d ∈ ls
  · obtain ⟨pre, suf, e⟩ := split_mem hm
    subst e
    obtain ⟨n1, n2, n3⟩ := ND_mid hn
    rw [ixOf_mid n2, Nat.zero_add]
    have hlm := len_mid (pre := pre) (suf := suf) (x := d)
    have q : m9_placeInLine_L4 N N (nI d) iM (nI 0) r = some (nI pre.length) := by
      refine loop_i (σ := Int32) (fun n i s => m9_placeInLine_L4 N n (nI d) s (nI i) r = some (nI pre.length)) (fun i s => s = if i ≤ pre.length then iM else nI pre.length) (pre ++ d :: suf).length ?_ ?_ N 0 iM (by omega) (by omega) (if_pos (Nat.zero_le _)).symm
      · intro n s hs
        rw [m9_placeInLine_L4, c9_5, h9_5, e3, if_pos (Int32.le_refl _), hs, if_neg (by omega)]
      · intro n i s hi hs ih
        have e9 := e9_L (i := i) (by omega)
        by_cases hq : i = pre.length
        · have q1 := (LN_mid hL).2.1
          rw [← hq] at q1
          rw [m9_placeInLine_L4, c9_5, h9_5, e3, if_neg (nI_ge hi (by omega)), e9, k9_22 (by omega), q9_22 (by omega), pos_l (by omega), q1, lt1_s, if_pos rfl, ltx_s, nI_1]
          refine ih _ ?_
          rw [if_neg (by omega), hq]
        · obtain ⟨x, q1, q2, q3⟩ := LN_other (i := i) hL hn hi hq
          have hx16 := hx x q1
          rw [m9_placeInLine_L4, c9_5, h9_5, e3, if_neg (nI_ge hi (by omega)), e9, k9_22 (by omega), q9_22 (by omega), pos_l (by omega), q3, lt1_s, if_neg (fun e => q2 ((nI_eq (by omega) (by omega)).mp e)), ltx_s, nI_1]
          refine ih _ ?_
          rw [hs]
          by_cases h5 : i ≤ pre.length
          · rw [if_pos h5, if_pos (by omega)]
          · rw [if_neg h5, if_neg (by omega)]
    have q' : m9_placeInLine_L4 N N (nI d) (-1) 0 r = some (nI pre.length) := q
    rw [q', ob1_s]
  · rw [ixOf_not hm]
    have q : m9_placeInLine_L4 N N (nI d) iM (nI 0) r = some iM := by
      refine loop_i (σ := Int32) (fun n i s => m9_placeInLine_L4 N n (nI d) s (nI i) r = some iM) (fun i s => s = iM) ls.length ?_ ?_ N 0 iM (by omega) (by omega) rfl
      · intro n s hs
        rw [m9_placeInLine_L4, c9_5, h9_5, e3, if_pos (Int32.le_refl _), hs]
      · intro n i s hi hs ih
        have e9 := e9_L (i := i) (by omega)
        obtain ⟨x, q1, q3⟩ := LN_i hL hi
        have hx16 := hx x q1
        rw [m9_placeInLine_L4, c9_5, h9_5, e3, if_neg (nI_ge hi (by omega)), e9, k9_22 (by omega), q9_22 (by omega), pos_l (by omega), q3, lt1_s, if_neg (fun e => hm (by rw [← (nI_eq (by omega) (by omega)).mp e]; exact q1)), ltx_s, nI_1]
        exact ih _ hs
    have q' : m9_placeInLine_L4 N N (nI d) (-1) 0 r = some iM := q
    rw [q', ob1_s]
