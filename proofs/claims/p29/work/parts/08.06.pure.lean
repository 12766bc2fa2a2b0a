/-! two doughs change their places; values -/
theorem LN_set {g : Nat → Int32} {pre suf : List Nat} {x y b : Nat} (h : LN g b (pre ++ x :: suf)) : LN (upd g (b + pre.length) (nI y)) b (pre ++ y :: suf) := by
  obtain ⟨h1, h2, h3⟩ := LN_mid h
  refine LN_app.mpr ⟨LN_congr ?_ h1, pk_us, LN_congr ?_ h3⟩
  · intro i a c
    exact pk_un (by omega)
  · intro i a c
    exact pk_un (by omega)
theorem app_mid {A B C : List Nat} {x y : Nat} : A ++ x :: (B ++ y :: C) = (A ++ x :: B) ++ y :: C := by
  rw [List.append_assoc]
  rfl
theorem ND_sw {A B C : List Nat} {x y : Nat} (h : ND (A ++ x :: (B ++ y :: C))) : ND (A ++ y :: (B ++ x :: C)) := by
  obtain ⟨h1, h2, h3⟩ := ND_mid h
  rw [← List.append_assoc] at h1
  obtain ⟨k1, k2, k3⟩ := ND_mid h1
  have hxB : ¬ x ∈ B := fun q => h3 (List.mem_append.mpr (Or.inl q))
  have hxC : ¬ x ∈ C := fun q => h3 (List.mem_append.mpr (Or.inr (List.mem_cons.mpr (Or.inr q))))
  have hyx : ¬ y = x := fun q => h3 (List.mem_append.mpr (Or.inr (List.mem_cons.mpr (Or.inl q.symm))))
  have m1 : ND ((A ++ B) ++ x :: C) := ND_ins k1 (fun q => (List.mem_append.mp q).elim h2 hxB) hxC
  rw [List.append_assoc] at m1
  refine ND_ins m1 (fun q => k2 (List.mem_append.mpr (Or.inl q))) ?_
  intro q
  rcases List.mem_append.mp q with q | q
  · exact k2 (List.mem_append.mpr (Or.inr q))
  · rcases List.mem_cons.mp q with q | q
    · exact hyx q
    · exact k3 q
theorem mem_sw {A B C : List Nat} {x y d : Nat} : d ∈ A ++ y :: (B ++ x :: C) ↔ d ∈ A ++ x :: (B ++ y :: C) := by
  have e : ∀ {x y : Nat}, d ∈ A ++ y :: (B ++ x :: C) → d ∈ A ++ x :: (B ++ y :: C) := by
    intro x y q
    rcases mem_mid.mp q with q | q
    · rw [app_mid]
      exact mem_mid.mpr (Or.inl q)
    · rw [← List.append_assoc] at q
      rcases mem_mid.mp q with q | q
      · exact mem_mid.mpr (Or.inl q)
      · rw [app_mid]
        refine mem_mid.mpr (Or.inr ?_)
        rcases List.mem_append.mp q with q | q
        · rcases List.mem_append.mp q with q | q
          · exact List.mem_append.mpr (Or.inl (List.mem_append.mpr (Or.inl q)))
          · exact List.mem_append.mpr (Or.inl (List.mem_append.mpr (Or.inr (List.mem_cons.mpr (Or.inr q)))))
        · exact List.mem_append.mpr (Or.inr q)
  exact ⟨e, e⟩
theorem LN_ex {b1 b2 : Nat} {ls : List Nat} (hm1 : b1 ∈ ls) (hm2 : b2 ∈ ls) (hne : b1 ≠ b2) (hn : ND ls) : ∃ p1 p2 ls', p1 < ls.length ∧ p2 < ls.length ∧ ixOf b1 ls 0 = nI p1 ∧ ixOf b2 ls 0 = nI p2 ∧ ls'.length = ls.length ∧ ND ls' ∧ (∀ d, d ∈ ls' ↔ d ∈ ls) ∧ ∀ (g : Nat → Int32) (b : Nat), LN g b ls → LN (upd (upd g (b+p1) (nI b2)) (b+p2) (nI b1)) b ls' := by
  obtain ⟨pre, suf, e⟩ := split_mem hm1
  subst e
  obtain ⟨n1, n2, n3⟩ := ND_mid hn
  rcases mem_mid.mp hm2 with q | q
  · exact absurd q.symm hne
  rcases List.mem_append.mp q with q | q
  · obtain ⟨A, B, e⟩ := split_mem q
    subst e
    have e1 : (A ++ b2 :: B) ++ b1 :: suf = A ++ b2 :: (B ++ b1 :: suf) := app_mid.symm
    have hn' := hn
    rw [e1] at hn'
    obtain ⟨k1, k2, k3⟩ := ND_mid hn'
    have l1 := len_mid (pre := A) (suf := B) (x := b2)
    have l2 := len_mid (pre := A ++ b2 :: B) (suf := suf) (x := b1)
    refine ⟨(A ++ b2 :: B).length, A.length, A ++ b1 :: (B ++ b2 :: suf), by omega, by omega, ?_, ?_, ?_, ND_sw hn', ?_, ?_⟩
    · rw [ixOf_mid n2, Nat.zero_add]
    · rw [e1, ixOf_mid k2, Nat.zero_add]
    · rw [e1, len_mid, len_mid, len_mid, len_mid]
    · intro d
      rw [e1]
      exact mem_sw
    · intro g b hg
      have h1 := LN_set (y := b2) hg
      have e2 : (A ++ b2 :: B) ++ b2 :: suf = A ++ b2 :: (B ++ b2 :: suf) := app_mid.symm
      rw [e2] at h1
      exact LN_set (y := b1) h1
  · obtain ⟨B, C, e⟩ := split_mem q
    subst e
    have e1 : pre ++ b1 :: (B ++ b2 :: C) = (pre ++ b1 :: B) ++ b2 :: C := app_mid
    have hn' := hn
    rw [e1] at hn'
    obtain ⟨k1, k2, k3⟩ := ND_mid hn'
    have l1 := len_mid (pre := pre) (suf := B) (x := b1)
    have l2 := len_mid (pre := pre ++ b1 :: B) (suf := C) (x := b2)
    have l3 := len_mid (pre := pre) (suf := B) (x := b2)
    refine ⟨pre.length, (pre ++ b1 :: B).length, pre ++ b2 :: (B ++ b1 :: C), by rw [e1]; omega, by rw [e1]; omega, ?_, ?_, ?_, ND_sw hn, ?_, ?_⟩
    · rw [ixOf_mid n2, Nat.zero_add]
    · rw [e1, ixOf_mid k2, Nat.zero_add]
    · rw [len_mid, len_mid, len_mid, len_mid]
    · intro d
      exact mem_sw
    · intro g b hg
      have h1 := LN_set (y := b2) hg
      have e2 : pre ++ b2 :: (B ++ b2 :: C) = (pre ++ b2 :: B) ++ b2 :: C := app_mid
      rw [e2] at h1
      have h2 := LN_set (y := b1) h1
      rw [l3, ← l1, ← app_mid] at h2
      exact h2
theorem IV_16 {f : bkA} {K H D t T : Nat} {ls : List Nat} (h : IV f K H D ls t T) : ∀ x, x ∈ ls → x < 16 := by
  intro x hx
  have h1 := ((h.2.2.1.2.2 x).mp hx).1
  have h2 := h.1.2.2.2.2.2.2.2.2.1
  omega
theorem S_exchange {f : bkA} {r : Nat → Int32} {K H D t T b1 b2 N : Nat} {ls : List Nat} (h : SIM f r K H D ls t T) (h1 : b1 ∈ ls) (h2 : b2 ∈ ls) (hne : b1 ≠ b2) (hN : 100 < N) : ∃ x f' r' ls', m7_exchange N f (nI b1) (nI b2) = some (x, f') ∧ m9_swapNow N r (nI b1) (nI b2) = some (x, r') ∧ SIM f' r' K H D ls' t T := by
  have hle := IV_len h.1
  have h16 := IV_16 h.1
  obtain ⟨⟨⟨e0, e1, e2, e3, e4, e5, hK, hH, hD, ht⟩, hd, hl, hp, hh, hn⟩, hR, hL⟩ := h
  obtain ⟨p1, p2, ls', q1, q2, x1, x2, q3, q4, q5, q6⟩ := LN_ex h1 h2 hne hl.2.1
  have a1 := U7_place (N := N) e3 hl.1 hl.2.1 h16 (h16 b1 h1) hN
  have a2 := U7_place (N := N) e3 hl.1 hl.2.1 h16 (h16 b2 h2) hN
  have c1 := U9_place (N := N) ((RG_i3 hR).trans e3) hL hl.2.1 h16 (h16 b1 h1) hN
  have c2 := U9_place (N := N) ((RG_i3 hR).trans e3) hL hl.2.1 h16 (h16 b2 h2) hN
  rw [x1] at a1 c1
  rw [x2] at a2 c2
  refine ⟨nI p2, wr (wr f 22 p1 (nI b2)) 22 p2 (nI b1), mr (mr r 22 p1 (nI b2)) 22 p2 (nI b1), ls', ?_, ?_, ?_⟩
  · unfold m7_exchange
    rw [a1, a2]
    simp (disch := omega) only [ob1_s, ltx_s, wr_put]
  · unfold m9_swapNow
    rw [c1, c2]
    simp (disch := omega) only [ob1_s, ltx_s, e9_L, k9_22, q9_22, mr_u]
  · refine ⟨⟨⟨?_, ?_, ?_, ?_, ?_, ?_, hK, hH, hD, ht⟩, IVd_congr hd ?_ ?_ ?_ ?_ ?_, ⟨?_, q4, ?_⟩, IVp_congr hp ?_ ?_, IVh_congr hh ?_ ?_ ?_ ?_ ?_ ?_, IVn_congr hn ?_ ?_ ?_⟩, ?_, ?_⟩
    all_goals first
      | (simp (disch := omega) only [wr_s, wr_n, wr_i]; done)
      | (simp (disch := omega) only [wr_s, wr_n, wr_i]; assumption)
      | skip
    · simp (disch := omega) only [wr_n]
      rw [q3]
      exact e3
    · rw [wr_r, wr_r]
      have q := q6 (f 22) 0 hl.1
      rw [Nat.zero_add, Nat.zero_add] at q
      exact q
    · intro d
      simp (disch := omega) only [wr_n]
      exact (q5 d).trans (hl.2.2 d)
    · exact RG_wr (RG_wr hR (by decide) (by decide)) (by decide) (by decide)
    · unfold mr
      rw [pos_l (by omega), pos_l (by omega)]
      exact q6 r 213 hL
