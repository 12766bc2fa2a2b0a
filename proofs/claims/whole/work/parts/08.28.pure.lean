/-! a state is saved -/
theorem S_save {f : bkA} {s sv q : Nat → Int32} {y : Nat → bkA} {o : Nat → Int32} {N : Nat} (h : HS y o sv q) (hs : SIMX f s) (hN : 1100 < N) : ∃ y' o' sv' q', m2_save f y o = some (y', o') ∧ m9_save N s sv q = some (sv', q') ∧ HS y' o' sv' q' ∧ (∀ k, k ≠ 1 → q' k = q k) := by
  obtain ⟨a, c, ha, hc, o0, o1, q1, hi⟩ := h
  unfold m2_save m9_save
  rw [o0, o1, slx_nI ha hc, ck_nI (by omega) (by decide), nI_clamp (by omega), ltx_s, q1]
  by_cases c4 : c = 4
  · subst c4
    have e1 : nI a + 1 - (nI a + 1) / 4 * 4 = nI ((a + 1) % 4) := by
      rw [nI_1, l_4, pk_rem (by omega) (by decide) (by decide)]
    obtain ⟨sv1, s1, s2⟩ := shift9 (sv := sv) (N := N) hN
    obtain ⟨sv2, t1, t2, t3⟩ := copy9 (s := s) (sv := sv1) (q := upd q 1 (nI 4 - 1)) (N := N) (c := 3) (by decide) (by rw [pk_us]; rfl) hN
    rw [if_pos (show (4 : Int32) ≤ nI 4 by decide), e1, ltx_s, if_pos (show nI 4 = 4 from rfl), s1, ob1_s, ltx_s, ob2_s, t1, ob1_s, ltx_s]
    refine ⟨_, _, sv2, _, rfl, rfl, ⟨(a+1)%4, 4, by omega, by omega, pk_us, ?_, ?_, ?_⟩, ?_⟩
    · rw [pk_un (by decide)]
      exact o1
    · rw [pk_us, pk_us]
      rfl
    · intro i hi4
      by_cases e : i = 3
      · subst e
        have e2 : ((a + 1) % 4 + 3) % 4 = (a + 4) % 4 := by omega
        rw [e2, ur_s]
        exact SIMX_cp hs (fun p hp => t2 p hp)
      · have e2 : ((a + 1) % 4 + i) % 4 = (a + (i + 1)) % 4 := by omega
        rw [e2, ur_n (by omega)]
        refine SIMX_cp (hi (i+1) (by omega)) ?_
        intro p hp
        show sv2 (265 * i + p) = sv (265 * (i + 1) + p)
        rw [t3 _ (by omega), s2 _ (by omega)]
        congr 1
        omega
    · intro k hk
      rw [pk_un hk, pk_un hk]
  · obtain ⟨sv2, t1, t2, t3⟩ := copy9 (s := s) (sv := sv) (q := q) (N := N) (c := c) (by omega) q1 hN
    rw [if_neg (show ¬ (4 : Int32) ≤ nI c from nI_ge (b := 4) (by omega) (by decide)), nI_1, ltx_s, if_neg (show ¬ nI c = 4 from fun e => c4 ((nI_eq (b := 4) (by omega) (by decide)).mp e)), ob2_s, t1, ob1_s, q1, nI_1, ltx_s]
    refine ⟨_, _, sv2, _, rfl, rfl, ⟨a, c+1, ha, by omega, ?_, pk_us, pk_us, ?_⟩, ?_⟩
    · rw [pk_un (by decide)]
      exact o0
    · intro i hi4
      by_cases e : i = c
      · subst e
        rw [ur_s]
        exact SIMX_cp hs (fun p hp => t2 p hp)
      · rw [ur_n (by omega)]
        refine SIMX_cp (hi i (by omega)) ?_
        intro p hp
        exact t3 _ (by omega)
    · intro k hk
      exact pk_un hk
