/-! p29: calls that are carried out -/
def GS (f : bkA) (K H T : Nat) (σ : Int32) : Prop := ∃ D r ls t, SIM f r K H D ls t T ∧ IX9 f K D T σ
section CALLS
variable {f c : bkA} {r : Nat → Int32} {K H D t T N : Nat} {σ : Int32} {ls : List Nat}
theorem c_addKind (h : SIM f r K H D ls t T) (hx : IX9 f K D T σ) {b1 b2 b3 b4 b5 : Nat} (h1 : 50 ≤ b1) (h2 : b1 ≤ 350) (h3 : b1 ≤ b2) (h4 : b2 ≤ 400) (h5 : 1 ≤ b3) (h6 : b3 ≤ 20) (h7 : b4 ≤ 30) (h8 : 1 ≤ b5) (h9 : b5 ≤ 40) (hK : K < 5) : ∃ x f', GS f' (K+1) H T σ ∧ ∀ y o y' o', m2_save f y o = some (y', o') → m8_addKind f y o (nI b1) (nI b2) (nI b3) (nI b4) (nI b5) = some (x, f', y', o') := by
  obtain ⟨f', r', a1, _, S⟩ := S_newKind h hK (nI b1) (nI b2) (nI b3) (nI b4) (nI b5)
  obtain ⟨f2, a2, X⟩ := X_newKind (a3 := nI b3) (a4 := nI b4) (a5 := nI b5) hx hK h.1.1.1 h3 h4
  rw [a1] at a2
  have e := (Prod.mk.inj a2).2
  rw [← e] at X
  refine ⟨nI K, f', ⟨D, r', ls, t, S, X⟩, ?_⟩
  intro y o y' o' hsv
  have er : m7_refusalOfKind f (nI b1) (nI b2) (nI b3) (nI b4) (nI b5) = 0 := by
    unfold m7_refusalOfKind
    rw [if_neg (show ¬ nI b1 < 50 from nI_nlt (b := 50) h1 (by omega)), if_neg (show ¬ (350 : Int32) < nI b1 from nI_nlt (a := 350) h2 (by decide)), if_neg (nI_nlt h3 (by omega)), if_neg (show ¬ (400 : Int32) < nI b2 from nI_nlt (a := 400) h4 (by decide)), if_neg (show ¬ nI b3 < 1 from nI_nlt (b := 1) h5 (by omega)), if_neg (show ¬ (20 : Int32) < nI b3 from nI_nlt (a := 20) h6 (by decide)), if_neg (nI_pos (by omega)), if_neg (show ¬ (30 : Int32) < nI b4 from nI_nlt (a := 30) h7 (by decide)), if_neg (show ¬ nI b5 < 1 from nI_nlt (b := 1) h8 (by omega)), if_pos (show nI b5 ≤ 40 from nI_le (b := 40) h9 (by decide)), h.1.1.1, if_pos (show nI K < 5 from nI_lt (b := 5) hK (by decide))]
  unfold m8_addKind
  rw [er, lt1_s, ckp_t (by decide), hsv, ob2_s, a1, lt2_s]
theorem c_addHouse (h : SIM f r K H D ls t T) (hx : IX9 f K D T σ) (hH : H < 8) : ∃ x f', GS f' K (H+1) T σ ∧ ∀ y o y' o', m2_save f y o = some (y', o') → m8_addHouse f y o = some (x, f', y', o') := by
  obtain ⟨f', r', a1, _, S⟩ := S_newHouse (N := 101) h hH (by decide)
  obtain ⟨f2, a2, X⟩ := X_newHouse (H := H) hx h.1.1.2.1
  rw [a1] at a2
  have e := (Prod.mk.inj a2).2
  rw [← e] at X
  refine ⟨nI H, f', ⟨D, r', ls, t, S, X⟩, ?_⟩
  intro y o y' o' hsv
  have er : m7_refusalOfHouse f = 0 := by
    unfold m7_refusalOfHouse
    rw [h.1.1.2.1, if_pos (show nI H < 8 from nI_lt (b := 8) hH (by decide))]
  unfold m8_addHouse
  rw [er, lt1_s, ckp_t (by decide), hsv, ob2_s, a1, lt2_s]
theorem c_addDough (h : SIM f r K H D ls t T) (hx : IX9 f K D T σ) {b1 b2 b3 : Nat} (h1 : b1 < H) (h2 : b2 < K) (h3 : 1 ≤ b3) (h4 : b3 ≤ 4) (hD : D < 16) : ∃ x f', GS f' K H T σ ∧ ∀ y o y' o', m2_save f y o = some (y', o') → m8_addDough f y o (nI b1) (nI b2) (nI b3) = some (x, f', y', o') := by
  have hK : K ≤ 5 := h.1.1.2.2.2.2.2.2.1
  have hH : H ≤ 8 := h.1.1.2.2.2.2.2.2.2.1
  obtain ⟨f', r', a1, _, S⟩ := S_newDough h hD h1 h2 h3 h4
  obtain ⟨f2, a2, X⟩ := X_newDough (b1 := b1) (b2 := b2) (b3 := b3) hx h.1 hD
  rw [a1] at a2
  have e := (Prod.mk.inj a2).2
  rw [← e] at X
  refine ⟨nI D, f', ⟨D+1, r', ls ++ [D], t, S, X⟩, ?_⟩
  intro y o y' o' hsv
  have er : m7_refusalOfDough f (nI b1) (nI b2) (nI b3) = 0 := by
    unfold m7_refusalOfDough
    rw [(S_isHouse h _).1, isN_1 (by omega) h1, lt1_s, if_neg n10, (S_isKind h _).1, isN_1 (by omega) h2, lt1_s, if_neg n10, if_neg (show ¬ nI b3 < 1 from nI_nlt (b := 1) h3 (by omega)), if_pos (show nI b3 ≤ 4 from nI_le (b := 4) h4 (by decide)), h.1.1.2.2.1, if_pos (show nI D < 16 from nI_lt (b := 16) hD (by decide))]
  unfold m8_addDough
  rw [er, lt1_s, ckp_t (by decide), hsv, ob2_s, a1, lt2_s]
theorem c_clear (h : SIM f r K H D ls t T) (hx : IX9 f K D T σ) (hN : 100 < N) : ∃ x f', GS f' K H T σ ∧ ∀ y o y' o', m2_save f y o = some (y', o') → m8_clearDoughs N f y o = some (x, f', y', o') := by
  obtain ⟨x, f', r', D', ls', t', a1, S, X⟩ := X_clear (N := N) h hx hN
  refine ⟨x, f', ⟨D', r', ls', t', S, X⟩, ?_⟩
  intro y o y' o' hsv
  unfold m8_clearDoughs
  rw [hsv, ob2_s, a1, ob2_s]
theorem c_swap (h : SIM f r K H D ls t T) (hx : IX9 f K D T σ) {b1 b2 : Nat} (h1 : b1 ∈ ls) (h2 : b2 ∈ ls) (hne : b1 ≠ b2) (hN : 100 < N) : ∃ x f', GS f' K H T σ ∧ ∀ y o y' o', m2_save f y o = some (y', o') → m8_swap N f y o (nI b1) (nI b2) = some (x, f', y', o') := by
  have hD : D ≤ 16 := h.1.1.2.2.2.2.2.2.2.2.1
  obtain ⟨x, f', r', ls', a1, _, S⟩ := S_exchange (N := N) h h1 h2 hne hN
  have X := X_exchange hx a1
  refine ⟨x, f', ⟨D, r', ls', t, S, X⟩, ?_⟩
  intro y o y' o' hsv
  have m1 := (h.1.2.2.1.2.2 b1).mp h1
  have m2 := (h.1.2.2.1.2.2 b2).mp h2
  have er : m7_refusalOfSwap f (nI b1) (nI b2) = 0 := by
    unfold m7_refusalOfSwap
    rw [(S_isDough h _).1, isN_1 (by omega) m1.1, lt1_s, if_neg n10, (S_isDough h _).1, isN_1 (by omega) m2.1, lt1_s, if_neg n10, if_neg (fun z => hne ((nI_eq (by omega) (by omega)).mp z)), S_isWaiting h m1.1, if_pos (show f 15 b1 = 0 from m1.2), lt1_s, if_neg n10, S_isWaiting h m2.1, if_pos (show f 15 b2 = 0 from m2.2), lt1_s, if_neg n10]
  unfold m8_swap
  rw [er, lt1_s, ckp_t (by decide), hsv, ob2_s, a1, ob2_s]
theorem c_bring (h : SIM f r K H D ls t T) (hx : IX9 f K D T σ) {b1 b2 : Nat} (h1 : b1 < H) (h2 : 1 ≤ b2) (h3 : b2 ≤ 99) (h4 : f 5 b1 + nI b2 ≤ 999) : ∃ x f', GS f' K H T σ ∧ ∀ y o y' o', m2_save f y o = some (y', o') → m8_bring f y o (nI b1) (nI b2) = some (x, f', y', o') := by
  have hH : H ≤ 8 := h.1.1.2.2.2.2.2.2.2.1
  obtain ⟨x, f', r', a1, _, S⟩ := S_takeLogs h h1 (nI b2)
  obtain ⟨x2, f2, a2, X⟩ := X_takeLogs (a2 := nI b2) hx (show b1 < 8 by omega)
  rw [a1] at a2
  have e := (Prod.mk.inj a2).2
  rw [← e] at X
  refine ⟨x, f', ⟨D, r', ls, t, S, X⟩, ?_⟩
  intro y o y' o' hsv
  have er : m7_refusalOfBring f (nI b1) (nI b2) = 0 := by
    unfold m7_refusalOfBring
    rw [(S_isHouse h _).1, isN_1 (by omega) h1, lt1_s, if_neg n10, if_neg (show ¬ nI b2 < 1 from nI_nlt (b := 1) h2 (by omega)), if_pos (show nI b2 ≤ 99 from nI_le (b := 99) h3 (by decide)), rat_nI (by omega) (by decide), if_pos h4]
  unfold m8_bring
  rw [er, lt1_s, ckp_t (by decide), hsv, ob2_s, a1, lt2_s]
theorem c_stoke (h : SIM f r K H D ls t T) (hx : IX9 f K D T σ) {b1 b2 : Nat} (h1 : b1 < H) (h2 : 1 ≤ b2) (h3 : b2 ≤ 16) (h4 : ¬ f 5 b1 - nI b2 < -20) (h5 : f 23 4 + 25 * nI b2 ≤ 400) : ∃ x f', GS f' K H T σ ∧ ∀ y o y' o', m2_save f y o = some (y', o') → m8_stoke f y o (nI b1) (nI b2) = some (x, f', y', o') := by
  have hH : H ≤ 8 := h.1.1.2.2.2.2.2.2.2.1
  have ht : t ≤ 400 := h.1.1.2.2.2.2.2.2.2.2.2
  have ht2 : t + 25 * b2 ≤ 400 := by
    by_cases z : t + 25 * b2 ≤ 400
    · exact z
    · rw [h.1.1.2.2.2.2.1, l_25, pk_mul, nI_add] at h5
      exact absurd h5 (show ¬ nI (t + 25 * b2) ≤ 400 from nI_ge (a := 400) (by omega) (by omega))
  obtain ⟨x, f', r', a1, _, S⟩ := S_burnLogs h h1 h3 ht2
  obtain ⟨x2, f2, a2, X⟩ := X_burnLogs (a2 := nI b2) hx (show b1 < 8 by omega)
  rw [a1] at a2
  have e := (Prod.mk.inj a2).2
  rw [← e] at X
  refine ⟨x, f', ⟨D, r', ls, t + 25 * b2, S, X⟩, ?_⟩
  intro y o y' o' hsv
  have er : m7_refusalOfStoke f (nI b1) (nI b2) = 0 := by
    unfold m7_refusalOfStoke
    rw [(S_isHouse h _).1, isN_1 (by omega) h1, lt1_s, if_neg n10, if_neg (show ¬ nI b2 < 1 from nI_nlt (b := 1) h2 (by omega)), if_pos (show nI b2 ≤ 16 from nI_le (b := 16) h3 (by decide)), rat_nI (by omega) (by decide), if_pos (Int32.not_lt.mp h4), lt1_s, if_pos rfl, if_pos h5]
  unfold m8_stoke
  rw [er, lt1_s, ckp_t (by decide), hsv, ob2_s, a1, lt2_s]
/-- what is settled by a settling: all that is unsettled, if there was use -/
theorem c_settle (h : SIM f r K H D ls t T) (hx : IX9 f K D T σ) (hT : T ≤ 200000) (hN : 100 < N) : ∃ x f' u S, f 23 6 = nI u ∧ m7_useOfAll N f = some (nI S) ∧ S < 2^28 ∧ GS f' K H T (σ + if S = 0 then 0 else nI u) ∧ ∀ y o y' o', m2_save f y o = some (y', o') → m8_settle N f y o = some (x, f', y', o') := by
  obtain ⟨x, f', r', _, _, a1, _, S⟩ := S_settle (N := N) h hT hN (fun _ => 0) (fun _ => 0)
  obtain ⟨x2, f2, u, Su, a2, a3, a4, a5, X⟩ := X_settle (N := N) hx h.1 hT hN
  rw [a1] at a2
  have e := (Prod.mk.inj (Option.some.inj a2)).2
  rw [← e] at X
  refine ⟨x, f', u, Su, a3, a4, a5, ⟨D, r', ls, t, S, X⟩, ?_⟩
  intro y o y' o' hsv
  unfold m8_settle
  rw [hsv, ob2_s, a1, ob2_s]
theorem c_pass (h : SIM f r K H D ls t T) (hx : IX9 f K D T σ) {m : Nat} (h1 : 1 ≤ m) (hm : m ≤ 60) (hT : T ≤ 90000) (hN : 200 < N) : ∃ x f', GS f' K H (T + m) σ ∧ ∀ y o y' o', m2_save f y o = some (y', o') → m8_pass N f y o (nI m) = some (x, f', y', o') := by
  obtain ⟨cc, hcc⟩ := pass_its (m := m) h hx (by omega) (by omega) hN
  obtain ⟨r', ls', t', a1, a2, _, _⟩ := its_ok h hx hN m (by omega)
  refine ⟨cc, its N f m, ⟨D, r', ls', t', a1, a2⟩, ?_⟩
  intro y o y' o' hsv
  unfold m8_pass m7_refusalOfPass
  rw [if_neg (show ¬ nI m < 1 from nI_nlt (b := 1) h1 (by omega)), if_pos (show nI m ≤ 100 from nI_le (b := 100) (by omega) (by decide)), h.1.1.2.2.2.2.2.1, nI_add, if_pos (show nI (T + m) ≤ 100000 from nI_le (b := 100000) (by omega) (by decide)), lt1_s, ckp_t (by decide), hsv, ob2_s, hcc, ob2_s]
end CALLS
