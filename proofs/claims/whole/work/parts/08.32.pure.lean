/-! in how many ticks: the class and the model alike -/
/-- a dough that is spoiled stays so, and was not loaded -/
theorem spoiledL {N d : Nat} {a : Int32} (hN : 200 < N) (ea : a = nI d) : ∀ (k n i : Nat) (f : bkA) (r : Nat → Int32) (K H D t T : Nat) (ls : List Nat), i + k = 61 → k < n → SIM f r K H D ls t T → T + k ≤ 800000 → d < D → f 15 d = nI 3 → ∃ g, m8_loadedIn_L45 N n a (nI i) f = some (0, -1, g)
  | 0, 0, i, f, r, K, H, D, t, T, ls, hi, hn, h, hT, hd, h3 => absurd hn (by omega)
  | 0, n+1, i, f, r, K, H, D, t, T, ls, hi, hn, h, hT, hd, h3 => by
    refine ⟨f, ?_⟩
    have e : i = 61 := by omega
    subst e
    rw [m8_loadedIn_L45, if_pos (by decide)]
  | k+1, 0, i, f, r, K, H, D, t, T, ls, hi, hn, h, hT, hd, h3 => absurd hn (by omega)
  | k+1, n+1, i, f, r, K, H, D, t, T, ls, hi, hn, h, hT, hd, h3 => by
    obtain ⟨c, f', r', ls', t', a1, a2, a3, a4⟩ := pass1 (N := N) h (by omega) hN
    have h3' := a4.1 d hd h3
    have h17 := (a3.1.2.1 d hd).2.2.2.2 (Or.inr h3')
    have hD16 : D ≤ 16 := h.1.1.2.2.2.2.2.2.2.2.1
    have w : m7_wasLoaded f' a = 0 := by
      unfold m7_wasLoaded
      rw [(S_isDough a3 a).1, ea, isN_1 (by omega) hd, lt1_s, z1, rat_nI (by omega) (by decide), if_pos (show f' 17 d = -1 from h17)]
    obtain ⟨g, hg⟩ := spoiledL hN ea k n (i+1) f' r' K H D t' (T+1) ls' (by omega) (by omega) a3 (by omega) hd h3'
    refine ⟨g, ?_⟩
    rw [m8_loadedIn_L45, if_neg (show ¬ (60 : Int32) < nI i from nI_nlt (a := 60) (by omega) (by decide)), a1, ob2_s, lt1_s, w, z0, ltx_s, nI_1]
    exact hg
theorem loadedL {N d : Nat} {a : Int32} (hN : 200 < N) (ea : a = nI d) (q : Nat → Int32) : ∀ (k n i : Nat) (f : bkA) (r : Nat → Int32) (K H D t T : Nat) (ls : List Nat), i + k = 61 → k < n → SIM f r K H D ls t T → T + k ≤ 800000 → d < D → f 15 d = nI 0 → ∃ x g u, m8_loadedIn_L45 N n a (nI i) f = some (0, x, g) ∧ m9_loadedIn_L32 N n a (nI i) r q = some (x, u, q)
  | 0, 0, i, f, r, K, H, D, t, T, ls, hi, hn, h, hT, hd, h3 => absurd hn (by omega)
  | 0, n+1, i, f, r, K, H, D, t, T, ls, hi, hn, h, hT, hd, h3 => by
    refine ⟨-1, f, r, ?_, ?_⟩
    · have e : i = 61 := by omega
      subst e
      rw [m8_loadedIn_L45, if_pos (by decide)]
    · have e : i = 61 := by omega
      subst e
      rw [m9_loadedIn_L32, if_pos (by decide)]
  | k+1, 0, i, f, r, K, H, D, t, T, ls, hi, hn, h, hT, hd, h3 => absurd hn (by omega)
  | k+1, n+1, i, f, r, K, H, D, t, T, ls, hi, hn, h, hT, hd, h3 => by
    obtain ⟨c, f', r', ls', t', a1, a2, a3, a4, a5⟩ := pass1' (N := N) h (by omega) hN
    have hD16 : D ≤ 16 := h.1.1.2.2.2.2.2.2.2.2.1
    have w : m7_wasLoaded f' a = if f' 17 d = -1 then 0 else 1 := by
      unfold m7_wasLoaded
      rw [(S_isDough a3 a).1, ea, isN_1 (by omega) hd, lt1_s, z1, rat_nI (by omega) (by decide)]
    have hn60 : ¬ (60 : Int32) < nI i := nI_nlt (a := 60) (by omega) (by decide)
    rw [m8_loadedIn_L45, m9_loadedIn_L32, if_neg hn60, if_neg hn60, a1, ob2_s, lt1_s, w, ea, a9_of4 (by omega), ob1_s, RG_15 h.2.1 (by omega), h3, if_pos (show nI 0 = (0 : Int32) from rfl), a2, ob2_s, a9_of6 (by omega), ob1_s, RG_17 a3.2.1 (by omega)]
    by_cases c17 : f' 17 d = -1
    · rw [if_pos c17, if_pos c17, z0, ltx_s, ltx_s, nI_1]
      by_cases c0 : f' 15 d = nI 0
      · have z := loadedL hN rfl q k n (i+1) f' r' K H D t' (T+1) ls' (by omega) (by omega) a3 (by omega) hd c0
        exact z
      · obtain ⟨p, p1, p2⟩ := (a3.1.2.1 d hd).2.2.2.1
        have c3 : f' 15 d = nI 3 := by
          have hp : p = 0 ∨ p = 1 ∨ p = 2 ∨ p = 3 := by omega
          rcases hp with e | e | e | e
          · rw [e] at p2
            exact absurd p2 c0
          · rw [e] at p2
            exact absurd c17 (a5 d hd h3 (Or.inl p2))
          · rw [e] at p2
            exact absurd c17 (a5 d hd h3 (Or.inr p2))
          · rw [e] at p2
            exact p2
        obtain ⟨g, hg⟩ := spoiledL hN (rfl : nI d = nI d) k n (i+1) f' r' K H D t' (T+1) ls' (by omega) (by omega) a3 (by omega) hd c3
        refine ⟨-1, g, r', hg, ?_⟩
        cases n with
        | zero => omega
        | succ n =>
          rw [m9_loadedIn_L32]
          by_cases c60 : (60 : Int32) < nI (i+1)
          · rw [if_pos c60]
          · rw [if_neg c60, a9_of4 (by omega), ob1_s, RG_15 a3.2.1 (by omega), c3, if_neg (by decide)]
    · rw [if_neg c17, if_neg c17, z1]
      exact ⟨nI i, f', r', rfl, rfl⟩
/-! the heat behind some ticks -/
theorem S_heatAfter {f g : bkA} {r u : Nat → Int32} {K H D t T N m : Nat} {ls : List Nat} (h : SIM f r K H D ls t T) (hm : m ≤ 100) (hT : T ≤ 900000) (hN : 300 < N) : ∃ x g' u', m8_heatAfter N f g (nI m) = some (x, g') ∧ m9_heatBehind N r u (nI m) = some (x, u') := by
  obtain ⟨c, f', u', ls', t', a1, a2, a3, a4⟩ := S_try (u := u) (N := N) (m := m) h hm hT hN
  refine ⟨f' 23 4, f', u', ?_, ?_⟩
  · unfold m8_heatAfter
    rw [a1, ob2_s]
  · unfold m9_heatBehind
    rw [a2, ob1_s, c9_0, h9_0, RG_i4 a3.2.1]
