/-! p29: something is done, chosen by a number; or it can't be done, and nothing is -/
def GN (f1 : bkA) (K H T : Nat) (σ : Int32) : Prop := ∃ K' H' T', K ≤ K' ∧ H ≤ H' ∧ T' ≤ T + 9 ∧ GS f1 K' H' T' σ
theorem GN_of {f1 : bkA} {K H T K' H' T' : Nat} {σ : Int32} (h : GS f1 K' H' T' σ) (h1 : K ≤ K') (h2 : H ≤ H') (h3 : T' ≤ T + 9) : GN f1 K H T σ := ⟨K', H', T', h1, h2, h3, h⟩
/-- it can't be done, or it is done *)-/
def AR9 (N : Nat) (f c : bkA) (v : Int32) (K H T : Nat) (σ : Int32) : Prop := (∀ y o, mL_act N f c y o v = some (0, f, y, o)) ∨ ∃ f1, GN f1 K H T σ ∧ ∀ y o y' o', m2_save f y o = some (y', o') → mL_act N f c y o v = some (1, f1, y', o')
theorem act_ok {f c : bkA} {r : Nat → Int32} {K H D t T N : Nat} {σ : Int32} {ls : List Nat} (h : SIM f r K H D ls t T) (hx : IX9 f K D T σ) (hK1 : 1 ≤ K) (hH1 : 1 ≤ H) (hT : T ≤ 80000) (hN : 200 < N) (v : Int32) : ∃ u S, f 23 6 = nI u ∧ m7_useOfAll N f = some (nI S) ∧ S < 2^28 ∧ AR9 N f c v K H T (if v &&& 15 = 12 then σ + (if S = 0 then 0 else nI u) else σ) := by
  obtain ⟨xs, fs, u, S, su, sU, sS, sG, sA⟩ := c_settle (N := N) h hx (by omega) (by omega)
  refine ⟨u, S, su, sU, sS, ?_⟩
  obtain ⟨σ', eσ⟩ : ∃ σ', σ' = if v &&& 15 = 12 then σ + (if S = 0 then 0 else nI u) else σ := ⟨_, rfl⟩
  rw [← eσ]
  have hK : K ≤ 5 := h.1.1.2.2.2.2.2.2.1
  have hH : H ≤ 8 := h.1.1.2.2.2.2.2.2.2.1
  have hD : D ≤ 16 := h.1.1.2.2.2.2.2.2.2.2.1
  have hle := IV_len h.1
  obtain ⟨hs, hs1, hs2⟩ := low_ok (v >>> (4 &&& 31)) (n := H) (by omega) (by omega)
  obtain ⟨lg, lg1, lg2⟩ := low_ok (v >>> (8 &&& 31)) (n := 14) (by decide) (by decide)
  have lg2' : mL_low (v >>> (8 &&& 31)) 14 = some (nI lg) := lg2
  have elg : 1 + nI lg = nI (lg + 1) := by rw [Int32.add_comm, nI_1]
  -- the head of the method
  have head : ∀ y o, mL_act N f c y o v = ((
      if (v &&& 15) = 0 then
        if nI K = 5 then some (0, f, y, o)
        else
          ob1 (mL_low (v >>> (4 &&& 31)) 200) fun x13 =>
          ob1 (mL_low (v >>> (12 &&& 31)) 150) fun x15 =>
          ob1 (mL_low (v >>> (20 &&& 31)) 6) fun x17 =>
          ob1 (mL_low (v >>> (16 &&& 31)) 4) fun x19 =>
          ob1 (mL_low (v >>> (23 &&& 31)) 20) fun x21 =>
          ob4 (m8_addKind f y o (50 + x13) (250 + x15) (1 + x17) x19 (1 + x21)) fun _ f24 y25 o26 =>
          some (1, f24, y25, o26)
      else if (v &&& 15) = 1 then
        if nI H = 8 then some (0, f, y, o)
        else
          ob4 (m8_addHouse f y o) fun _ f30 y31 o32 =>
          some (1, f30, y31, o32)
      else if (v &&& 15) = 2 ∨ (v &&& 15) = 3 ∨ (v &&& 15) = 4 ∨ (v &&& 15) = 5 then
        if nI D = 16 then some (0, f, y, o)
        else
          ob1 (mL_low (v >>> (8 &&& 31)) (nI K)) fun x37 =>
          ob1 (mL_low (v >>> (12 &&& 31)) 4) fun x39 =>
          ob4 (m8_addDough f y o (nI hs) x37 (1 + x39)) fun _ f42 y43 o44 =>
          some (1, f42, y43, o44)
      else if (v &&& 15) = 6 then
        ob4 (m8_clearDoughs N f y o) fun _ f83 y84 o85 =>
        some (1, f83, y84, o85)
      else if (v &&& 15) = 7 then
        if 2 ≤ nI ls.length then
          ob1 (m8_line f 0) fun x88 =>
          ob1 (mL_low (v >>> (4 &&& 31)) (nI ls.length - 1)) fun x90 =>
          ob1 (m8_line f (1 + x90)) fun x92 =>
          ob4 (m8_swap N f y o x88 x92) fun _ f95 y96 o97 =>
          some (1, f95, y96, o97)
        else some (0, f, y, o)
      else if (v &&& 15) = 8 then
        ob1 (m8_house N f (nI hs) 0) fun x99 =>
        if (x99 + nI (lg + 1)) ≤ 999 then
          ob4 (m8_bring f y o (nI hs) (nI (lg + 1))) fun _ f103 y104 o105 =>
          some (1, f103, y104, o105)
        else some (0, f, y, o)
      else if (v &&& 15) = 9 ∨ (v &&& 15) = 10 ∨ (v &&& 15) = 11 then
        ob1 (m8_house N f (nI hs) 0) fun x107 =>
        if (x107 - nI (lg + 1)) < (-20) then some (0, f, y, o)
        else
          ob1 (m8_whole N f c 3) fun x110 =>
          if (x110 + (25 * nI (lg + 1))) ≤ 400 then
            ob4 (m8_stoke f y o (nI hs) (nI (lg + 1))) fun _ f114 y115 o116 =>
            some (1, f114, y115, o116)
          else some (0, f, y, o)
      else if (v &&& 15) = 12 then
        ob4 (m8_settle N f y o) fun _ f141 y142 o143 =>
        some (1, f141, y142, o143)
      else
        ob1 (mL_low (v >>> (4 &&& 31)) 9) fun x145 =>
        ob4 (m8_pass N f y o (1 + x145)) fun _ f148 y149 o150 =>
        some ((1 : Int32), f148, y149, o150)) : Option (Int32 × bkA × (Nat → bkA) × (Nat → Int32))) := by
    intro y o
    unfold mL_act
    rw [w_1, h.1.1.2.1, ob1_s, w_0, h.1.1.1, ob1_s, hs2, ob1_s, lg2', ob1_s, elg, ltx_s, w_5, h.1.1.2.2.2.1, ob1_s, w_2, h.1.1.2.2.1]
    by_cases k0 : v &&& 15 = 0
    · simp only [k0, if_true]
    by_cases k1 : v &&& 15 = 1
    · simp only [k1, if_neg (show ¬ (1 : Int32) = 0 by decide), if_true]
    by_cases k2 : v &&& 15 = 2
    · simp only [k2, if_neg (show ¬ (2 : Int32) = 0 by decide), if_neg (show ¬ (2 : Int32) = 1 by decide), if_true, true_or, ob1_s]
    by_cases k3 : v &&& 15 = 3
    · simp only [k3, if_neg (show ¬ (3 : Int32) = 0 by decide), if_neg (show ¬ (3 : Int32) = 1 by decide), if_neg (show ¬ (3 : Int32) = 2 by decide), true_or, or_true, if_true, ob1_s]
    by_cases k4 : v &&& 15 = 4
    · simp only [k4, if_neg (show ¬ (4 : Int32) = 0 by decide), if_neg (show ¬ (4 : Int32) = 1 by decide), if_neg (show ¬ (4 : Int32) = 2 by decide), if_neg (show ¬ (4 : Int32) = 3 by decide), true_or, or_true, if_true, ob1_s]
    by_cases k5 : v &&& 15 = 5
    · simp only [k5, if_neg (show ¬ (5 : Int32) = 0 by decide), if_neg (show ¬ (5 : Int32) = 1 by decide), if_neg (show ¬ (5 : Int32) = 2 by decide), if_neg (show ¬ (5 : Int32) = 3 by decide), if_neg (show ¬ (5 : Int32) = 4 by decide), true_or, or_true, if_true, ob1_s]
    have k25 : ¬ (v &&& 15 = 2 ∨ v &&& 15 = 3 ∨ v &&& 15 = 4 ∨ v &&& 15 = 5) := fun z => by
      rcases z with z | z | z | z
      · exact k2 z
      · exact k3 z
      · exact k4 z
      · exact k5 z
    by_cases k6 : v &&& 15 = 6
    · simp only [if_neg k0, if_neg k1, if_neg k2, if_neg k3, if_neg k4, if_neg k5, if_neg k25, if_pos k6]
    by_cases k7 : v &&& 15 = 7
    · simp only [if_neg k0, if_neg k1, if_neg k2, if_neg k3, if_neg k4, if_neg k5, if_neg k25, if_neg k6, if_pos k7]
    by_cases k8 : v &&& 15 = 8
    · simp only [if_neg k0, if_neg k1, if_neg k2, if_neg k3, if_neg k4, if_neg k5, if_neg k25, if_neg k6, if_neg k7, if_pos k8]
    by_cases k9 : v &&& 15 = 9
    · simp only [if_neg k0, if_neg k1, if_neg k2, if_neg k3, if_neg k4, if_neg k5, if_neg k25, if_neg k6, if_neg k7, if_neg k8, if_pos k9, if_pos (show v &&& 15 = 9 ∨ v &&& 15 = 10 ∨ v &&& 15 = 11 from Or.inl k9)]
    by_cases k10 : v &&& 15 = 10
    · simp only [if_neg k0, if_neg k1, if_neg k2, if_neg k3, if_neg k4, if_neg k5, if_neg k25, if_neg k6, if_neg k7, if_neg k8, if_neg k9, if_pos k10, if_pos (show v &&& 15 = 9 ∨ v &&& 15 = 10 ∨ v &&& 15 = 11 from Or.inr (Or.inl k10))]
    by_cases k11 : v &&& 15 = 11
    · simp only [if_neg k0, if_neg k1, if_neg k2, if_neg k3, if_neg k4, if_neg k5, if_neg k25, if_neg k6, if_neg k7, if_neg k8, if_neg k9, if_neg k10, if_pos k11, if_pos (show v &&& 15 = 9 ∨ v &&& 15 = 10 ∨ v &&& 15 = 11 from Or.inr (Or.inr k11))]
    have k911 : ¬ (v &&& 15 = 9 ∨ v &&& 15 = 10 ∨ v &&& 15 = 11) := fun z => by
      rcases z with z | z | z
      · exact k9 z
      · exact k10 z
      · exact k11 z
    by_cases k12 : v &&& 15 = 12
    · simp only [if_neg k0, if_neg k1, if_neg k2, if_neg k3, if_neg k4, if_neg k5, if_neg k25, if_neg k6, if_neg k7, if_neg k8, if_neg k9, if_neg k10, if_neg k11, if_neg k911, if_pos k12]
    · simp only [if_neg k0, if_neg k1, if_neg k2, if_neg k3, if_neg k4, if_neg k5, if_neg k25, if_neg k6, if_neg k7, if_neg k8, if_neg k9, if_neg k10, if_neg k11, if_neg k911, if_neg k12]
  by_cases k12 : v &&& 15 = 12
  · rw [if_pos k12] at eσ
    refine Or.inr ⟨fs, GN_of (by rw [eσ]; exact sG) (Nat.le_refl _) (Nat.le_refl _) (by omega), ?_⟩
    intro y o y' o' hsv
    rw [head]
    simp only [k12, if_neg (show ¬ (12 : Int32) = 0 by decide), if_neg (show ¬ (12 : Int32) = 1 by decide), if_neg (show ¬ ((12 : Int32) = 2 ∨ (12 : Int32) = 3 ∨ (12 : Int32) = 4 ∨ (12 : Int32) = 5) by decide), if_neg (show ¬ (12 : Int32) = 6 by decide), if_neg (show ¬ (12 : Int32) = 7 by decide), if_neg (show ¬ (12 : Int32) = 8 by decide), if_neg (show ¬ ((12 : Int32) = 9 ∨ (12 : Int32) = 10 ∨ (12 : Int32) = 11) by decide), if_true]
    rw [sA y o y' o' hsv, ob4_s]
  rw [if_neg k12] at eσ
  subst eσ
  by_cases k0 : v &&& 15 = 0
  · by_cases e : K = 5
    · left
      intro y o
      rw [head]
      simp only [k0, if_true]
      rw [if_pos (show nI K = 5 by rw [e]; rfl)]
    · right
      obtain ⟨n1, n1a, n1b⟩ := low_ok (v >>> (4 &&& 31)) (n := 200) (by decide) (by decide)
      obtain ⟨n2, n2a, n2b⟩ := low_ok (v >>> (12 &&& 31)) (n := 150) (by decide) (by decide)
      obtain ⟨n3, n3a, n3b⟩ := low_ok (v >>> (20 &&& 31)) (n := 6) (by decide) (by decide)
      obtain ⟨n4, n4a, n4b⟩ := low_ok (v >>> (16 &&& 31)) (n := 4) (by decide) (by decide)
      obtain ⟨n5, n5a, n5b⟩ := low_ok (v >>> (23 &&& 31)) (n := 20) (by decide) (by decide)
      obtain ⟨x, f1, G, A⟩ := c_addKind h hx (b1 := 50 + n1) (b2 := 250 + n2) (b3 := 1 + n3) (b4 := n4) (b5 := 1 + n5) (by omega) (by omega) (by omega) (by omega) (by omega) (by omega) (by omega) (by omega) (by omega) (by omega)
      refine ⟨f1, GN_of G (by omega) (Nat.le_refl _) (by omega), ?_⟩
      intro y o y' o' hsv
      rw [head]
      simp only [k0, if_true]
      rw [if_neg (show ¬ nI K = 5 from fun z => e ((nI_eq (b := 5) (by omega) (by decide)).mp z)), show mL_low (v >>> (4 &&& 31)) 200 = _ from n1b, ob1_s, show mL_low (v >>> (12 &&& 31)) 150 = _ from n2b, ob1_s, show mL_low (v >>> (20 &&& 31)) 6 = _ from n3b, ob1_s, show mL_low (v >>> (16 &&& 31)) 4 = _ from n4b, ob1_s, show mL_low (v >>> (23 &&& 31)) 20 = _ from n5b, ob1_s, show (50 : Int32) + nI n1 = nI (50 + n1) from nI_add 50 n1, show (250 : Int32) + nI n2 = nI (250 + n2) from nI_add 250 n2, show (1 : Int32) + nI n3 = nI (1 + n3) from nI_add 1 n3, show (1 : Int32) + nI n5 = nI (1 + n5) from nI_add 1 n5, A y o y' o' hsv, ob4_s]
  by_cases k1 : v &&& 15 = 1
  · by_cases e : H = 8
    · left
      intro y o
      rw [head]
      simp only [k1, if_neg (show ¬ (1 : Int32) = 0 by decide), if_true]
      rw [if_pos (show nI H = 8 by rw [e]; rfl)]
    · right
      obtain ⟨x, f1, G, A⟩ := c_addHouse h hx (by omega)
      refine ⟨f1, GN_of G (Nat.le_refl _) (by omega) (by omega), ?_⟩
      intro y o y' o' hsv
      rw [head]
      simp only [k1, if_neg (show ¬ (1 : Int32) = 0 by decide), if_true]
      rw [if_neg (show ¬ nI H = 8 from fun z => e ((nI_eq (b := 8) (by omega) (by decide)).mp z)), A y o y' o' hsv, ob4_s]
  by_cases k25 : v &&& 15 = 2 ∨ v &&& 15 = 3 ∨ v &&& 15 = 4 ∨ v &&& 15 = 5
  · by_cases e : D = 16
    · left
      intro y o
      rw [head]
      simp only [if_neg k0, if_neg k1, if_pos k25]
      rw [if_pos (show nI D = 16 by rw [e]; rfl)]
    · right
      obtain ⟨n1, n1a, n1b⟩ := low_ok (v >>> (8 &&& 31)) (n := K) (by omega) (by omega)
      obtain ⟨n2, n2a, n2b⟩ := low_ok (v >>> (12 &&& 31)) (n := 4) (by decide) (by decide)
      obtain ⟨x, f1, G, A⟩ := c_addDough h hx (b1 := hs) (b2 := n1) (b3 := 1 + n2) hs1 n1a (by omega) (by omega) (by omega)
      refine ⟨f1, GN_of G (Nat.le_refl _) (Nat.le_refl _) (by omega), ?_⟩
      intro y o y' o' hsv
      rw [head]
      simp only [if_neg k0, if_neg k1, if_pos k25]
      rw [if_neg (show ¬ nI D = 16 from fun z => e ((nI_eq (b := 16) (by omega) (by decide)).mp z)), n1b, ob1_s, show mL_low (v >>> (12 &&& 31)) 4 = _ from n2b, ob1_s, show (1 : Int32) + nI n2 = nI (1 + n2) from nI_add 1 n2, A y o y' o' hsv, ob4_s]
  by_cases k6 : v &&& 15 = 6
  · right
    obtain ⟨x, f1, G, A⟩ := c_clear (N := N) h hx (by omega)
    refine ⟨f1, GN_of G (Nat.le_refl _) (Nat.le_refl _) (by omega), ?_⟩
    intro y o y' o' hsv
    rw [head]
    simp only [if_neg k0, if_neg k1, if_neg k25, if_pos k6]
    rw [A y o y' o' hsv, ob4_s]
  by_cases k7 : v &&& 15 = 7
  · by_cases e : 2 ≤ ls.length
    · right
      obtain ⟨n1, n1a, n1b⟩ := low_ok (v >>> (4 &&& 31)) (n := ls.length - 1) (by omega) (by omega)
      obtain ⟨p0, d0, s0, e0, z0'⟩ := split_at (show 0 < ls.length by omega)
      obtain ⟨p1, d1, s1, e1, z1'⟩ := split_at (show 1 + n1 < ls.length by omega)
      have ne : d0 ≠ d1 := by
        intro q
        have hn := h.1.2.2.1.2.1
        have p0n : p0 = [] := List.length_eq_zero_iff.mp z0'
        rw [p0n] at e0
        have hn1 := hn
        rw [e1] at hn1
        have m := ND_mid hn1
        have hm : d0 ∈ p1 := by
          cases p1 with
          | nil => 
            have z : (0 : Nat) = 1 + n1 := z1'
            omega
          | cons w ws =>
            rw [e1] at e0
            have := (List.cons.inj (show w :: (ws ++ d1 :: s1) = d0 :: s0 from e0)).1
            rw [this]
            exact List.mem_cons_self
        rw [q] at hm
        exact m.2.1 hm
      have l0 : m8_line f 0 = some (nI d0) := by
        have q := h
        rw [e0] at q
        have w := li_at q
        rw [z0'] at w
        exact w
      have l1 : m8_line f (nI (1 + n1)) = some (nI d1) := by
        have q := h
        rw [e1] at q
        have w := li_at q
        rw [z1'] at w
        exact w
      have m0 : d0 ∈ ls := by
        rw [e0]
        exact mem_mid.mpr (Or.inl rfl)
      have m1 : d1 ∈ ls := by
        rw [e1]
        exact mem_mid.mpr (Or.inl rfl)
      obtain ⟨x, f1, G, A⟩ := c_swap (N := N) h hx m0 m1 ne (by omega)
      refine ⟨f1, GN_of G (Nat.le_refl _) (Nat.le_refl _) (by omega), ?_⟩
      intro y o y' o' hsv
      rw [head]
      simp only [if_neg k0, if_neg k1, if_neg k25, if_neg k6, if_pos k7]
      rw [if_pos (show (2 : Int32) ≤ nI ls.length from nI_le (a := 2) e (by omega)), l0, ob1_s, show nI ls.length - 1 = nI (ls.length - 1) from pk_sub (a := ls.length) (b := 1) (by omega), n1b, ob1_s, show (1 : Int32) + nI n1 = nI (1 + n1) from nI_add 1 n1, l1, ob1_s, A y o y' o' hsv, ob4_s]
    · left
      intro y o
      rw [head]
      simp only [if_neg k0, if_neg k1, if_neg k25, if_neg k6, if_pos k7]
      rw [if_neg (show ¬ (2 : Int32) ≤ nI ls.length from nI_ge (b := 2) (by omega) (by decide))]
  by_cases k8 : v &&& 15 = 8
  · by_cases e : f 5 hs + nI (lg + 1) ≤ 999
    · right
      obtain ⟨x, f1, G, A⟩ := c_bring h hx (b1 := hs) (b2 := lg + 1) hs1 (by omega) (by omega) e
      refine ⟨f1, GN_of G (Nat.le_refl _) (Nat.le_refl _) (by omega), ?_⟩
      intro y o y' o' hsv
      rw [head]
      simp only [if_neg k0, if_neg k1, if_neg k25, if_neg k6, if_neg k7, if_pos k8]
      rw [h_0 h hs1, ob1_s, if_pos e, A y o y' o' hsv, ob4_s]
    · left
      intro y o
      rw [head]
      simp only [if_neg k0, if_neg k1, if_neg k25, if_neg k6, if_neg k7, if_pos k8]
      rw [h_0 h hs1, ob1_s, if_neg e]
  by_cases k911 : v &&& 15 = 9 ∨ v &&& 15 = 10 ∨ v &&& 15 = 11
  · by_cases e : f 5 hs - nI (lg + 1) < -20
    · left
      intro y o
      rw [head]
      simp only [if_neg k0, if_neg k1, if_neg k25, if_neg k6, if_neg k7, if_neg k8, if_pos k911]
      rw [h_0 h hs1, ob1_s, if_pos e]
    · by_cases e2 : f 23 4 + 25 * nI (lg + 1) ≤ 400
      · right
        obtain ⟨x, f1, G, A⟩ := c_stoke h hx (b1 := hs) (b2 := lg + 1) hs1 (by omega) (by omega) e e2
        refine ⟨f1, GN_of G (Nat.le_refl _) (Nat.le_refl _) (by omega), ?_⟩
        intro y o y' o' hsv
        rw [head]
        simp only [if_neg k0, if_neg k1, if_neg k25, if_neg k6, if_neg k7, if_neg k8, if_pos k911]
        rw [h_0 h hs1, ob1_s, if_neg e, w_3, ob1_s, if_pos e2, A y o y' o' hsv, ob4_s]
      · left
        intro y o
        rw [head]
        simp only [if_neg k0, if_neg k1, if_neg k25, if_neg k6, if_neg k7, if_neg k8, if_pos k911]
        rw [h_0 h hs1, ob1_s, if_neg e, w_3, ob1_s, if_neg e2]
  right
  obtain ⟨n1, n1a, n1b⟩ := low_ok (v >>> (4 &&& 31)) (n := 9) (by decide) (by decide)
  obtain ⟨x, f1, G, A⟩ := c_pass (N := N) h hx (m := 1 + n1) (by omega) (by omega) (by omega) hN
  refine ⟨f1, GN_of G (Nat.le_refl _) (Nat.le_refl _) (by omega), ?_⟩
  intro y o y' o' hsv
  rw [head]
  simp only [if_neg k0, if_neg k1, if_neg k25, if_neg k6, if_neg k7, if_neg k8, if_neg k911, if_neg k12]
  rw [show mL_low (v >>> (4 &&& 31)) 9 = _ from n1b, ob1_s, show (1 : Int32) + nI n1 = nI (1 + n1) from nI_add 1 n1, A y o y' o' hsv, ob4_s]
