/-! the rows 15 and 17 of a State in a tick: what the class's own words say -/
theorem rput_c {n : Nat} {g : Nat → Int32} {i v : Int32} (d : Nat) : rput n g i v d = g d ∨ (rput n g i v d = v ∧ rat n g i = g d) := by
  unfold rput rat
  by_cases h1 : i < 0
  · rw [if_pos h1]
    exact Or.inl rfl
  · rw [if_neg h1]
    by_cases h2 : nI n ≤ i
    · rw [if_pos h2]
      exact Or.inl rfl
    · rw [if_neg h2, if_neg h1, if_neg h2]
      by_cases h3 : d = i.toNatClampNeg
      · right
        subst h3
        exact ⟨pk_us, rfl⟩
      · left
        exact pk_un h3
theorem rput_2 {n : Nat} {g g' : Nat → Int32} {i v v' : Int32} (d : Nat) : (rput n g i v d = g d ∧ rput n g' i v' d = g' d) ∨ rput n g' i v' d = v' := by
  unfold rput
  by_cases h1 : i < 0
  · rw [if_pos h1, if_pos h1]
    exact Or.inl ⟨rfl, rfl⟩
  · rw [if_neg h1, if_neg h1]
    by_cases h2 : nI n ≤ i
    · rw [if_pos h2, if_pos h2]
      exact Or.inl ⟨rfl, rfl⟩
    · rw [if_neg h2, if_neg h2]
      by_cases h3 : d = i.toNatClampNeg
      · right
        subst h3
        exact pk_us
      · left
        exact ⟨pk_un h3, pk_un h3⟩
def Q1 (f f' : bkA) : Prop := f' 17 = f 17 ∧ ∀ d, f' 15 d = f 15 d ∨ f' 15 d = 3
theorem grow_q {N : Nat} : ∀ (n : Nat) (x y z : Int32) (f : bkA) (a : Int32) (f' : bkA), m7_growOlder_L9 N n x y z f = some (a, f') → Q1 f f'
  | 0, x, y, z, f, a, f', h => by
    rw [m7_growOlder_L9] at h
    cases h
  | n+1, x, y, z, f, a, f', h => by
    rw [m7_growOlder_L9] at h
    by_cases q : x ≤ z
    · rw [if_pos q] at h
      rw [← (Prod.mk.inj (Option.some.inj h)).2]
      exact ⟨rfl, fun d => Or.inl rfl⟩
    · rw [if_neg q] at h
      simp only [ltx_s] at h
      obtain ⟨b, g, e, h⟩ := lt2_e h
      have i := grow_q n _ _ _ _ _ _ h
      have s : Q1 f g := by
        split at e
        · rw [← (Prod.mk.inj e).2]
          refine ⟨?_, fun d => Or.inl ?_⟩
          · rw [ur_n (by decide), ur_n (by decide)]
          · rw [ur_n (by decide), ur_n (by decide)]
        · rw [← (Prod.mk.inj e).2]
          refine ⟨?_, fun d => ?_⟩
          · rw [ur_n (by decide), ur_n (by decide), ur_n (by decide)]
          · rw [ur_n (by decide), ur_s]
            rcases rput_c (n := 16) (g := ur f 14 (rinc 16 (f 14) (rat 16 (f 22) z) 1) 15) (i := rat 16 (f 22) z) (v := 3) d with c | c
            · rw [c, ur_n (by decide)]
              exact Or.inl rfl
            · exact Or.inr c.1
      refine ⟨i.1.trans s.1, fun d => ?_⟩
      rcases i.2 d with c | c
      · rw [c]
        exact s.2 d
      · exact Or.inr c
theorem grow_Q {N : Nat} {f f' : bkA} (h : m7_growOlder N f = some f') : Q1 f f' := by
  unfold m7_growOlder at h
  simp only [ltx_s] at h
  obtain ⟨x, g, h1, h2⟩ := ob2_e h
  have q := grow_q _ _ _ _ _ _ _ h1
  rw [← Option.some.inj h2]
  refine ⟨?_, fun d => ?_⟩
  · rw [ur_n (by decide)]
    exact q.1
  · rw [ur_n (by decide)]
    exact q.2 d
def Q2 (f f' : bkA) : Prop := f' 23 = f 23 ∧ ∀ d, (f' 15 d = f 15 d ∧ f' 17 d = f 17 d) ∨ f' 17 d = f 23 5
theorem loadl_q {N : Nat} : ∀ (n : Nat) (x y z w : Int32) (f f' : bkA), m7_load_L27 N n x y z w f = some f' → f' 15 = f 15 ∧ f' 17 = f 17 ∧ f' 23 = f 23
  | 0, x, y, z, w, f, f', h => by
    rw [m7_load_L27] at h
    cases h
  | n+1, x, y, z, w, f, f', h => by
    rw [m7_load_L27] at h
    by_cases q : 12 ≤ w
    · rw [if_pos q] at h
      rw [← Option.some.inj h]
      exact ⟨rfl, rfl, rfl⟩
    · rw [if_neg q] at h
      by_cases q2 : z ≤ 0
      · rw [if_pos q2] at h
        rw [← Option.some.inj h]
        exact ⟨rfl, rfl, rfl⟩
      · rw [if_neg q2] at h
        simp only [ltx_s, lt1_s] at h
        obtain ⟨b, g, e, h⟩ := lt2_e h
        have i := loadl_q n _ _ _ _ _ _ h
        have s : g 15 = f 15 ∧ g 17 = f 17 ∧ g 23 = f 23 := by
          split at e
          · rw [← (Prod.mk.inj e).2]
            exact ⟨rfl, rfl, rfl⟩
          · split at e
            · rw [← (Prod.mk.inj e).2]
              exact ⟨rfl, rfl, rfl⟩
            · split at e
              · rw [← (Prod.mk.inj e).2]
                exact ⟨rfl, rfl, rfl⟩
              · rw [← (Prod.mk.inj e).2]
                exact ⟨rfl, rfl, rfl⟩
        exact ⟨i.1.trans s.1, i.2.1.trans s.2.1, i.2.2.trans s.2.2⟩
theorem load_Q {N : Nat} {f f' : bkA} {a : Int32} (h : m7_load N f a = some f') : Q2 f f' := by
  unfold m7_load at h
  simp only [ltx_s] at h
  obtain ⟨g, h1, h2⟩ := ob1_e h
  have q := loadl_q _ _ _ _ _ _ _ h1
  rw [← Option.some.inj h2]
  refine ⟨?_, fun d => ?_⟩
  · rw [ur_n (by decide), ur_n (by decide)]
    exact q.2.2
  · rw [ur_n (show (15 : Nat) ≠ 17 by decide), ur_s, ur_s, ur_n (show (17 : Nat) ≠ 15 by decide), ur_n (show (23 : Nat) ≠ 15 by decide), q.1, q.2.1, q.2.2]
    exact rput_2 d
theorem Q2_trans {f g h : bkA} (a : Q2 f g) (b : Q2 g h) : Q2 f h := by
  refine ⟨b.1.trans a.1, fun d => ?_⟩
  rcases b.2 d with c | c
  · rw [c.1, c.2]
    exact a.2 d
  · rw [c, a.1]
    exact Or.inr rfl
theorem look_q {N : Nat} : ∀ (n : Nat) (x y z w : Int32) (f : bkA) (a b : Int32) (f' : bkA), m7_loadFirst_L12 N n x y z w f = some (a, b, f') → Q2 f f'
  | 0, x, y, z, w, f, a, b, f', h => by
    rw [m7_loadFirst_L12] at h
    cases h
  | n+1, x, y, z, w, f, a, b, f', h => by
    rw [m7_loadFirst_L12] at h
    by_cases q : x ≤ w
    · rw [if_pos q] at h
      rw [← (Prod.mk.inj (Prod.mk.inj (Option.some.inj h)).2).2]
      exact ⟨rfl, fun d => Or.inl ⟨rfl, rfl⟩⟩
    · rw [if_neg q] at h
      simp only [ltx_s] at h
      obtain ⟨v, _, h⟩ := ob1_e h
      obtain ⟨u1, u2, g, e, h⟩ := ob3_e h
      have i := look_q n _ _ _ _ _ _ _ _ h
      refine Q2_trans ?_ i
      split at e
      · obtain ⟨g2, e1, e2⟩ := ob1_e e
        rw [← (Prod.mk.inj (Prod.mk.inj (Option.some.inj e2)).2).2]
        exact load_Q e1
      · rw [← (Prod.mk.inj (Prod.mk.inj (Option.some.inj e)).2).2]
        exact ⟨rfl, fun d => Or.inl ⟨rfl, rfl⟩⟩
theorem look_Q {N : Nat} {f f' : bkA} {a : Int32} (h : m7_loadFirst N f = some (a, f')) : ∀ d, (f' 15 d = f 15 d ∧ f' 17 d = f 17 d) ∨ f' 17 d = f 23 5 := by
  unfold m7_loadFirst at h
  simp only [ltx_s] at h
  obtain ⟨x, y, g, h1, h2⟩ := ob3_e h
  have q := look_q _ _ _ _ _ _ _ _ _ h1
  rw [← (Prod.mk.inj (Option.some.inj h2)).2]
  intro d
  rw [ur_n (show (15 : Nat) ≠ 23 by decide), ur_n (show (17 : Nat) ≠ 23 by decide)]
  exact q.2 d
theorem heatl_q {N : Nat} : ∀ (n : Nat) (x : Int32) (f f' : bkA), m7_heatLoaves_L2 N n x f = some f' → f' 17 = f 17
  | 0, x, f, f', h => by
    rw [m7_heatLoaves_L2] at h
    cases h
  | n+1, x, f, f', h => by
    rw [m7_heatLoaves_L2] at h
    by_cases q : 12 ≤ x
    · rw [if_pos q] at h
      rw [← Option.some.inj h]
    · rw [if_neg q] at h
      simp only [ltx_s, lt1_s] at h
      have i := heatl_q n _ _ _ h
      rw [i]
      split
      · rw [ur_n (by decide)]
        split
        · split
          · rfl
          · rfl
        · rw [ur_n (by decide)]
          split
          · rfl
          · rfl
      · rfl
theorem heat_Q {N : Nat} {f f' : bkA} (h : m7_heatLoaves N f = some f') : f' 17 = f 17 := by
  unfold m7_heatLoaves at h
  obtain ⟨g, h1, h2⟩ := ob1_e h
  rw [← Option.some.inj h2]
  exact heatl_q _ _ _ _ h1
theorem outl_q {N : Nat} : ∀ (n : Nat) (x y z : Int32) (f : bkA) (a : Int32) (f' : bkA), m7_takeOut_L4 N n x y z f = some (a, f') → f' 15 = f 15 ∧ f' 17 = f 17
  | 0, x, y, z, f, a, f', h => by
    rw [m7_takeOut_L4] at h
    cases h
  | n+1, x, y, z, f, a, f', h => by
    rw [m7_takeOut_L4] at h
    by_cases q : 12 ≤ z
    · rw [if_pos q] at h
      rw [← (Prod.mk.inj (Option.some.inj h)).2]
      exact ⟨rfl, rfl⟩
    · rw [if_neg q] at h
      simp only [ltx_s, lt1_s] at h
      obtain ⟨b, g, e, h⟩ := lt2_e h
      have i := outl_q n _ _ _ _ _ _ h
      have s : g 15 = f 15 ∧ g 17 = f 17 := by
        split at e
        · rw [← (Prod.mk.inj e).2]
          exact ⟨rfl, rfl⟩
        · rw [← (Prod.mk.inj e).2]
          exact ⟨rfl, rfl⟩
      exact ⟨i.1.trans s.1, i.2.trans s.2⟩
theorem out_Q {N : Nat} {f f' : bkA} {a : Int32} (h : m7_takeOut N f a = some f') : f' 17 = f 17 ∧ f' 15 = rput 16 (f 15) a 2 := by
  unfold m7_takeOut at h
  simp only [ltx_s] at h
  obtain ⟨x, g, h1, h2⟩ := ob2_e h
  have q := outl_q _ _ _ _ _ _ _ h1
  rw [← Option.some.inj h2]
  refine ⟨q.2, ?_⟩
  rw [← q.1]
  rfl
theorem outd_q {N : Nat} : ∀ (n : Nat) (x y : Int32) (f : bkA) (a : Int32) (f' : bkA), m7_takeOutDone_L4 N n x y f = some (a, f') → f' 17 = f 17 ∧ ∀ d, f' 15 d = f 15 d ∨ f 15 d = 1
  | 0, x, y, f, a, f', h => by
    rw [m7_takeOutDone_L4] at h
    cases h
  | n+1, x, y, f, a, f', h => by
    rw [m7_takeOutDone_L4] at h
    by_cases q : f 23 2 ≤ y
    · rw [if_pos q] at h
      rw [← (Prod.mk.inj (Option.some.inj h)).2]
      exact ⟨rfl, fun d => Or.inl rfl⟩
    · rw [if_neg q] at h
      obtain ⟨b, g, e, h⟩ := ob2_e h
      simp only [ltx_s] at h
      have i := outd_q n _ _ _ _ _ h
      have s : g 17 = f 17 ∧ ∀ d, g 15 d = f 15 d ∨ f 15 d = 1 := by
        by_cases c1 : rat 16 (f 15) y = 1
        · rw [if_pos c1] at e
          obtain ⟨v, _, e⟩ := ob1_e e
          by_cases c2 : v = 0
          · rw [if_pos c2] at e
            rw [← (Prod.mk.inj (Option.some.inj e)).2]
            exact ⟨rfl, fun d => Or.inl rfl⟩
          · rw [if_neg c2] at e
            obtain ⟨g2, e1, e2⟩ := ob1_e e
            simp only [ltx_s] at e2
            rw [← (Prod.mk.inj (Option.some.inj e2)).2]
            have o := out_Q e1
            refine ⟨o.1, fun d => ?_⟩
            rw [o.2]
            rcases rput_c (n := 16) (g := f 15) (i := y) (v := 2) d with c | c
            · exact Or.inl c
            · exact Or.inr (by rw [← c.2]; exact c1)
        · rw [if_neg c1] at e
          rw [← (Prod.mk.inj (Option.some.inj e)).2]
          exact ⟨rfl, fun d => Or.inl rfl⟩
      refine ⟨i.1.trans s.1, fun d => ?_⟩
      rcases s.2 d with c | c
      · rcases i.2 d with c2 | c2
        · exact Or.inl (c2.trans c)
        · exact Or.inr (by rw [← c]; exact c2)
      · exact Or.inr c
theorem outd_Q {N : Nat} {f f' : bkA} {a : Int32} (h : m7_takeOutDone N f = some (a, f')) : f' 17 = f 17 ∧ ∀ d, f' 15 d = f 15 d ∨ f 15 d = 1 := by
  unfold m7_takeOutDone at h
  obtain ⟨x, g, h1, h2⟩ := ob2_e h
  rw [← (Prod.mk.inj (Option.some.inj h2)).2]
  exact outd_q _ _ _ _ _ _ h1
/-- one tick: a dough that waited and is in the oven, or done, behind it was loaded in it -/
theorem pass1' {f : bkA} {r : Nat → Int32} {K H D t T N : Nat} {ls : List Nat} (h : SIM f r K H D ls t T) (hT : T ≤ 900000) (hN : 200 < N) : ∃ c f' r' ls' t', m7_passTicks N f 1 = some (c, f') ∧ m9_tick N r = some (c, r') ∧ SIM f' r' K H D ls' t' (T + 1) ∧ PH f f' D ∧ (∀ d, d < D → f 15 d = nI 0 → f' 15 d = nI 1 ∨ f' 15 d = nI 2 → ¬ f' 17 d = iM) := by
  obtain ⟨f1, lo, f3, f4, c, f5, r', ls2, t2, a1, a2, a3, a4, a5, a6, a7, a8, a9⟩ := S_tick (N := N) h (by omega) (by omega)
  have q : ∀ n, m7_passTicks_L4 N (n+2) 1 0 0 f = some (nI c, wr (m7_coolDown f5 (nI lo) (nI c)) 23 5 (m7_coolDown f5 (nI lo) (nI c) 23 5 + 1)) := by
    intro n
    rw [m7_passTicks_L4, if_neg (show ¬ (1 : Int32) ≤ 0 by decide), a1, ob1_s, a2, ob2_s, a3, ob1_s, a4, ob2_s]
    simp only [lt1_s, ltx_s, wr_u]
    rw [m7_passTicks_L4, if_pos (show (1 : Int32) ≤ 0 + 1 by decide), Int32.zero_add]
  have q1 := q (N - 2)
  have e : N - 2 + 2 = N := by omega
  rw [e] at q1
  have hT1 : f1 23 5 = nI T := by
    obtain ⟨f1', r1', ls1', b1, b2, b3, _⟩ := S_age (N := N) h (by omega)
    rw [a1] at b1
    cases b1
    exact b3.1.1.2.2.2.2.2.1
  have x1 := grow_Q a1
  have x2 := look_Q a2
  have x3 := heat_Q a3
  have x4 := outd_Q a4
  have x5 : f4 15 = f3 15 := by
    obtain ⟨f1', r1', ls1', b1, b2, b3, _⟩ := S_age (N := N) h (by omega)
    rw [a1] at b1
    cases b1
    obtain ⟨f3', r2', ls2', lo', d1, d2, d3, d4, d5, d6, d7, d8, d9, d10, d11⟩ := S_look (N := N) b3 (by omega)
    rw [a2] at d1
    have d1' := Prod.mk.inj (Option.some.inj d1)
    rw [← d1'.2] at d3 d4 d7
    obtain ⟨u, lb, a, n1, n2, n3, n4, n5, n6⟩ := b3.1.2.2.2.2.2
    obtain ⟨f4', r3', e1, e2, e3, e4, e5, e6, e7, e8⟩ := S_warm (N := N) (s := 12 * T) d3 d4 d5 (by rw [d7]; exact n5) n6 (by omega)
    rw [a3] at e1
    cases e1
    exact e8
  have hc17 : m7_coolDown f5 (nI lo) (nI c) 17 = f5 17 := by
    unfold m7_coolDown
    simp only [lt1_s, ltx_s]
    rw [ur_n (by decide), ur_n (by decide)]
  refine ⟨nI c, wr (m7_coolDown f5 (nI lo) (nI c)) 23 5 (m7_coolDown f5 (nI lo) (nI c) 23 5 + 1), r', ls2, t2, ?_, a5, a6, ⟨?_, ?_⟩, ?_⟩
  · unfold m7_passTicks
    rw [q1, ob2_s]
  · intro e he q
    rw [wr_n (by decide), a9]
    exact a7 e he q
  · intro e he q
    rw [wr_n (by decide), a9]
    exact a8 e he q
  · intro d hd h0 h12
    rw [wr_n (by decide), a9] at h12
    rw [wr_n (by decide), hc17, x4.1, x3]
    have hT31 : T < 2^31 := by omega
    rcases x2 d with y | y
    · exfalso
      have z : f3 15 d = nI 0 ∨ f3 15 d = nI 3 := by
        rw [y.1]
        rcases x1.2 d with w | w
        · rw [w]
          exact Or.inl h0
        · exact Or.inr w
      rw [← x5] at z
      rcases x4.2 d with w | w
      · rw [w] at h12
        rcases z with z | z <;> rw [z] at h12 <;> revert h12 <;> decide
      · rcases z with z | z <;> rw [z] at w <;> revert w <;> decide
    · rw [y, hT1]
      exact nI_ne_iM hT31
