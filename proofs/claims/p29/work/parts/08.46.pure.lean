/-! p29: ticks one after another; what if -/
def stp (N : Nat) (f : bkA) : bkA := match m7_passTicks N f 1 with
  | some (_, g) => g
  | none => f
def its (N : Nat) (f : bkA) : Nat → bkA
  | 0 => f
  | n+1 => stp N (its N f n)
theorem stp_ok {f : bkA} {r : Nat → Int32} {K H D t T N : Nat} {σ : Int32} {ls : List Nat} (h : SIM f r K H D ls t T) (hx : IX9 f K D T σ) (hT : T ≤ 900000) (hN : 200 < N) : ∃ c r' ls' t', m7_passTicks N f 1 = some (nI c, stp N f) ∧ SIM (stp N f) r' K H D ls' t' (T+1) ∧ IX9 (stp N f) K D (T+1) σ ∧ PH f (stp N f) D ∧ t' ≤ t ∧ ∀ (n : Nat) (x : Int32) (i m : Nat), i < m → m < 1000 → m7_passTicks_L4 N (n+1) (nI m) x (nI i) f = m7_passTicks_L4 N n (nI m) (x + nI c) (nI (i+1)) (stp N f) := by
  obtain ⟨f1, lo, f3, f4, c, f5, r', ls', t', a1, a2, a3, a4, S, X, P, tl⟩ := X_tick (N := N) h hx (by omega) (by omega)
  obtain ⟨F, eF⟩ : ∃ F, F = wr (m7_coolDown f5 (nI lo) (nI c)) 23 5 (m7_coolDown f5 (nI lo) (nI c) 23 5 + 1) := ⟨_, rfl⟩
  rw [← eF] at S X P
  have key : ∀ (n : Nat) (x : Int32) (i m : Nat), i < m → m < 1000 → m7_passTicks_L4 N (n+1) (nI m) x (nI i) f = m7_passTicks_L4 N n (nI m) (x + nI c) (nI (i+1)) F := by
    intro n x i m him hm
    rw [m7_passTicks_L4, if_neg (nI_ge him (by omega)), a1, ob1_s, a2, ob2_s, a3, ob1_s, a4, ob2_s]
    simp only [lt1_s, ltx_s, wr_u, nI_1]
    rw [eF]
  have q : ∀ n, m7_passTicks_L4 N (n+2) 1 0 0 f = some (nI c, F) := by
    intro n
    have q1 := key (n+1) 0 0 1 (by decide) (by decide)
    have q2 : m7_passTicks_L4 N (n+2) 1 0 0 f = m7_passTicks_L4 N (n+1) (nI 1) (0 + nI c) (nI 1) F := q1
    rw [q2, m7_passTicks_L4, if_pos (Int32.le_refl _), Int32.zero_add]
  have one : m7_passTicks N f 1 = some (nI c, F) := by
    have q1 := q (N - 2)
    have e : N - 2 + 2 = N := by omega
    rw [e] at q1
    unfold m7_passTicks
    rw [q1, ob2_s]
  have es : stp N f = F := by
    unfold stp
    rw [one]
  rw [es]
  exact ⟨c, r', ls', t', one, S, X, P, tl, key⟩
theorem its_ok {f : bkA} {r : Nat → Int32} {K H D t T N : Nat} {σ : Int32} {ls : List Nat} (h : SIM f r K H D ls t T) (hx : IX9 f K D T σ) (hN : 200 < N) : ∀ n, T + n ≤ 900000 → ∃ r' ls' t', SIM (its N f n) r' K H D ls' t' (T+n) ∧ IX9 (its N f n) K D (T+n) σ ∧ PH f (its N f n) D ∧ t' ≤ t
  | 0, _ => ⟨r, ls, t, h, hx, PH_refl, Nat.le_refl _⟩
  | n+1, hn => by
    obtain ⟨r', ls', t', a1, a2, a3, a4⟩ := its_ok h hx hN n (by omega)
    obtain ⟨c, r2, ls2, t2, _, b2, b3, b4, b5, _⟩ := stp_ok a1 a2 (by omega) hN
    exact ⟨r2, ls2, t2, b2, b3, PH_trans a3 b4, by omega⟩
theorem its_add {f : bkA} {N : Nat} : ∀ i k, its N f (i + k) = its N (its N f i) k
  | i, 0 => rfl
  | i, k+1 => by
    show stp N (its N f (i + k)) = stp N (its N (its N f i) k)
    rw [its_add i k]
theorem its_PH {f : bkA} {r : Nat → Int32} {K H D t T N : Nat} {σ : Int32} {ls : List Nat} (h : SIM f r K H D ls t T) (hx : IX9 f K D T σ) (hN : 200 < N) {i j : Nat} (hij : i ≤ j) (hj : T + j ≤ 900000) : PH (its N f i) (its N f j) D ∧ ∃ t1 t2, its N f i 23 4 = nI t1 ∧ its N f j 23 4 = nI t2 ∧ t2 ≤ t1 ∧ t1 ≤ 400 := by
  obtain ⟨r', ls', t', a1, a2, a3, a4⟩ := its_ok h hx hN i (by omega)
  obtain ⟨r2, ls2, t2, b1, b2, b3, b4⟩ := its_ok a1 a2 hN (j - i) (by omega)
  have e : its N (its N f i) (j - i) = its N f j := by
    rw [← its_add, show i + (j - i) = j by omega]
  rw [e] at b1 b3
  exact ⟨b3, t', t2, a1.1.1.2.2.2.2.1, b1.1.1.2.2.2.2.1, b4, a1.1.1.2.2.2.2.2.2.2.2.2⟩
theorem pass_its {f : bkA} {r : Nat → Int32} {K H D t T N m : Nat} {σ : Int32} {ls : List Nat} (h : SIM f r K H D ls t T) (hx : IX9 f K D T σ) (hm : m ≤ 100) (hT : T ≤ 800000) (hN : 200 < N) : ∃ c, m7_passTicks N f (nI m) = some (c, its N f m) := by
  have q : ∀ (k i n : Nat) (x : Int32), i + k = m → k < n → ∃ c, m7_passTicks_L4 N n (nI m) x (nI i) (its N f i) = some (c, its N f m) := by
    intro k
    induction k with
    | zero =>
      intro i n x hi hn
      obtain ⟨n, rfl⟩ : ∃ z, n = z + 1 := ⟨n - 1, by omega⟩
      have e : i = m := by omega
      subst e
      rw [m7_passTicks_L4, if_pos (Int32.le_refl _)]
      exact ⟨x, rfl⟩
    | succ k ih =>
      intro i n x hi hn
      obtain ⟨n, rfl⟩ : ∃ z, n = z + 1 := ⟨n - 1, by omega⟩
      obtain ⟨r', ls', t', a1, a2, a3, a4⟩ := its_ok h hx hN i (by omega)
      obtain ⟨c, r2, ls2, t2, _, _, _, _, _, b6⟩ := stp_ok a1 a2 (by omega) hN
      rw [b6 n x i m (by omega) (by omega)]
      exact ih (i+1) n _ (by omega) (by omega)
  obtain ⟨c, hc⟩ := q m 0 N 0 (by omega) (by omega)
  have hc' : m7_passTicks_L4 N N (nI m) 0 0 f = some (c, its N f m) := hc
  refine ⟨c, ?_⟩
  unfold m7_passTicks
  rw [hc', ob2_s]
theorem tick_in {m : Nat} (hm : m ≤ 100) : (if nI m < 0 then (2 : Int32) else if nI m ≤ 100 then (0 : Int32) else 2) = 0 := by
  rw [if_neg (nI_pos (by omega)), if_pos (show nI m ≤ 100 from nI_le (b := 100) hm (by decide))]
theorem heat_its {f g : bkA} {r : Nat → Int32} {K H D t T N m : Nat} {σ : Int32} {ls : List Nat} (h : SIM f r K H D ls t T) (hx : IX9 f K D T σ) (hm : m ≤ 100) (hT : T ≤ 800000) (hN : 200 < N) : m8_heatIn N f g (nI m) = some (its N f m 23 4, its N f m) := by
  obtain ⟨c, hc⟩ := pass_its (m := m) h hx hm hT hN
  unfold m8_heatIn m8_heatAfter
  rw [tick_in hm, lt1_s, ckp_t (by decide), hc]
  rfl
theorem spoil_its {f g : bkA} {r : Nat → Int32} {K H D t T N m : Nat} {σ : Int32} {ls : List Nat} (h : SIM f r K H D ls t T) (hx : IX9 f K D T σ) (hm : m ≤ 100) (hT : T ≤ 800000) (hN : 200 < N) : m8_spoiledIn N f g (nI m) = some (sb (fun d => decide (its N f m 15 d = nI 3) && ! decide (f 15 d = nI 3)) D, its N f m) := by
  obtain ⟨c, hc⟩ := pass_its (m := m) h hx hm hT hN
  obtain ⟨r', ls', t', a1, a2, a3, a4⟩ := its_ok h hx hN m (by omega)
  have hD : D ≤ 16 := h.1.1.2.2.2.2.2.2.2.2.1
  unfold m8_spoiledIn
  rw [tick_in hm, lt1_s, ckp_t (by decide), hc, ob2_s, spoiled7 a1.1.1.2.2.1 hD (by omega), ob1_s, spoiled7 h.1.1.2.2.1 hD (by omega), ob1_s, sb_andnot (M := fun d => decide (its N f m 15 d = nI 3) && ! decide (f 15 d = nI 3)) (by omega) (fun _ _ => rfl)]
/-- what was loaded is in the oven, or done -/
theorem was {f : bkA} {r : Nat → Int32} {K H D t T d : Nat} {σ : Int32} {ls : List Nat} (h : SIM f r K H D ls t T) (hx : IX9 f K D T σ) (hT : T < 2^31) (hd : d < D) : (¬ f 17 d = iM) ↔ (f 15 d = nI 1 ∨ f 15 d = nI 2) := by
  constructor
  · intro q
    obtain ⟨_, _, _, ⟨p, p4, p5⟩, p6⟩ := h.1.2.1 d hd
    have hp : p = 0 ∨ p = 1 ∨ p = 2 ∨ p = 3 := by omega
    rcases hp with e | e | e | e
    · rw [e] at p5
      exact absurd (p6 (Or.inl p5)) q
    · rw [e] at p5
      exact Or.inl p5
    · rw [e] at p5
      exact Or.inr p5
    · rw [e] at p5
      exact absurd (p6 (Or.inr p5)) q
  · intro q
    obtain ⟨n, n1, n2⟩ := hx.2.2.1 d hd q
    rw [n2]
    exact nI_ne_iM (by omega)
theorem loaded_its {f : bkA} {r : Nat → Int32} {K H D t T N d : Nat} {σ : Int32} {ls : List Nat} (h : SIM f r K H D ls t T) (hx : IX9 f K D T σ) (hd : d < D) (hT : T ≤ 700000) (hN : 200 < N) : ∀ (k n i : Nat), i + k = 61 → k < n → 1 ≤ i → ∃ x g, m8_loadedIn_L45 N n (nI d) (nI i) (its N f (i-1)) = some (x, g) ∧ ((∃ j, i ≤ j ∧ j ≤ 60 ∧ x = nI j ∧ (¬ its N f j 17 d = iM) ∧ ∀ j', i ≤ j' → j' < j → its N f j' 17 d = iM) ∨ (x = iM ∧ ∀ j', i ≤ j' → j' ≤ 60 → its N f j' 17 d = iM)) := by
  have hD16 : D ≤ 16 := h.1.1.2.2.2.2.2.2.2.2.1
  intro k
  induction k with
  | zero =>
    intro n i hi hn h1
    obtain ⟨n, rfl⟩ : ∃ z, n = z + 1 := ⟨n - 1, by omega⟩
    have e : i = 61 := by omega
    subst e
    rw [m8_loadedIn_L45, if_pos (by decide)]
    exact ⟨_, _, rfl, Or.inr ⟨rfl, fun j' a b => absurd a (by omega)⟩⟩
  | succ k ih =>
    intro n i hi hn h1
    obtain ⟨n, rfl⟩ : ∃ z, n = z + 1 := ⟨n - 1, by omega⟩
    obtain ⟨r', ls', t', a1, a2, a3, a4⟩ := its_ok h hx hN (i-1) (by omega)
    obtain ⟨c, r2, ls2, t2, b1, b2, b3, b4, b5, _⟩ := stp_ok a1 a2 (by omega) hN
    have es : stp N (its N f (i-1)) = its N f i := by
      obtain ⟨z, rfl⟩ : ∃ z, i = z + 1 := ⟨i - 1, by omega⟩
      rfl
    rw [es] at b1 b2
    have w : m7_wasLoaded (its N f i) (nI d) = if its N f i 17 d = -1 then 0 else 1 := by
      unfold m7_wasLoaded
      rw [(S_isDough b2 _).1, isN_1 (by omega) hd, lt1_s, z1, rat_nI (by omega) (by decide)]
    rw [m8_loadedIn_L45, if_neg (show ¬ (60 : Int32) < nI i from nI_nlt (a := 60) (by omega) (by decide)), b1, ob2_s, lt1_s, w]
    by_cases c17 : its N f i 17 d = iM
    · rw [if_pos (show its N f i 17 d = -1 from c17), z0, ltx_s, nI_1]
      obtain ⟨x, g, e1, e2⟩ := ih n (i+1) (by omega) (by omega) (by omega)
      have e1' : m8_loadedIn_L45 N n (nI d) (nI (i + 1)) (its N f i) = some (x, g) := e1
      refine ⟨x, g, e1', ?_⟩
      rcases e2 with ⟨j, j1, j2, j3, j4, j5⟩ | ⟨j1, j2⟩
      · refine Or.inl ⟨j, by omega, j2, j3, j4, fun j' u v => ?_⟩
        by_cases e : j' = i
        · rw [e]
          exact c17
        · exact j5 j' (by omega) v
      · refine Or.inr ⟨j1, fun j' u v => ?_⟩
        by_cases e : j' = i
        · rw [e]
          exact c17
        · exact j2 j' (by omega) v
    · rw [if_neg (show ¬ its N f i 17 d = -1 from c17), z1]
      exact ⟨_, _, rfl, Or.inl ⟨i, Nat.le_refl _, by omega, rfl, c17, fun j' u v => absurd u (by omega)⟩⟩
/-- in how many ticks a dough is loaded, against how it stands behind m ticks -/
theorem then_its {f g : bkA} {r : Nat → Int32} {K H D t T N d m : Nat} {σ : Int32} {ls : List Nat} (h : SIM f r K H D ls t T) (hx : IX9 f K D T σ) (hd : d < D) (hT : T ≤ 700000) (hN : 200 < N) (hm : m ≤ 60) : ∃ x g', m8_loadedIn N f g (nI d) = some (x, g') ∧ ((0 < x ∧ x ≤ nI m) ↔ (f 15 d = nI 0 ∧ (its N f m 15 d = nI 1 ∨ its N f m 15 d = nI 2))) := by
  have hD16 : D ≤ 16 := h.1.1.2.2.2.2.2.2.2.2.1
  unfold m8_loadedIn
  rw [(S_isDough h _).1, isN_1 (by omega) hd, lt1_s, z1, lt1_s, ckp_t (by decide), S_isWaiting h hd]
  by_cases h0 : f 15 d = nI 0
  · rw [if_pos (show f 15 d = 0 from h0), lt1_s, z1]
    obtain ⟨x, g', e1, e2⟩ := loaded_its h hx hd hT hN 60 N 1 rfl (by omega) (Nat.le_refl _)
    have e1' : m8_loadedIn_L45 N N (nI d) 1 f = some (x, g') := e1
    refine ⟨x, g', e1', ?_⟩
    have f17 : its N f 0 17 d = iM := (h.1.2.1 d hd).2.2.2.2 (Or.inl h0)
    obtain ⟨r', ls', t', a1, a2, a3, a4⟩ := its_ok h hx hN m (by omega)
    rw [← was a1 a2 (by omega) hd]
    rcases e2 with ⟨j, j1, j2, j3, j4, j5⟩ | ⟨j1, j2⟩
    · rw [j3]
      constructor
      · intro q
        have hjm : j ≤ m := by
          by_cases z : j ≤ m
          · exact z
          · exact absurd q.2 (nI_ge (by omega) (by omega))
        obtain ⟨r2, ls2, t2, b1, b2, _, _⟩ := its_ok h hx hN j (by omega)
        have w := (was b1 b2 (by omega) hd).mp j4
        have p := (its_PH h hx hN hjm (by omega)).1.2 d hd w
        exact ⟨h0, (was a1 a2 (by omega) hd).mpr p⟩
      · intro q
        refine ⟨nI_lt (a := 0) (by omega) (by omega), ?_⟩
        by_cases z : j ≤ m
        · exact nI_le z (by omega)
        · exfalso
          apply q.2
          by_cases m0 : m = 0
          · rw [m0]
            exact f17
          · exact j5 m (by omega) (by omega)
    · rw [j1]
      constructor
      · intro q
        exact absurd q.1 (by decide)
      · intro q
        exfalso
        apply q.2
        by_cases m0 : m = 0
        · rw [m0]
          exact f17
        · exact j2 m (by omega) (by omega)
  · rw [if_neg (show ¬ f 15 d = 0 from h0), lt1_s, z0]
    refine ⟨_, _, rfl, ?_⟩
    constructor
    · intro q
      exact absurd q.1 (by decide)
    · intro q
      exact absurd q.1 h0
/-- the fewest logs -/
theorem logs_its {f : bkA} {r : Nat → Int32} {K H D t T N d : Nat} {ls : List Nat} (h : SIM f r K H D ls t T) (hd : d < D) (hN : 200 < N) : ∃ x y, m8_neededLogs N f (nI d) = some x ∧ m8_reason N f (nI d) = some y ∧ (x = 0 ↔ y = 0) ∧ ¬ 16 < x ∧ f 23 4 + 25 * x ≤ 400 := by
  have hD16 : D ≤ 16 := h.1.1.2.2.2.2.2.2.2.2.1
  have ht : t ≤ 400 := h.1.1.2.2.2.2.2.2.2.2.2
  have e4 : f 23 4 = nI t := h.1.1.2.2.2.2.1
  have em : f 23 4 + 25 * iM ≤ 400 := by
    rw [e4]
    by_cases c : 25 ≤ t
    · have e : nI t + 25 * iM = nI (t - 25) := by
        rw [← pk_sub c]
        have e2 : (25 : Int32) * iM = - nI 25 := by decide
        rw [e2, Int32.sub_eq_add_neg]
      rw [e]
      exact nI_le (b := 400) (by omega) (by decide)
    · have hc : t < 25 := by omega
      have : ∀ z, z < 25 → nI z + 25 * iM ≤ 400 := by decide +kernel
      exact this t hc
  unfold m8_neededLogs m7_fewestLogsFor
  rw [(S_isDough h _).1, isN_1 (by omega) hd, lt1_s, z1, lt1_s, ckp_t (by decide), S_isWaiting h hd]
  by_cases h0 : f 15 d = nI 0
  · rw [if_pos (show f 15 d = 0 from h0), lt1_s, z1]
    obtain ⟨w, w5, w1, w2⟩ := re_w (N := N) h hd (by omega) h0
    have q : ∀ (k n i : Nat), i + k = 17 → k < n → 1 ≤ i → ∃ x, m7_fewestLogsFor_L12 N n (nI d) (nI i) f = some x ∧ (x = iM ∨ ∃ j, 1 ≤ j ∧ j ≤ 16 ∧ x = nI j ∧ t + 25 * j ≤ 400) := by
      intro k
      induction k with
      | zero =>
        intro n i hi hn h1
        obtain ⟨n, rfl⟩ : ∃ z, n = z + 1 := ⟨n - 1, by omega⟩
        have e : i = 17 := by omega
        subst e
        rw [m7_fewestLogsFor_L12, if_pos (by decide)]
        exact ⟨_, rfl, Or.inl rfl⟩
      | succ k ih =>
        intro n i hi hn h1
        obtain ⟨n, rfl⟩ : ∃ z, n = z + 1 := ⟨n - 1, by omega⟩
        have eh : f 23 4 + 25 * nI i = nI (t + 25 * i) := by rw [e4, l_25, pk_mul, nI_add]
        rw [m7_fewestLogsFor_L12, if_neg (show ¬ (16 : Int32) < nI i from nI_nlt (a := 16) (by omega) (by decide)), eh]
        by_cases c : t + 25 * i ≤ 400
        · rw [if_neg (show ¬ (400 : Int32) < nI (t + 25 * i) from nI_nlt (a := 400) c (by decide))]
          obtain ⟨v, v5, v1⟩ := reasonX (N := N) h hd (by omega) c
          rw [v1, ob1_s]
          by_cases v0 : nI v = 0
          · rw [if_pos v0]
            exact ⟨_, rfl, Or.inr ⟨i, h1, by omega, rfl, c⟩⟩
          · rw [if_neg v0, ltx_s, nI_1]
            exact ih n (i+1) (by omega) (by omega) (by omega)
        · rw [if_pos (show (400 : Int32) < nI (t + 25 * i) from nI_lt (a := 400) (by omega) (by omega))]
          exact ⟨_, rfl, Or.inl rfl⟩
    obtain ⟨n, en⟩ : ∃ n, N = n + 1 := ⟨N - 1, by omega⟩
    have e0 : f 23 4 + 25 * 0 = nI t := by rw [e4, show (25 : Int32) * 0 = 0 from rfl, Int32.add_zero]
    have first : m7_fewestLogsFor_L12 N N (nI d) 0 f = if nI w = 0 then some 0 else m7_fewestLogsFor_L12 N n (nI d) (nI 1) f := by
      have e : m7_fewestLogsFor_L12 N (n+1) (nI d) 0 f = if nI w = 0 then some 0 else m7_fewestLogsFor_L12 N n (nI d) (nI 1) f := by
        rw [m7_fewestLogsFor_L12, if_neg (by decide), e0, if_neg (show ¬ (400 : Int32) < nI t from nI_nlt (a := 400) ht (by decide)), w1, ob1_s, ltx_s]
        rfl
      rw [← en] at e
      exact e
    rw [first]
    by_cases w0 : nI w = 0
    · rw [if_pos w0, ob1_s]
      refine ⟨0, nI w, rfl, w2, ⟨fun _ => w0, fun _ => rfl⟩, by decide, ?_⟩
      rw [e0]
      exact nI_le (b := 400) ht (by decide)
    · rw [if_neg w0]
      obtain ⟨x, x1, x2⟩ := q 16 n 1 rfl (by omega) (Nat.le_refl _)
      rw [x1, ob1_s]
      refine ⟨x, nI w, rfl, w2, ⟨fun z => ?_, fun z => absurd z w0⟩, ?_, ?_⟩
      · rcases x2 with x2 | ⟨j, j1, j2, j3, j4⟩
        · rw [x2] at z
          exact absurd z (by decide)
        · rw [j3] at z
          exact absurd z (nI_ne0 (by omega) (by omega))
      · rcases x2 with x2 | ⟨j, j1, j2, j3, j4⟩
        · rw [x2]
          decide
        · rw [j3]
          exact nI_nlt (a := 16) j2 (by decide)
      · rcases x2 with x2 | ⟨j, j1, j2, j3, j4⟩
        · rw [x2]
          exact em
        · rw [j3, e4, l_25, pk_mul, nI_add]
          exact nI_le (b := 400) j4 (by decide)
  · rw [if_neg (show ¬ f 15 d = 0 from h0), lt1_s, z0]
    refine ⟨iM, iM, rfl, re_n h hd h0, ⟨fun z => z, fun z => z⟩, by decide, em⟩
