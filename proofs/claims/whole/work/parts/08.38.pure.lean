/-! the reader of commands: all numbers of a command and its end -/
def T9 (N : Nat) (tx : Nat → Int32) (q20 : Nat → Int32) : Option (Nat → Int32) :=
  ob1 (m9_skip N tx q20) fun q22 =>
  ob1 (
      if 0 ≤ (q22 4) then
        some q22
      else
        ob1 (m9_here tx q22) fun x32 =>
        if x32 = 59 then
          some q22
        else
          lt1 (m9_fail q22 (q22 3)) fun q35 =>
          some q35) fun q30 =>
  lt_ (upd q30 3 ((q30 3) + 1)) fun q37 =>
  ob1 (m9_skip N tx q37) fun q38 =>
  some q38
/-- behind a fault the rest changes the cursor alone -/
theorem T9_fault {tx q : Nat → Int32} {l p k N : Nat} (hl : l ≤ 150) (hp : p ≤ l) (hk : k ≤ l) (hN : 300 < N) (e2 : q 2 = nI l) (e3 : q 3 = nI p) (e4 : q 4 = nI k) : ∃ q', T9 N tx q = some q' ∧ q' 4 = nI k ∧ ∀ j, j ≠ 3 → q' j = q j := by
  obtain ⟨p1, s1, s2, s3, s4, s5, s6, s7⟩ := skp (tx := tx) (p := p) hl (by omega)
  have s2' := s2 hp
  obtain ⟨p2, t1, t2, t3, t4, t5, t6, t7⟩ := skp (tx := tx) (l := l) (p := p1 + 1) hl (by omega)
  refine ⟨upd q 3 (nI p2), ?_, ?_, ?_⟩
  · unfold T9
    rw [s7 N q hN e2 e3, ob1_s, pk_un (show (4 : Nat) ≠ 3 by decide), e4, if_pos (nI_pos' (by omega)), ob1_s, pk_us, nI_1, upd_upd, ltx_s, t7 N _ hN (by rw [pk_un (by decide)]; exact e2) pk_us, ob1_s, upd_upd]
  · rw [pk_un (by decide)]
    exact e4
  · intro j j3
    rw [pk_un j3]
def CF (tx : Nat → Int32) (l m i p k : Nat) : Prop := ∀ (N n : Nat) (c : bkA), 300 < N → 10 < n + i → TXc c tx l → c 2 1 = nI p → ∃ c', m0_readNext_L34 N n (nI m) (nI i) c = some (0, c') ∧ KT c c' ∧ c' 2 3 = nI k
def CO (tx : Nat → Int32) (l m i p : Nat) (vs : Nat → Int32) (p' : Nat) : Prop := ∀ (N n : Nat) (c : bkA), 300 < N → 10 < n + i → TXc c tx l → c 2 1 = nI p → ∃ c', m0_readNext_L34 N n (nI m) (nI i) c = some (1, c') ∧ KT c c' ∧ c' 2 1 = nI p' ∧ c' 2 2 = c 2 2 ∧ c' 2 3 = c 2 3 ∧ (∀ j, j < i → c' 1 j = c 1 j) ∧ ∀ j, i ≤ j → j < m → c' 1 j = vs j
def ME (tx : Nat → Int32) (l m i p k : Nat) : Prop := ∀ (N n : Nat) (nu q : Nat → Int32) (x5 : Int32), 300 < N → 10 < n + i → m9_numbersOf x5 = nI m → q 2 = nI l → q 3 = nI p → q 4 = iM → ∃ nu1 q1 q2, m9_readCommand_L7 N n x5 (nI i) tx nu q = some (nu1, q1) ∧ T9 N tx q1 = some q2 ∧ q2 4 = nI k ∧ ∀ j, j ≠ 3 → j ≠ 4 → q2 j = q j
def MOK (tx : Nat → Int32) (l m i p : Nat) (vs : Nat → Int32) (p2 : Nat) : Prop := ∀ (N n : Nat) (nu q : Nat → Int32) (x5 : Int32), 300 < N → 10 < n + i → m9_numbersOf x5 = nI m → q 2 = nI l → q 3 = nI p → q 4 = iM → ∃ nu1 q1, m9_readCommand_L7 N n x5 (nI i) tx nu q = some (nu1, q1) ∧ T9 N tx q1 = some (upd q 3 (nI p2)) ∧ (∀ j, j < i → nu1 j = nu j) ∧ ∀ j, i ≤ j → j < m → nu1 j = vs j
/-- a digit where no number can go on -/
theorem digF {tx : Nat → Int32} {l m i p : Nat} (hl : l ≤ 150) (hp : p < l) (hm : m ≤ 5) (hi : i ≤ m) (hd : ¬ m0_isDigit (byt tx l p) = 0) : CF tx l m i p p := by
  have h32 : ¬ byt tx l p = 32 := by
    intro e
    rw [e] at hd
    exact hd (by decide)
  have h59 : ¬ byt tx l p = 59 := by
    intro e
    rw [e] at hd
    exact hd (by decide)
  intro N n c hN hn ht e
  cases n with
  | zero => omega
  | succ n =>
    rw [m0_readNext_L34]
    by_cases hmi : m ≤ i
    · obtain ⟨p1, s1, s2, s3, s4, s5, s6, s7⟩ := skp (tx := tx) (p := p) hl (by omega)
      have sp := s5 h32
      subst sp
      refine ⟨wr c 2 3 (nI p1), ?_, KT_wr2 (by decide), wr_s⟩
      rw [if_pos (nI_le hmi (by omega)), s6 N c hN ht e, ob1_s, wr_same e, bc7 ht hl (by omega) e, lt1_s, if_neg h59]
      unfold m0_failAt
      rw [e, ltx_s, wr_u, lt2_s, ckp_t (Or.inl rfl)]
    · refine ⟨wr c 2 3 (nI p), ?_, KT_wr2 (by decide), wr_s⟩
      rw [if_neg (nI_ge (by omega) (by omega))]
      unfold m0_readNumber m0_failAt
      rw [bc7 ht hl (by omega) e, lt1_s, if_neg h32, e, ltx_s, wr_u, lt2_s, ckp_t (Or.inl rfl), ob2_s, if_pos rfl]
theorem rnums {tx : Nat → Int32} {l m : Nat} (hl : l ≤ 150) (hm : m ≤ 5) : ∀ (k i p : Nat), i + k = m → p ≤ l → (∃ F, F ≤ l ∧ CF tx l m i p F ∧ ME tx l m i p F) ∨ (∃ vs p' p2, p < p' ∧ p' ≤ l ∧ SKP tx l p' p2 ∧ CO tx l m i p vs p' ∧ MOK tx l m i p vs p2) := by
  intro k
  induction k with
  | zero =>
    intro i p hi hp
    have him : m = i := by omega
    subst him
    obtain ⟨p1, s1, s2, s3, s4, s5, s6, s7⟩ := skp (tx := tx) (p := p) hl (by omega)
    have s2' := s2 hp
    by_cases hb : byt tx l p1 = 59
    · have hin := byt_in hb (by decide)
      obtain ⟨p2, t⟩ := skp (tx := tx) (l := l) (p := p1 + 1) hl (by omega)
      right
      refine ⟨fun _ => 0, p1 + 1, p2, by omega, by omega, t, ?_, ?_⟩
      · intro N n c hN hn ht e
        cases n with
        | zero => omega
        | succ n =>
          refine ⟨wr c 2 1 (nI (p1 + 1)), ?_, KT_wr2 (by decide), wr_s, wr_i (by decide), wr_i (by decide), fun j _ => congrFun (wr_n (by decide)) j, fun j h1 h2 => by omega⟩
          rw [m0_readNext_L34, if_pos (Int32.le_refl _), s6 N c hN ht e, ob1_s, bc7 (KT_TX (KT_wr2 (by decide)) ht) hl (by omega) wr_s, lt1_s, if_pos hb, wr_s, nI_1, wr_u, wr_wr, ltx_s]
      · intro N n nu q x5 hN hn hx e2 e3 e4
        cases n with
        | zero => omega
        | succ n =>
          refine ⟨nu, q, ?_, ?_, fun j _ => rfl, fun j h1 h2 => by omega⟩
          · rw [m9_readCommand_L7, e4, if_neg (by decide), hx, lt1_s, if_pos (Int32.le_refl _)]
          · unfold T9
            rw [s7 N q hN e2 e3, ob1_s, pk_un (show (4 : Nat) ≠ 3 by decide), e4, if_neg (by decide), bc9 hl (by omega) (by rw [pk_un (by decide)]; exact e2) pk_us, ob1_s, if_pos hb, ob1_s, pk_us, nI_1, upd_upd, ltx_s, t.2.2.2.2.2.2 N _ hN (by rw [pk_un (by decide)]; exact e2) pk_us, ob1_s, upd_upd]
    · left
      refine ⟨p1, s2', ?_, ?_⟩
      · intro N n c hN hn ht e
        cases n with
        | zero => omega
        | succ n =>
          refine ⟨wr (wr c 2 1 (nI p1)) 2 3 (nI p1), ?_, KT_trans (KT_wr2 (by decide)) (KT_wr2 (by decide)), wr_s⟩
          rw [m0_readNext_L34, if_pos (Int32.le_refl _), s6 N c hN ht e, ob1_s, bc7 (KT_TX (KT_wr2 (by decide)) ht) hl (by omega) wr_s, lt1_s, if_neg hb]
          unfold m0_failAt
          rw [wr_s, ltx_s, wr_u, lt2_s, ckp_t (Or.inl rfl)]
      · intro N n nu q x5 hN hn hx e2 e3 e4
        cases n with
        | zero => omega
        | succ n =>
          obtain ⟨p2, t1, t2, t3, t4, t5, t6, t7⟩ := skp (tx := tx) (l := l) (p := p1 + 1) hl (by omega)
          refine ⟨nu, q, upd (upd q 4 (nI p1)) 3 (nI p2), ?_, ?_, ?_, ?_⟩
          · rw [m9_readCommand_L7, e4, if_neg (by decide), hx, lt1_s, if_pos (Int32.le_refl _)]
          · have c34 : ∀ v w : Int32, upd (upd q 3 v) 4 w = upd (upd q 4 w) 3 v := by
              intro v w
              funext a
              by_cases h3 : a = 3
              · subst h3
                rw [pk_un (by decide), pk_us, pk_us]
              · by_cases h4 : a = 4
                · subst h4
                  rw [pk_us, pk_un (by decide), pk_us]
                · rw [pk_un h4, pk_un h3, pk_un h3, pk_un h4]
            unfold T9
            rw [s7 N q hN e2 e3, ob1_s, pk_un (show (4 : Nat) ≠ 3 by decide), e4, if_neg (by decide), bc9 hl (by omega) (by rw [pk_un (by decide)]; exact e2) pk_us, ob1_s, if_neg hb, pk_us, fail_0 (by rw [pk_un (by decide)]; exact e4), lt1_s, ob1_s, c34, pk_us, nI_1, upd_upd, ltx_s, t7 N _ hN (by rw [pk_un (by decide), pk_un (by decide)]; exact e2) pk_us, ob1_s, upd_upd]
          · rw [pk_un (by decide), pk_us]
          · intro j j3 j4
            rw [pk_un j3, pk_un j4]
  | succ k ih =>
    intro i p hi hp
    have hi5 : i < 5 := by omega
    have ncm : ¬ nI m ≤ nI i := nI_ge (by omega) (by omega)
    rcases rnum (tx := tx) hl hp with ⟨F, f1, f2, f3⟩ | ⟨v, p', f1, f2, f3, f4⟩ | ⟨v, p', f1, f2, f3, f4, f5⟩
    · left
      refine ⟨F, f1, ?_, ?_⟩
      · intro N n c hN hn ht e
        cases n with
        | zero => omega
        | succ n =>
          obtain ⟨c', g1, g2, g3⟩ := f2 N c i hN ht e hi5
          refine ⟨c', ?_, g2, g3⟩
          rw [m0_readNext_L34, if_neg ncm, g1, ob2_s, if_pos rfl]
      · intro N n nu q x5 hN hn hx e2 e3 e4
        cases n with
        | zero => omega
        | succ n =>
          obtain ⟨nu', q', p2, g1, g2, g3, g4, g5⟩ := f3 N nu q i hN e2 e3 e4 hi5
          obtain ⟨q2, t1, t2, t3⟩ := T9_fault (tx := tx) hl g4 f1 hN (by rw [g5 2 (by decide) (by decide)]; exact e2) g3 g2
          refine ⟨nu', q', q2, ?_, t1, t2, fun j j3 j4 => (t3 j j3).trans (g5 j j3 j4)⟩
          rw [m9_readCommand_L7, e4, if_neg (by decide), hx, lt1_s, if_neg ncm, g1, ob2_s, ltx_s]
          cases n with
          | zero => omega
          | succ n => rw [m9_readCommand_L7, g2, if_pos (nI_pos' (by omega))]
    · rcases ih (i+1) p' (by omega) f2 with ⟨F, g1, g2, g3⟩ | ⟨vs, p2, p3, g1, g2, g3, g4, g5⟩
      · left
        refine ⟨F, g1, ?_, ?_⟩
        · intro N n c hN hn ht e
          cases n with
          | zero => omega
          | succ n =>
            have kt : KT c (wr (wr c 2 1 (nI p')) 1 i v) := KT_trans (KT_wr2 (by decide)) KT_wr1
            obtain ⟨c', a1, a2, a3⟩ := g2 N n _ hN (by omega) (KT_TX kt ht) (by rw [wr_n (by decide)]; exact wr_s)
            refine ⟨c', ?_, KT_trans kt a2, a3⟩
            rw [m0_readNext_L34, if_neg ncm, f3 N c i hN ht e hi5, ob2_s, if_neg n10, ltx_s, nI_1]
            exact a1
        · intro N n nu q x5 hN hn hx e2 e3 e4
          cases n with
          | zero => omega
          | succ n =>
            obtain ⟨nu1, q1, q2, a1, a2, a3, a4⟩ := g3 N n (upd nu i v) (upd q 3 (nI p')) x5 hN (by omega) hx (by rw [pk_un (by decide)]; exact e2) pk_us (by rw [pk_un (by decide)]; exact e4)
            refine ⟨nu1, q1, q2, ?_, a2, a3, fun j j3 j4 => (a4 j j3 j4).trans (pk_un j3)⟩
            rw [m9_readCommand_L7, e4, if_neg (by decide), hx, lt1_s, if_neg ncm, f4 N nu q i hN e2 e3 e4 hi5, ob2_s, ltx_s, nI_1]
            exact a1
      · right
        refine ⟨upd vs i v, p2, p3, by omega, g2, g3, ?_, ?_⟩
        · intro N n c hN hn ht e
          cases n with
          | zero => omega
          | succ n =>
            have kt : KT c (wr (wr c 2 1 (nI p')) 1 i v) := KT_trans (KT_wr2 (by decide)) KT_wr1
            obtain ⟨c', a1, a2, a3, a4, a5, a6, a7⟩ := g4 N n _ hN (by omega) (KT_TX kt ht) (by rw [wr_n (by decide)]; exact wr_s)
            refine ⟨c', ?_, KT_trans kt a2, a3, ?_, ?_, ?_, ?_⟩
            · rw [m0_readNext_L34, if_neg ncm, f3 N c i hN ht e hi5, ob2_s, if_neg n10, ltx_s, nI_1]
              exact a1
            · rw [a4, wr_n (by decide), wr_i (by decide)]
            · rw [a5, wr_n (by decide), wr_i (by decide)]
            · intro j hj
              rw [a6 j (by omega), wr_i (by omega), wr_n (by decide)]
            · intro j hj1 hj2
              by_cases ej : j = i
              · subst ej
                rw [a6 j (by omega), wr_s, pk_us]
              · rw [a7 j (by omega) hj2, pk_un ej]
        · intro N n nu q x5 hN hn hx e2 e3 e4
          cases n with
          | zero => omega
          | succ n =>
            obtain ⟨nu1, q1, a1, a2, a3, a4⟩ := g5 N n (upd nu i v) (upd q 3 (nI p')) x5 hN (by omega) hx (by rw [pk_un (by decide)]; exact e2) pk_us (by rw [pk_un (by decide)]; exact e4)
            refine ⟨nu1, q1, ?_, ?_, ?_, ?_⟩
            · rw [m9_readCommand_L7, e4, if_neg (by decide), hx, lt1_s, if_neg ncm, f4 N nu q i hN e2 e3 e4 hi5, ob2_s, ltx_s, nI_1]
              exact a1
            · rw [a2, upd_upd]
            · intro j hj
              rw [a3 j (by omega), pk_un (by omega)]
            · intro j hj1 hj2
              by_cases ej : j = i
              · subst ej
                rw [a3 j (by omega), pk_us, pk_us]
              · rw [a4 j (by omega) hj2, pk_un ej]
    · left
      refine ⟨p', by omega, ?_, ?_⟩
      · intro N n c hN hn ht e
        cases n with
        | zero => omega
        | succ n =>
          have kt : KT c (wr (wr c 2 1 (nI p')) 1 i v) := KT_trans (KT_wr2 (by decide)) KT_wr1
          obtain ⟨c', a1, a2, a3⟩ := digF (i := i + 1) hl f2 hm (by omega) f3 N n _ hN (by omega) (KT_TX kt ht) (by rw [wr_n (by decide)]; exact wr_s)
          refine ⟨c', ?_, KT_trans kt a2, a3⟩
          rw [m0_readNext_L34, if_neg ncm, f4 N c i hN ht e hi5, ob2_s, if_neg n10, ltx_s, nI_1]
          exact a1
      · intro N n nu q x5 hN hn hx e2 e3 e4
        cases n with
        | zero => omega
        | succ n =>
          obtain ⟨nu', q', p2, g1, g2, g3, g4, g5⟩ := f5 N nu q i hN e2 e3 e4 hi5
          obtain ⟨q2, t1, t2, t3⟩ := T9_fault (tx := tx) hl g4 (show p' ≤ l by omega) hN (by rw [g5 2 (by decide) (by decide)]; exact e2) g3 g2
          refine ⟨nu', q', q2, ?_, t1, t2, fun j j3 j4 => (t3 j j3).trans (g5 j j3 j4)⟩
          rw [m9_readCommand_L7, e4, if_neg (by decide), hx, lt1_s, if_neg ncm, g1, ob2_s, ltx_s]
          cases n with
          | zero => omega
          | succ n => rw [m9_readCommand_L7, g2, if_pos (nI_pos' (by omega))]
