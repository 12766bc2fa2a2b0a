/-! the reader of commands: bytes, spaces, numbers; the class and the model alike -/
def TXc (c : bkA) (tx : Nat → Int32) (l : Nat) : Prop := (∀ i, i < l → c 0 i = tx i) ∧ c 2 0 = nI l
def KT (c c' : bkA) : Prop := c' 0 = c 0 ∧ c' 2 0 = c 2 0
theorem KT_refl {c : bkA} : KT c c := ⟨rfl, rfl⟩
theorem KT_trans {a b c : bkA} (h1 : KT a b) (h2 : KT b c) : KT a c := ⟨h2.1.trans h1.1, h2.2.trans h1.2⟩
theorem KT_TX {c c' : bkA} {tx : Nat → Int32} {l : Nat} (h : KT c c') (ht : TXc c tx l) : TXc c' tx l := ⟨fun i hi => by rw [h.1]; exact ht.1 i hi, h.2.trans ht.2⟩
theorem KT_wr2 {c : bkA} {i : Nat} {v : Int32} (h : i ≠ 0) : KT c (wr c 2 i v) := ⟨wr_n (by decide), wr_i (fun e => h e.symm)⟩
theorem KT_wr1 {c : bkA} {i : Nat} {v : Int32} : KT c (wr c 1 i v) := ⟨wr_n (by decide), congrFun (wr_n (by decide)) 0⟩
def byt (tx : Nat → Int32) (l p : Nat) : Int32 := if l ≤ p then iM else tx p
theorem byt_in {tx : Nat → Int32} {l p : Nat} {v : Int32} (h : byt tx l p = v) (hv : v ≠ iM) : p < l := by
  unfold byt at h
  by_cases c : l ≤ p
  · rw [if_pos c] at h
    exact absurd h.symm hv
  · omega
theorem byt_tx {tx : Nat → Int32} {l p : Nat} (h : p < l) : byt tx l p = tx p := if_neg (by omega)
theorem bc7 {c : bkA} {tx : Nat → Int32} {l p : Nat} (ht : TXc c tx l) (hl : l ≤ 150) (hp : p < 2^31) (e : c 2 1 = nI p) : m0_byteAtCursor c = byt tx l p := by
  unfold m0_byteAtCursor byt
  rw [ht.2, e]
  by_cases h : l ≤ p
  · rw [if_pos (nI_le h hp), if_pos h]
    rfl
  · rw [if_neg (nI_ge (by omega) (by omega)), if_neg h, rat_nI (by omega) (by decide)]
    exact ht.1 p (by omega)
theorem bc9 {q tx : Nat → Int32} {l p : Nat} (hl : l ≤ 150) (hp : p < 2^31) (e2 : q 2 = nI l) (e : q 3 = nI p) : m9_here tx q = some (byt tx l p) := by
  unfold m9_here byt
  rw [e2, e]
  by_cases h : l ≤ p
  · rw [if_pos (nI_le h hp), if_pos h]
    rfl
  · rw [if_neg (nI_ge (by omega) (by omega)), if_neg h, ck_nI (by omega) (by decide), nI_clamp hp]
theorem upd_upd {q : Nat → Int32} {i : Nat} {v w : Int32} : upd (upd q i v) i w = upd q i w := by
  funext a
  by_cases h : a = i
  · subst h
    rw [pk_us, pk_us]
  · rw [pk_un h, pk_un h, pk_un h]
theorem upd_same {q : Nat → Int32} {i : Nat} {v : Int32} (h : q i = v) : upd q i v = q := by
  funext a
  by_cases e : a = i
  · subst e
    rw [pk_us, h]
  · rw [pk_un e]
theorem wr_same {f : bkA} {j i : Nat} {v : Int32} (h : f j i = v) : wr f j i v = f := by
  rw [← h]
  exact wr_self
theorem dig9 {x : Int32} : m9_in x 48 57 = m0_isDigit x := rfl
theorem let9 {x : Int32} : m9_in x 97 122 = m0_isLetter x := rfl
theorem dig01 {x : Int32} : m0_isDigit x = 0 ∨ m0_isDigit x = 1 := by
  unfold m0_isDigit
  split
  · exact Or.inl rfl
  · split
    · exact Or.inl rfl
    · exact Or.inr rfl
theorem let01 {x : Int32} : m0_isLetter x = 0 ∨ m0_isLetter x = 1 := by
  unfold m0_isLetter
  split
  · exact Or.inl rfl
  · split
    · exact Or.inl rfl
    · exact Or.inr rfl
theorem isD9 {q tx : Nat → Int32} {l p : Nat} (hl : l ≤ 150) (hp : p < 2^31) (e2 : q 2 = nI l) (e : q 3 = nI p) : m9_isDigit tx q = some (m0_isDigit (byt tx l p)) := by
  unfold m9_isDigit
  rw [bc9 hl hp e2 e, ob1_s, dig9, lt1_s, ckp_t dig01]
theorem isL9 {q tx : Nat → Int32} {l p : Nat} (hl : l ≤ 150) (hp : p < 2^31) (e2 : q 2 = nI l) (e : q 3 = nI p) : m9_isLetter tx q = some (m0_isLetter (byt tx l p)) := by
  unfold m9_isLetter
  rw [bc9 hl hp e2 e, ob1_s, let9, lt1_s, ckp_t let01]
theorem fail_0 {q : Nat → Int32} {a : Int32} (h : q 4 = iM) : m9_fail q a = upd q 4 a := by
  unfold m9_fail
  rw [h, if_neg (by decide), lt1_s, ltx_s]
theorem fail_1 {q : Nat → Int32} {a : Int32} {k : Nat} (h : q 4 = nI k) (hk : k < 2^31) : m9_fail q a = q := by
  unfold m9_fail
  rw [h, if_pos (nI_pos' hk), lt1_s, ltx_s, upd_same h]
/-- spaces are skipped -/
def SKP (tx : Nat → Int32) (l p p' : Nat) : Prop := p ≤ p' ∧ (p ≤ l → p' ≤ l) ∧ (¬ byt tx l p' = 32) ∧ (byt tx l p = 32 → p < p') ∧ (¬ byt tx l p = 32 → p' = p) ∧ (∀ (N : Nat) (c : bkA), 300 < N → TXc c tx l → c 2 1 = nI p → m0_skipSpaces N c = some (wr c 2 1 (nI p'))) ∧ (∀ (N : Nat) (q : Nat → Int32), 300 < N → q 2 = nI l → q 3 = nI p → m9_skip N tx q = some (upd q 3 (nI p')))
theorem skl {tx : Nat → Int32} {l : Nat} (hl : l ≤ 150) : ∀ (k p : Nat), l ≤ p + k → p ≤ 400 → ∃ p', p ≤ p' ∧ (p ≤ l → p' ≤ l) ∧ (¬ byt tx l p' = 32) ∧ (byt tx l p = 32 → p < p') ∧ (¬ byt tx l p = 32 → p' = p) ∧ (∀ (N n : Nat) (c : bkA), k < n → TXc c tx l → c 2 1 = nI p → m0_skipSpaces_L0 N n c = some (wr c 2 1 (nI p'))) ∧ (∀ (N n : Nat) (q : Nat → Int32), k < n → q 2 = nI l → q 3 = nI p → m9_skip_L0 N n tx q = some (upd q 3 (nI p'))) := by
  intro k
  induction k with
  | zero =>
    intro p hk hp
    have hb : byt tx l p = iM := if_pos (by omega)
    have hn : ¬ byt tx l p = 32 := by rw [hb]; decide
    refine ⟨p, Nat.le_refl p, fun h => h, hn, fun h => absurd h hn, fun _ => rfl, ?_, ?_⟩
    · intro N n c hkn ht e
      cases n with
      | zero => omega
      | succ n =>
        rw [m0_skipSpaces_L0, ht.2, e, if_pos (nI_le (by omega) (by omega)), wr_same e]
    · intro N n q hkn e2 e
      cases n with
      | zero => omega
      | succ n =>
        rw [m9_skip_L0, bc9 hl (by omega) e2 e, ob1_s, if_neg hn, upd_same e]
  | succ k ih =>
    intro p hk hp
    by_cases hb : byt tx l p = 32
    · have hpl := byt_in hb (by decide)
      obtain ⟨p', h1, h2, h3, h4, h5, h6, h7⟩ := ih (p+1) (by omega) (by omega)
      refine ⟨p', by omega, fun _ => h2 (by omega), h3, fun _ => by omega, fun h => absurd hb h, ?_, ?_⟩
      · intro N n c hkn ht e
        cases n with
        | zero => omega
        | succ n =>
          rw [m0_skipSpaces_L0, ht.2, e, if_neg (nI_ge (by omega) (by omega)), bc7 ht hl (by omega) e, lt1_s, if_pos hb, nI_1, wr_u, ltx_s, h6 N n _ (by omega) (KT_TX (KT_wr2 (by decide)) ht) wr_s, wr_wr]
      · intro N n q hkn e2 e
        cases n with
        | zero => omega
        | succ n =>
          rw [m9_skip_L0, bc9 hl (by omega) e2 e, ob1_s, if_pos hb, e, nI_1, ltx_s, h7 N n _ (by omega) (by rw [pk_un (by decide)]; exact e2) pk_us, upd_upd]
    · refine ⟨p, Nat.le_refl p, fun h => h, hb, fun h => absurd h hb, fun _ => rfl, ?_, ?_⟩
      · intro N n c hkn ht e
        cases n with
        | zero => omega
        | succ n =>
          rw [m0_skipSpaces_L0, bc7 ht hl (by omega) e, lt1_s, if_neg hb, wr_same e]
          split
          · rfl
          · rfl
      · intro N n q hkn e2 e
        cases n with
        | zero => omega
        | succ n =>
          rw [m9_skip_L0, bc9 hl (by omega) e2 e, ob1_s, if_neg hb, upd_same e]
theorem skp {tx : Nat → Int32} {l p : Nat} (hl : l ≤ 150) (hp : p ≤ 200) : ∃ p', SKP tx l p p' := by
  obtain ⟨p', h1, h2, h3, h4, h5, h6, h7⟩ := skl (tx := tx) hl 200 p (by omega) (by omega)
  refine ⟨p', h1, h2, h3, h4, h5, ?_, ?_⟩
  · intro N c hN ht e
    unfold m0_skipSpaces
    rw [h6 N N c (by omega) ht e, ob1_s]
  · intro N q hN e2 e
    unfold m9_skip
    rw [h7 N N q (by omega) e2 e, ob1_s]
/-- digits, three at most -/
theorem digs {tx : Nat → Int32} {l p0 : Nat} (hl : l ≤ 150) (hp0 : p0 ≤ 200) : ∀ (k d : Nat) (v : Int32), d + k = 3 → ∃ d' v', d ≤ d' ∧ d' ≤ 3 ∧ (p0 + d ≤ l → p0 + d' ≤ l) ∧ (d' = d → d < 3 → m0_isDigit (byt tx l (p0 + d)) = 0) ∧ (d' < 3 → m0_isDigit (byt tx l (p0 + d')) = 0) ∧ (∀ (N n : Nat) (c : bkA) (x : Int32), k < n → TXc c tx l → c 2 1 = nI (p0 + d) → m0_readNumber_L26 N n x (nI d) v c = some (nI d', v', wr c 2 1 (nI (p0 + d')))) ∧ (∀ (N n : Nat) (q : Nat → Int32) (x : Int32), k < n → q 2 = nI l → q 3 = nI (p0 + d) → m9_readNumber_L28 N n x (nI p0) v tx q = some (v', upd q 3 (nI (p0 + d')))) := by
  intro k
  induction k with
  | zero =>
    intro d v hd
    have e3 : d = 3 := by omega
    subst e3
    refine ⟨3, v, Nat.le_refl _, Nat.le_refl _, fun h => h, fun _ h => absurd h (by decide), fun h => absurd h (by decide), ?_, ?_⟩
    · intro N n c x hkn ht e
      cases n with
      | zero => omega
      | succ n => rw [m0_readNumber_L26, if_pos (by decide), wr_same e]
    · intro N n q x hkn e2 e
      cases n with
      | zero => omega
      | succ n =>
        have es : nI (p0 + 3) - nI p0 = nI 3 := by
          rw [pk_sub (by omega), show p0 + 3 - p0 = 3 by omega]
        rw [m9_readNumber_L28, isD9 hl (by omega) e2 e, ob1_s]
        by_cases h : m0_isDigit (byt tx l (p0 + 3)) = 0
        · rw [if_pos h, upd_same e]
        · rw [if_neg h, e, es, if_pos (by decide), upd_same e]
  | succ k ih =>
    intro d v hd
    by_cases hb : m0_isDigit (byt tx l (p0 + d)) = 0
    · refine ⟨d, v, Nat.le_refl _, by omega, fun h => h, fun _ _ => hb, fun _ => hb, ?_, ?_⟩
      · intro N n c x hkn ht e
        cases n with
        | zero => omega
        | succ n => rw [m0_readNumber_L26, if_neg (show ¬ (3 : Int32) ≤ nI d from nI_ge (show d < 3 by omega) (by decide)), bc7 ht hl (by omega) e, lt1_s, lt1_s, if_pos hb, wr_same e]
      · intro N n q x hkn e2 e
        cases n with
        | zero => omega
        | succ n => rw [m9_readNumber_L28, isD9 hl (by omega) e2 e, ob1_s, if_pos hb, upd_same e]
    · have hbi : p0 + d < l := by
        by_cases h : p0 + d < l
        · exact h
        · exfalso
          apply hb
          have : byt tx l (p0 + d) = iM := if_pos (by omega)
          rw [this]
          decide
      obtain ⟨d', v', h1, h2, h3, h4, h5, h6, h7⟩ := ih (d+1) ((10 * v) + (byt tx l (p0 + d) - 48)) (by omega)
      refine ⟨d', v', by omega, h2, fun _ => h3 (by omega), fun e _ => by omega, h5, ?_, ?_⟩
      · intro N n c x hkn ht e
        cases n with
        | zero => omega
        | succ n =>
          rw [m0_readNumber_L26, if_neg (show ¬ (3 : Int32) ≤ nI d from nI_ge (show d < 3 by omega) (by decide)), bc7 ht hl (by omega) e, lt1_s, lt1_s, if_neg hb, lt1_s, ltx_s, ltx_s, e, nI_1, nI_1, wr_u, ltx_s, Nat.add_assoc p0 d 1, h6 N n _ x (by omega) (KT_TX (KT_wr2 (by decide)) ht) wr_s, wr_wr]
      · intro N n q x hkn e2 e
        cases n with
        | zero => omega
        | succ n =>
          have es : nI (p0 + d) - nI p0 = nI d := by
            rw [pk_sub (by omega), show p0 + d - p0 = d by omega]
          have ev : (10 * v) + byt tx l (p0 + d) - 48 = (10 * v) + (byt tx l (p0 + d) - 48) := by
            rw [Int32.sub_eq_add_neg, Int32.sub_eq_add_neg, Int32.add_assoc]
          rw [m9_readNumber_L28, isD9 hl (by omega) e2 e, ob1_s, if_neg hb, e, es, if_neg (show ¬ (3 : Int32) ≤ nI d from nI_ge (show d < 3 by omega) (by decide)), bc9 hl (by omega) e2 e, ob1_s, ev, ltx_s, nI_1, ltx_s, Nat.add_assoc p0 d 1, h7 N n _ x (by omega) (by rw [pk_un (by decide)]; exact e2) pk_us, upd_upd]
/-- a number is read -/
def NF (tx : Nat → Int32) (l p k : Nat) : Prop := ∀ (N : Nat) (c : bkA) (i : Nat), 300 < N → TXc c tx l → c 2 1 = nI p → i < 5 → ∃ c', m0_readNumber N c (nI i) = some (0, c') ∧ KT c c' ∧ c' 2 3 = nI k
def NO (tx : Nat → Int32) (l p : Nat) (v : Int32) (p' : Nat) : Prop := ∀ (N : Nat) (c : bkA) (i : Nat), 300 < N → TXc c tx l → c 2 1 = nI p → i < 5 → m0_readNumber N c (nI i) = some (1, wr (wr c 2 1 (nI p')) 1 i v)
def MF (tx : Nat → Int32) (l p k : Nat) : Prop := ∀ (N : Nat) (nu q : Nat → Int32) (i : Nat), 300 < N → q 2 = nI l → q 3 = nI p → q 4 = iM → i < 5 → ∃ nu' q' p2, m9_readNumber N tx nu q (nI i) = some (nu', q') ∧ q' 4 = nI k ∧ q' 3 = nI p2 ∧ p2 ≤ l ∧ ∀ j, j ≠ 3 → j ≠ 4 → q' j = q j
def MO (tx : Nat → Int32) (l p : Nat) (v : Int32) (p' : Nat) : Prop := ∀ (N : Nat) (nu q : Nat → Int32) (i : Nat), 300 < N → q 2 = nI l → q 3 = nI p → q 4 = iM → i < 5 → m9_readNumber N tx nu q (nI i) = some (upd nu i v, upd q 3 (nI p'))
theorem rnum {tx : Nat → Int32} {l p : Nat} (hl : l ≤ 150) (hp : p ≤ l) : (∃ k, k ≤ l ∧ NF tx l p k ∧ MF tx l p k) ∨ (∃ v p', p < p' ∧ p' ≤ l ∧ NO tx l p v p' ∧ MO tx l p v p') ∨ (∃ v p', p < p' ∧ p' < l ∧ (¬ m0_isDigit (byt tx l p') = 0) ∧ NO tx l p v p' ∧ MF tx l p p') := by
  obtain ⟨p1, s1, s2, s3, s4, s5, s6, s7⟩ := skp (tx := tx) (p := p) hl (by omega)
  by_cases hb : byt tx l p = 32
  · have h1 := s4 hb
    have h2 := s2 hp
    obtain ⟨d, v, d1, d2, d3, d4, d5, d6, d7⟩ := digs (tx := tx) (p0 := p1) hl (by omega) 3 0 0 rfl
    have d3' := d3 (by omega)
    have hc : ∀ (N : Nat) (c : bkA) (i : Nat), 300 < N → TXc c tx l → c 2 1 = nI p → i < 5 → m0_readNumber N c (nI i) = (if 0 < nI d then some (1, wr (wr c 2 1 (nI (p1 + d))) 1 i v) else some (0, wr (wr (wr c 2 1 (nI (p1 + d))) 1 i v) 2 3 (nI (p1 + d)))) := by
      intro N c i hN ht e hi
      unfold m0_readNumber
      have d6' : m0_readNumber_L26 N N (nI i) 0 0 (wr c 2 1 (nI p1)) = _ := d6 N N (wr c 2 1 (nI p1)) (nI i) (by omega) (KT_TX (KT_wr2 (by decide)) ht) wr_s
      rw [bc7 ht hl (by omega) e, lt1_s, if_pos hb, s6 N c hN ht e, ob1_s, d6', ob3_s, wr_wr, wr_put (by omega) (by decide), ltx_s]
      unfold m0_failAt
      rw [show wr (wr c 2 1 (nI (p1 + d))) 1 i v 2 1 = nI (p1 + d) by rw [wr_n (show (2 : Nat) ≠ 1 by decide), wr_s], ltx_s, wr_u, lt2_s, if_pos rfl]
    have hm : ∀ (N : Nat) (nu q : Nat → Int32) (i : Nat), 300 < N → q 2 = nI l → q 3 = nI p → q 4 = iM → i < 5 → m9_readNumber N tx nu q (nI i) = if d = 0 then some (upd nu i v, upd (upd q 3 (nI (p1 + d))) 4 (nI (p1 + d))) else if m0_isDigit (byt tx l (p1 + d)) = 0 then some (upd nu i v, upd q 3 (nI (p1 + d))) else some (upd nu i v, upd (upd q 3 (nI (p1 + d))) 4 (nI (p1 + d))) := by
      intro N nu q i hN e2 e e4 hi
      unfold m9_readNumber
      have d7' : m9_readNumber_L28 N N (nI i) (nI p1) 0 tx (upd q 3 (nI p1)) = _ := d7 N N (upd q 3 (nI p1)) (nI i) (by omega) (by rw [pk_un (by decide)]; exact e2) pk_us
      rw [bc9 hl (by omega) e2 e, ob1_s, if_pos hb, lt1_s, s7 N q hN e2 e, ob1_s, pk_us, ltx_s, d7', ob2_s, upd_upd, pk_us]
      by_cases d0 : d = 0
      · rw [if_pos d0, if_pos (by rw [d0]; rfl), fail_0 (by rw [pk_un (by decide)]; exact e4), lt1_s, ob1_s, ck_nI hi (by decide), nI_clamp (by omega), ltx_s]
      · rw [if_neg d0, if_neg (fun w => d0 (by have := (nI_eq (by omega) (by omega)).mp w; omega)), isD9 hl (by omega) (by rw [pk_un (by decide)]; exact e2) pk_us, ob1_s]
        by_cases dd : m0_isDigit (byt tx l (p1 + d)) = 0
        · rw [if_pos dd, if_pos dd, ob1_s, ck_nI hi (by decide), nI_clamp (by omega), ltx_s]
        · rw [if_neg dd, if_neg dd, fail_0 (by rw [pk_un (by decide)]; exact e4), lt1_s, ob1_s, ck_nI hi (by decide), nI_clamp (by omega), ltx_s]
    by_cases d0 : d = 0
    · left
      refine ⟨p1 + d, by omega, ?_, ?_⟩
      · intro N c i hN ht e hi
        refine ⟨wr (wr (wr c 2 1 (nI (p1 + d))) 1 i v) 2 3 (nI (p1 + d)), ?_, ?_, wr_s⟩
        · rw [hc N c i hN ht e hi, if_neg (show ¬ (0 : Int32) < nI d by rw [d0]; decide)]
        · exact KT_trans (KT_wr2 (by decide)) (KT_trans KT_wr1 (KT_wr2 (by decide)))
      · intro N nu q i hN e2 e e4 hi
        refine ⟨upd nu i v, upd (upd q 3 (nI (p1 + d))) 4 (nI (p1 + d)), p1 + d, ?_, pk_us, ?_, d3', ?_⟩
        · rw [hm N nu q i hN e2 e e4 hi, if_pos d0]
        · rw [pk_un (by decide), pk_us]
        · intro j j3 j4
          rw [pk_un j4, pk_un j3]
    · have dpos : (0 : Int32) < nI d := nI_lt (a := 0) (by omega) (by omega)
      have no : NO tx l p v (p1 + d) := by
        intro N c i hN ht e hi
        rw [hc N c i hN ht e hi, if_pos dpos]
      by_cases dd : m0_isDigit (byt tx l (p1 + d)) = 0
      · right
        left
        refine ⟨v, p1 + d, by omega, d3', no, ?_⟩
        intro N nu q i hN e2 e e4 hi
        rw [hm N nu q i hN e2 e e4 hi, if_neg d0, if_pos dd]
      · right
        right
        have hin : p1 + d < l := by
          by_cases h : p1 + d < l
          · exact h
          · exfalso
            apply dd
            have : byt tx l (p1 + d) = iM := if_pos (by omega)
            rw [this]
            decide
        refine ⟨v, p1 + d, by omega, hin, dd, no, ?_⟩
        intro N nu q i hN e2 e e4 hi
        refine ⟨upd nu i v, upd (upd q 3 (nI (p1 + d))) 4 (nI (p1 + d)), p1 + d, ?_, pk_us, ?_, d3', ?_⟩
        · rw [hm N nu q i hN e2 e e4 hi, if_neg d0, if_neg dd]
        · rw [pk_un (by decide), pk_us]
        · intro j j3 j4
          rw [pk_un j4, pk_un j3]
  · left
    refine ⟨p, hp, ?_, ?_⟩
    · intro N c i hN ht e hi
      refine ⟨wr c 2 3 (nI p), ?_, KT_wr2 (by decide), wr_s⟩
      unfold m0_readNumber m0_failAt
      rw [bc7 ht hl (by omega) e, lt1_s, if_neg hb, e, ltx_s, wr_u, lt2_s, ckp_t (Or.inl rfl)]
    · intro N nu q i hN e2 e e4 hi
      obtain ⟨d, v, d1, d2, d3, d4, d5, d6, d7⟩ := digs (tx := tx) (p0 := p) hl (by omega) 3 0 0 rfl
      have sp : p1 = p := s5 hb
      subst sp
      have e4' : upd q 4 (nI p1) 4 = nI p1 := pk_us
      have e2' : upd q 4 (nI p1) 2 = nI l := by rw [pk_un (by decide)]; exact e2
      have e3' : upd q 4 (nI p1) 3 = nI p1 := by rw [pk_un (by decide)]; exact e
      have d7' : m9_readNumber_L28 N N (nI i) (nI p1) 0 tx (upd q 4 (nI p1)) = _ := d7 N N (upd q 4 (nI p1)) (nI i) (by omega) e2' e3'
      have d3' := d3 (by omega)
      have f4 : upd (upd q 4 (nI p1)) 3 (nI (p1 + d)) 4 = nI p1 := by rw [pk_un (by decide)]; exact e4'
      refine ⟨upd nu i v, upd (upd q 4 (nI p1)) 3 (nI (p1 + d)), p1 + d, ?_, f4, pk_us, d3', ?_⟩
      · unfold m9_readNumber
        rw [bc9 hl (by omega) e2 e, ob1_s, if_neg hb, e, fail_0 e4, lt1_s, lt1_s, s7 N _ hN e2' e3', ob1_s, pk_us, ltx_s, upd_same e3', d7', ob2_s, pk_us, fail_1 f4 (by omega), lt1_s, isD9 hl (by omega) (by rw [pk_un (by decide)]; exact e2') pk_us, ob1_s]
        have fin : (ob1 (if nI (p1 + d) = nI p1 then some (upd (upd q 4 (nI p1)) 3 (nI (p1 + d))) else if m0_isDigit (byt tx l (p1 + d)) = 0 then some (upd (upd q 4 (nI p1)) 3 (nI (p1 + d))) else lt1 (upd (upd q 4 (nI p1)) 3 (nI (p1 + d))) fun q46 => some q46) fun q39 => ck (nI i) 5 <| lt_ (upd nu (nI i).toNatClampNeg v) fun nu49 => some (nu49, q39)) = some (upd nu i v, upd (upd q 4 (nI p1)) 3 (nI (p1 + d))) := by
          have x : (if nI (p1 + d) = nI p1 then some (upd (upd q 4 (nI p1)) 3 (nI (p1 + d))) else if m0_isDigit (byt tx l (p1 + d)) = 0 then some (upd (upd q 4 (nI p1)) 3 (nI (p1 + d))) else lt1 (upd (upd q 4 (nI p1)) 3 (nI (p1 + d))) fun q46 => some q46) = some (upd (upd q 4 (nI p1)) 3 (nI (p1 + d))) := by
            split
            · rfl
            · split
              · rfl
              · rfl
          rw [x, ob1_s, ck_nI hi (by decide), nI_clamp (by omega), ltx_s]
        exact fin
      · intro j j3 j4
        rw [pk_un j3, pk_un j4]
