/-! a text of commands is checked, and run -/
/-- what the second reading does, from the place p on: count i, the class's cursor at pc -/
def RUNOK (tx : Nat → Int32) (l pc p : Nat) : Prop := ∀ (N n : Nat) (i : Nat) (f c : bkA) (r nu q ow : Nat → Int32) (rs : Nat → Int64), 400 < N → l + 2 < n + pc → i ≤ pc → TXc c tx l → c 2 1 = nI pc → q 2 = nI l → q 3 = nI p → q 4 = iM → SIMX f r → ∃ x f' c' r' ow' rs' nu' q', m8_runCommands_L38 N n (nI i) f c = some (x, f', c') ∧ m9_runCommands_L41 N n (nI i) 1 r tx ow rs nu q = some (x, r', ow', rs', nu', q') ∧ SIMX f' r' ∧ KT c c' ∧ ∀ j, j ≠ 3 → q' j = q j
theorem run_end {tx : Nat → Int32} {l pc p : Nat} (hl : l ≤ 150) (hpc : pc ≤ l) (hs : SKP tx l pc p) (hp : l ≤ p) : RUNOK tx l pc p := by
  intro N n i f c r nu q ow rs hN hn hi ht e e2 e3 e4 hS
  have hpl := hs.2.1 hpc
  cases n with
  | zero => omega
  | succ n =>
    by_cases h150 : i = 150
    · subst h150
      refine ⟨nI 150, f, c, r, ow, rs, nu, q, ?_, ?_, hS, KT_refl, fun j _ => rfl⟩
      · rw [m8_runCommands_L38, if_pos (by decide)]
      · rw [m9_runCommands_L41, if_neg n10, e2, e3, if_pos (nI_le hp (by omega))]
    · refine ⟨nI i, f, wr c 2 1 (nI p), r, ow, rs, nu, q, ?_, ?_, hS, KT_wr2 (by decide), fun j _ => rfl⟩
      · rw [m8_runCommands_L38, if_neg (show ¬ (150 : Int32) ≤ nI i from nI_ge (show i < 150 by omega) (by decide)), next7 hl (by omega) hs (by omega) ht e, if_pos hp, ob2_s, if_pos rfl]
      · rw [m9_runCommands_L41, if_neg n10, e2, e3, if_pos (nI_le hp (by omega))]
theorem chk {tx : Nat → Int32} {l : Nat} (hl : l ≤ 150) : ∀ (k pc p : Nat), l ≤ pc + k → pc ≤ l → SKP tx l pc p → (∃ F, F ≤ l ∧ (∀ (N n i : Nat) (c : bkA), 400 < N → k < n → i ≤ pc → TXc c tx l → c 2 1 = nI pc → ∃ c', m0_findFault_L6 N n (nI i) c = some (nI F, c') ∧ KT c c') ∧ (∀ (N n : Nat) (nu q : Nat → Int32), 400 < N → k + 1 < n → q 2 = nI l → q 3 = nI p → q 4 = iM → ∃ nu' q', m9_check_L14 N n tx nu q = some (nu', q') ∧ q' 4 = nI F ∧ ∀ j, j ≠ 3 → j ≠ 4 → q' j = q j)) ∨ ((∀ (N n i : Nat) (c : bkA), 400 < N → k < n → i ≤ pc → TXc c tx l → c 2 1 = nI pc → c 2 3 = iM → ∃ c', m0_findFault_L6 N n (nI i) c = some (iM, c') ∧ KT c c') ∧ (∀ (N n : Nat) (nu q : Nat → Int32), 400 < N → k + 1 < n → q 2 = nI l → q 3 = nI p → q 4 = iM → ∃ nu' q', m9_check_L14 N n tx nu q = some (nu', q') ∧ q' 4 = iM ∧ ∀ j, j ≠ 3 → j ≠ 4 → q' j = q j) ∧ RUNOK tx l pc p) := by
  intro k
  induction k with
  | zero =>
    intro pc p hk hpc hs
    have hp : l ≤ p := by have := hs.1; omega
    have hpl := hs.2.1 hpc
    right
    refine ⟨?_, ?_, run_end hl hpc hs hp⟩
    · intro N n i c hN hn hi ht e e3
      cases n with
      | zero => omega
      | succ n =>
        by_cases h150 : i = 150
        · subst h150
          exact ⟨c, by rw [m0_findFault_L6, if_pos (by decide), e3], KT_refl⟩
        · refine ⟨wr c 2 1 (nI p), ?_, KT_wr2 (by decide)⟩
          rw [m0_findFault_L6, if_neg (show ¬ (150 : Int32) ≤ nI i from nI_ge (show i < 150 by omega) (by decide)), next7 hl (by omega) hs (by omega) ht e, if_pos hp, ob2_s, if_pos rfl, wr_i (by decide), e3]
    · intro N n nu q hN hn e2 e3 e4
      cases n with
      | zero => omega
      | succ n =>
        refine ⟨nu, q, ?_, e4, fun j _ _ => rfl⟩
        rw [m9_check_L14, e4, if_neg (by decide), e2, e3, if_pos (nI_le hp (by omega))]
  | succ k ih =>
    intro pc p hk hpc hs
    have hpl := hs.2.1 hpc
    by_cases hp : l ≤ p
    · right
      refine ⟨?_, ?_, run_end hl hpc hs hp⟩
      · intro N n i c hN hn hi ht e e3
        cases n with
        | zero => omega
        | succ n =>
          by_cases h150 : i = 150
          · subst h150
            exact ⟨c, by rw [m0_findFault_L6, if_pos (by decide), e3], KT_refl⟩
          · refine ⟨wr c 2 1 (nI p), ?_, KT_wr2 (by decide)⟩
            rw [m0_findFault_L6, if_neg (show ¬ (150 : Int32) ≤ nI i from nI_ge (show i < 150 by omega) (by decide)), next7 hl (by omega) hs (by omega) ht e, if_pos hp, ob2_s, if_pos rfl, wr_i (by decide), e3]
      · intro N n nu q hN hn e2 e3 e4
        cases n with
        | zero => omega
        | succ n =>
          refine ⟨nu, q, ?_, e4, fun j _ _ => rfl⟩
          rw [m9_check_L14, e4, if_neg (by decide), e2, e3, if_pos (nI_le hp (by omega))]
    · have hpp := hs.1
      have n150 : ∀ i, i ≤ pc → ¬ (150 : Int32) ≤ nI i := fun i hi => nI_ge (show i < 150 by omega) (by decide)
      rcases rcmd (tx := tx) (p := p) hl (by omega) with ⟨F, f1, f2, f3⟩ | ⟨w, vs, p', p2, hw, g1, g2, g3, g4, g5⟩
      · left
        refine ⟨F, f1, ?_, ?_⟩
        · intro N n i c hN hn hi ht e
          cases n with
          | zero => omega
          | succ n =>
            obtain ⟨c', a1, a2, a3⟩ := f2 N (wr c 2 1 (nI p)) (by omega) (KT_TX (KT_wr2 (by decide)) ht) wr_s
            refine ⟨c', ?_, KT_trans (KT_wr2 (by decide)) a2⟩
            rw [m0_findFault_L6, if_neg (n150 i hi), next7 hl (by omega) hs (by omega) ht e, if_neg hp, a1, ob2_s, if_pos rfl, a3]
        · intro N n nu q hN hn e2 e3 e4
          cases n with
          | zero => omega
          | succ n =>
            obtain ⟨x, nu', q', a1, a2, a3⟩ := f3 N nu q (by omega) e2 e3 e4
            refine ⟨nu', q', ?_, a2, a3⟩
            rw [m9_check_L14, e4, if_neg (by decide), e2, e3, if_neg (nI_ge (by omega) (by omega)), a1, ob3_s]
            cases n with
            | zero => omega
            | succ n => rw [m9_check_L14, a2, if_pos (nI_pos' (by omega))]
      · rcases ih p' p2 (by omega) g2 g3 with ⟨F, h1, h2, h3⟩ | ⟨h1, h2, h3⟩
        · left
          refine ⟨F, h1, ?_, ?_⟩
          · intro N n i c hN hn hi ht e
            cases n with
            | zero => omega
            | succ n =>
              obtain ⟨c', a1, a2, a3, a4, a5, a6⟩ := g4 N (wr c 2 1 (nI p)) (by omega) (KT_TX (KT_wr2 (by decide)) ht) wr_s
              have kt : KT c c' := KT_trans (KT_wr2 (by decide)) a2
              obtain ⟨c2, b1, b2⟩ := h2 N n (i+1) c' hN (by omega) (by omega) (KT_TX kt ht) a3
              refine ⟨c2, ?_, KT_trans kt b2⟩
              rw [m0_findFault_L6, if_neg (n150 i hi), next7 hl (by omega) hs (by omega) ht e, if_neg hp, a1, ob2_s, if_neg n10, ltx_s, nI_1, b1]
          · intro N n nu q hN hn e2 e3 e4
            cases n with
            | zero => omega
            | succ n =>
              obtain ⟨nu', a1, a2⟩ := g5 N nu q (by omega) e2 e3 e4
              obtain ⟨nu2, q2, b1, b2, b3⟩ := h3 N n nu' (upd q 3 (nI p2)) hN (by omega) (by rw [pk_un (by decide)]; exact e2) pk_us (by rw [pk_un (by decide)]; exact e4)
              refine ⟨nu2, q2, ?_, b2, fun j j3 j4 => (b3 j j3 j4).trans (pk_un j3)⟩
              rw [m9_check_L14, e4, if_neg (by decide), e2, e3, if_neg (nI_ge (by omega) (by omega)), a1, ob3_s, b1]
        · right
          refine ⟨?_, ?_, ?_⟩
          · intro N n i c hN hn hi ht e e3
            cases n with
            | zero => omega
            | succ n =>
              obtain ⟨c', a1, a2, a3, a4, a5, a6⟩ := g4 N (wr c 2 1 (nI p)) (by omega) (KT_TX (KT_wr2 (by decide)) ht) wr_s
              have kt : KT c c' := KT_trans (KT_wr2 (by decide)) a2
              obtain ⟨c2, b1, b2⟩ := h1 N n (i+1) c' hN (by omega) (by omega) (KT_TX kt ht) a3 (by rw [a5, wr_i (by decide)]; exact e3)
              refine ⟨c2, ?_, KT_trans kt b2⟩
              rw [m0_findFault_L6, if_neg (n150 i hi), next7 hl (by omega) hs (by omega) ht e, if_neg hp, a1, ob2_s, if_neg n10, ltx_s, nI_1, b1]
          · intro N n nu q hN hn e2 e3 e4
            cases n with
            | zero => omega
            | succ n =>
              obtain ⟨nu', a1, a2⟩ := g5 N nu q (by omega) e2 e3 e4
              obtain ⟨nu2, q2, b1, b2, b3⟩ := h2 N n nu' (upd q 3 (nI p2)) hN (by omega) (by rw [pk_un (by decide)]; exact e2) pk_us (by rw [pk_un (by decide)]; exact e4)
              refine ⟨nu2, q2, ?_, b2, fun j j3 j4 => (b3 j j3 j4).trans (pk_un j3)⟩
              rw [m9_check_L14, e4, if_neg (by decide), e2, e3, if_neg (nI_ge (by omega) (by omega)), a1, ob3_s, b1]
          · intro N n i f c r nu q ow rs hN hn hi ht e e2 e3 e4 hS
            cases n with
            | zero => omega
            | succ n =>
              obtain ⟨c', a1, a2, a3, a4, a5, a6⟩ := g4 N (wr c 2 1 (nI p)) (by omega) (KT_TX (KT_wr2 (by decide)) ht) wr_s
              have kt : KT c c' := KT_trans (KT_wr2 (by decide)) a2
              obtain ⟨nu', b1, b2⟩ := g5 N nu q (by omega) e2 e3 e4
              obtain ⟨x, f1, r1, ow1, rs1, d1, d2, d3, d4⟩ := S_carry (N := N) (c := c') (nu := nu') (vs := vs) (ow := ow) (rs := rs) hS (by omega) hw a4 a6 b2
              rw [m8_runCommands_L38, if_neg (n150 i hi), next7 hl (by omega) hs (by omega) ht e, if_neg hp, a1, ob2_s, if_neg n10, d1, ob2_s, m9_runCommands_L41, if_neg n10, e2, e3, if_neg (nI_ge (by omega) (by omega)), b1, ob3_s, d2, ob4_s]
              rcases d3 with e0 | e1
              · subst e0
                rw [if_pos rfl, if_pos rfl, lt1_s, ltx_s, Int32.add_zero]
                refine ⟨nI i, f1, c', r1, ow1, rs1, nu', upd q 3 (nI p2), rfl, ?_, d4, kt, fun j j3 => pk_un j3⟩
                cases n with
                | zero => omega
                | succ n => rw [m9_runCommands_L41, if_pos rfl]
              · subst e1
                rw [if_neg n10, if_neg n10, lt1_s, ltx_s, ltx_s, nI_1]
                obtain ⟨x, f2, c2, r2, ow2, rs2, nu2, q2, z1, z2, z3, z4, z5⟩ := h3 N n (i+1) f1 c' r1 nu' (upd q 3 (nI p2)) ow1 rs1 hN (by omega) (by omega) (KT_TX kt ht) a3 (by rw [pk_un (by decide)]; exact e2) pk_us (by rw [pk_un (by decide)]; exact e4) d4
                exact ⟨x, f2, c2, r2, ow2, rs2, nu2, q2, z1, z2, z3, KT_trans kt z4, fun j j3 => (z5 j j3).trans (pk_un j3)⟩
/-- the command text, in the class and in the model -/
def CM (c : bkA) (tx q : Nat → Int32) : Prop := ∃ l, l ≤ 150 ∧ TXc c tx l ∧ q 2 = nI l
theorem CM_KT {c c' : bkA} {tx q q' : Nat → Int32} (h : CM c tx q) (k : KT c c') (e : q' 2 = q 2) : CM c' tx q' := by
  obtain ⟨l, h1, h2, h3⟩ := h
  exact ⟨l, h1, KT_TX k h2, e.trans h3⟩
theorem S_run {f c : bkA} {r tx nu q sv ow : Nat → Int32} {rs : Nat → Int64} {y : Nat → bkA} {o : Nat → Int32} {N : Nat} (hS : SIMX f r) (hC : CM c tx q) (hH : HS y o sv q) (hN : 1100 < N) : ∃ x f' c' y' o' r' sv' ow' rs' nu' q', m8_runCommands N f c y o = some (x, f', c', y', o') ∧ m9_runCommands N r sv tx ow rs nu q = some (x, r', sv', ow', rs', nu', q') ∧ SIMX f' r' ∧ CM c' tx q' ∧ HS y' o' sv' q' := by
  obtain ⟨l, hl, ht, e2⟩ := hC
  obtain ⟨p, hs⟩ := skp (tx := tx) (l := l) (p := 0) hl (by omega)
  have rw7 : m0_rewind c = wr (wr c 2 1 0) 2 3 (-1) := rfl
  have kt0 : ∀ c : bkA, KT c (wr (wr c 2 1 0) 2 3 (-1)) := fun c => KT_trans (KT_wr2 (by decide)) (KT_wr2 (by decide))
  have q00 : upd (upd (upd q 0 0) 3 0) 4 (-1) 2 = nI l := by
    rw [pk_un (by decide), pk_un (by decide), pk_un (by decide)]
    exact e2
  have sk9 : m9_skip N tx (upd (upd (upd q 0 0) 3 0) 4 (-1)) = some (upd (upd (upd (upd q 0 0) 3 0) 4 (-1)) 3 (nI p)) := hs.2.2.2.2.2.2 N _ (by omega) q00 (by rw [pk_un (by decide)]; exact pk_us)
  have qa2 : upd (upd (upd (upd q 0 0) 3 0) 4 (-1)) 3 (nI p) 2 = nI l := by rw [pk_un (by decide)]; exact q00
  have qa4 : upd (upd (upd (upd q 0 0) 3 0) 4 (-1)) 3 (nI p) 4 = iM := by rw [pk_un (by decide)]; exact pk_us
  have qaj : ∀ j, j ≠ 0 → j ≠ 3 → j ≠ 4 → upd (upd (upd (upd q 0 0) 3 0) 4 (-1)) 3 (nI p) j = q j := by
    intro j j0 j3 j4
    rw [pk_un j3, pk_un j4, pk_un j3, pk_un j0]
  rcases chk (tx := tx) hl 150 0 p (by omega) (by omega) hs with ⟨F, f1, f2, f3⟩ | ⟨f1, f2, f3⟩
  · obtain ⟨c', a1, a2⟩ := f2 N N 0 _ (by omega) (by omega) (by omega) (KT_TX (kt0 c) ht) (by rw [wr_i (by decide)]; exact wr_s)
    obtain ⟨nu', q', b1, b2, b3⟩ := f3 N N nu _ (by omega) (by omega) qa2 pk_us qa4
    have a1' : m0_findFault_L6 N N 0 (wr (wr c 2 1 0) 2 3 (-1)) = some (nI F, c') := a1
    refine ⟨-10 - nI F, f, c', y, o, r, sv, ow, rs, nu', q', ?_, ?_, hS, ⟨l, hl, KT_TX (KT_trans (kt0 c) a2) ht, ?_⟩, ?_⟩
    · unfold m8_runCommands m0_findFault
      rw [rw7, lt1_s, a1', ob2_s, if_neg (show ¬ nI F = -1 from nI_ne_iM (by omega))]
    · unfold m9_runCommands m9_check
      rw [ltx_s, ltx_s, ltx_s, sk9, ob1_s, b1, ob2_s, ob2_s, b2, if_neg (nI_pos (by omega))]
    · rw [b3 2 (by decide) (by decide)]
      exact qa2
    · obtain ⟨a, cc, h1, h2, h3, h4, h5, h6⟩ := hH
      exact ⟨a, cc, h1, h2, h3, h4, by rw [b3 1 (by decide) (by decide), qaj 1 (by decide) (by decide) (by decide)]; exact h5, h6⟩
  · obtain ⟨c', a1, a2⟩ := f1 N N 0 _ (by omega) (by omega) (by omega) (KT_TX (kt0 c) ht) (by rw [wr_i (by decide)]; exact wr_s) wr_s
    obtain ⟨nu', q', b1, b2, b3⟩ := f2 N N nu _ (by omega) (by omega) qa2 pk_us qa4
    have a1' : m0_findFault_L6 N N 0 (wr (wr c 2 1 0) 2 3 (-1)) = some (iM, c') := a1
    have hH' : HS y o sv q' := by
      obtain ⟨a, cc, h1, h2, h3, h4, h5, h6⟩ := hH
      exact ⟨a, cc, h1, h2, h3, h4, by rw [b3 1 (by decide) (by decide), qaj 1 (by decide) (by decide) (by decide)]; exact h5, h6⟩
    obtain ⟨y', o', sv', q2, s1, s2, s3, s4⟩ := S_save (N := N) hH' hS hN
    have t2 : q2 2 = nI l := by
      rw [s4 2 (by decide), b3 2 (by decide) (by decide)]
      exact qa2
    have rw7' : m0_rewind c' = wr (wr c' 2 1 0) 2 3 (-1) := rfl
    have sk9' : m9_skip N tx (upd q2 3 0) = some (upd (upd q2 3 0) 3 (nI p)) := hs.2.2.2.2.2.2 N _ (by omega) (by rw [pk_un (by decide)]; exact t2) pk_us
    have ktc : KT c (wr (wr c' 2 1 0) 2 3 (-1)) := KT_trans (KT_trans (kt0 c) a2) (kt0 c')
    obtain ⟨x, f', c2, r', ow', rs', nu2, q3, z1, z2, z3, z4, z5⟩ := f3 N N 0 f (wr (wr c' 2 1 0) 2 3 (-1)) r nu' (upd (upd q2 3 0) 3 (nI p)) ow rs (by omega) (by omega) (by omega) (KT_TX ktc ht) (by rw [wr_i (by decide)]; exact wr_s) (by rw [pk_un (by decide), pk_un (by decide)]; exact t2) pk_us (by rw [pk_un (by decide), pk_un (by decide), s4 4 (by decide)]; exact b2) hS
    have z1' : m8_runCommands_L38 N N 0 f (wr (wr c' 2 1 0) 2 3 (-1)) = some (x, f', c2) := z1
    have z2' : m9_runCommands_L41 N N 0 1 r tx ow rs nu' (upd (upd q2 3 0) 3 (nI p)) = some (x, r', ow', rs', nu2, q3) := z2
    refine ⟨x, f', c2, y', o', r', sv', ow', rs', nu2, q3, ?_, ?_, z3, ⟨l, hl, KT_TX (KT_trans ktc z4) ht, ?_⟩, ?_⟩
    · unfold m8_runCommands m0_findFault
      rw [rw7, lt1_s, a1', ob2_s, if_pos (show iM = -1 from rfl), s1, ob2_s, rw7', lt1_s, z1', ob3_s]
    · unfold m9_runCommands m9_check
      rw [ltx_s, ltx_s, ltx_s, sk9, ob1_s, b1, ob2_s, ob2_s, b2, if_pos (by decide), s2, ob2_s, ltx_s, sk9', ob1_s, z2', ob6_s]
    · rw [z5 2 (by decide), pk_un (by decide), pk_un (by decide)]
      exact t2
    · obtain ⟨a, cc, h1, h2, h3, h4, h5, h6⟩ := s3
      exact ⟨a, cc, h1, h2, h3, h4, by rw [z5 1 (by decide), pk_un (by decide), pk_un (by decide)]; exact h5, h6⟩
