/-! the reader of commands: a whole command -/
def wn (w : Nat) : Nat := if w = 0 then 5 else if w = 2 then 3 else if w = 3 then 2 else if w = 4 then 2 else if w = 6 then 2 else if w = 5 then 1 else 0
theorem wn7 : ∀ w, w < 8 → m0_numbersOf (nI w) = nI (wn w) ∧ m9_numbersOf (nI w) = nI (wn w) ∧ wn w ≤ 5 := by decide
def R7 (N : Nat) (c1 : bkA) : Option (Int32 × bkA) :=
  ob2 (m0_readWord N c1) fun x4 c5 =>
    if x4 = 0 then
      some (0, c5)
    else
      lt1 (m0_numbersOf (c5 2 2)) fun x8 =>
      m0_readNext_L34 N N x8 0 c5
theorem next7 {c : bkA} {tx : Nat → Int32} {l pc p N : Nat} (hl : l ≤ 150) (hp : p ≤ 200) (hs : SKP tx l pc p) (hN : 300 < N) (ht : TXc c tx l) (e : c 2 1 = nI pc) : m0_readNext N c = if l ≤ p then some (0, wr c 2 1 (nI p)) else R7 N (wr c 2 1 (nI p)) := by
  unfold m0_readNext R7
  rw [hs.2.2.2.2.2.1 N c hN ht e, ob1_s, wr_i (show (0 : Nat) ≠ 1 by decide), ht.2, wr_s]
  by_cases h : l ≤ p
  · rw [if_pos (nI_le h (by omega)), if_pos h]
  · rw [if_neg (nI_ge (by omega) (by omega)), if_neg h]
theorem T9_to {N : Nat} {tx q20 q' : Nat → Int32} {x1 : Int32} {nu19 : Nat → Int32} (h : T9 N tx q20 = some q') : (ob1 (m9_skip N tx q20) fun q22 =>
  ob1 (
      if 0 ≤ (q22 4) then
        some q22
      else
        ob1 (m9_here tx q22) fun x32 =>
        if x32 = 59 then
          some q22
        else
          lt1 (m9_fail q22 (q22 3)) fun q35 =>
          some q35) fun q30 =>
  lt_ (upd q30 3 ((q30 3) + 1)) fun q37 =>
  ob1 (m9_skip N tx q37) fun q38 =>
  some (x1, nu19, q38)) = some (x1, nu19, q') := by
  unfold T9 at h
  obtain ⟨q22, b1, h⟩ := ob1_e h
  obtain ⟨q30, b2, h⟩ := ob1_e h
  rw [ltx_s] at h
  obtain ⟨q38, b3, h⟩ := ob1_e h
  rw [b1, ob1_s, b2, ob1_s, ltx_s, b3, ob1_s, Option.some.inj h]
theorem rcmd {tx : Nat → Int32} {l p : Nat} (hl : l ≤ 150) (hp : p < l) : (∃ F, F ≤ l ∧ (∀ (N : Nat) (c : bkA), 300 < N → TXc c tx l → c 2 1 = nI p → ∃ c', R7 N c = some (0, c') ∧ KT c c' ∧ c' 2 3 = nI F) ∧ (∀ (N : Nat) (nu q : Nat → Int32), 300 < N → q 2 = nI l → q 3 = nI p → q 4 = iM → ∃ x nu' q', m9_readCommand N tx nu q = some (x, nu', q') ∧ q' 4 = nI F ∧ ∀ j, j ≠ 3 → j ≠ 4 → q' j = q j)) ∨ (∃ (w : Nat) (vs : Nat → Int32) (p' p2 : Nat), w < 8 ∧ p < p' ∧ p' ≤ l ∧ SKP tx l p' p2 ∧ (∀ (N : Nat) (c : bkA), 300 < N → TXc c tx l → c 2 1 = nI p → ∃ c', R7 N c = some (1, c') ∧ KT c c' ∧ c' 2 1 = nI p' ∧ c' 2 2 = nI w ∧ c' 2 3 = c 2 3 ∧ ∀ j, j < wn w → c' 1 j = vs j) ∧ (∀ (N : Nat) (nu q : Nat → Int32), 300 < N → q 2 = nI l → q 3 = nI p → q 4 = iM → ∃ nu', m9_readCommand N tx nu q = some (nI w, nu', upd q 3 (nI p2)) ∧ ∀ j, j < wn w → nu' j = vs j)) := by
  rcases rword (tx := tx) (p := p) hl (by omega) with ⟨h1, e, he, h2⟩ | ⟨w, e, hw, hpe, he, h1, h2⟩
  · left
    refine ⟨p, by omega, ?_, ?_⟩
    · intro N c hN ht ec
      obtain ⟨c', a1, a2, a3⟩ := h1 N c hN ht ec
      refine ⟨c', ?_, a2, a3⟩
      unfold R7
      rw [a1, ob2_s, if_pos rfl]
    · intro N nu q hN e2 e3 e4
      have f4 : upd (upd q 3 (nI e)) 4 (nI p) 4 = nI p := pk_us
      obtain ⟨q', t1, t2, t3⟩ := T9_fault (tx := tx) (q := upd (upd q 3 (nI e)) 4 (nI p)) (p := e) (k := p) hl he (by omega) hN (by rw [pk_un (by decide), pk_un (by decide)]; exact e2) (by rw [pk_un (by decide)]; exact pk_us) f4
      refine ⟨-1, nu, q', ?_, t2, ?_⟩
      · have l7 : m9_readCommand_L7 N N (-1) 0 tx nu (upd (upd q 3 (nI e)) 4 (nI p)) = some (nu, upd (upd q 3 (nI e)) 4 (nI p)) := by
          cases N with
          | zero => omega
          | succ n => rw [m9_readCommand_L7, f4, if_pos (nI_pos' (by omega))]
        unfold m9_readCommand
        rw [h2 N q hN e2 e3 e4, ob2_s, l7, ob2_s]
        exact T9_to t1
      · intro j j3 j4
        rw [t3 j j3, pk_un j4, pk_un j3]
  · obtain ⟨w7, w9, w5⟩ := wn7 w hw
    rcases rnums (tx := tx) hl w5 (wn w) 0 e (by omega) he with ⟨F, f1, f2, f3⟩ | ⟨vs, p', p2, f1, f2, f3, f4, f5⟩
    · left
      refine ⟨F, f1, ?_, ?_⟩
      · intro N c hN ht ec
        have kt : KT c (wr (wr c 2 1 (nI e)) 2 2 (nI w)) := KT_trans (KT_wr2 (by decide)) (KT_wr2 (by decide))
        obtain ⟨c', a1, a2, a3⟩ := f2 N N _ hN (by omega) (KT_TX kt ht) (by rw [wr_i (by decide)]; exact wr_s)
        have a1' : m0_readNext_L34 N N (nI (wn w)) 0 (wr (wr c 2 1 (nI e)) 2 2 (nI w)) = some (0, c') := a1
        refine ⟨c', ?_, KT_trans kt a2, a3⟩
        unfold R7
        rw [h1 N c hN ht ec, ob2_s, if_neg n10, wr_s, w7, lt1_s, a1']
      · intro N nu q hN e2 e3 e4
        obtain ⟨nu1, q1, q2, a1, a2, a3, a4⟩ := f3 N N nu (upd q 3 (nI e)) (nI w) hN (by omega) w9 (by rw [pk_un (by decide)]; exact e2) pk_us (by rw [pk_un (by decide)]; exact e4)
        have a1' : m9_readCommand_L7 N N (nI w) 0 tx nu (upd q 3 (nI e)) = some (nu1, q1) := a1
        refine ⟨nI w, nu1, q2, ?_, a3, fun j j3 j4 => (a4 j j3 j4).trans (pk_un j3)⟩
        unfold m9_readCommand
        rw [h2 N q hN e2 e3 e4, ob2_s, a1', ob2_s]
        exact T9_to a2
    · right
      refine ⟨w, vs, p', p2, hw, by omega, f2, f3, ?_, ?_⟩
      · intro N c hN ht ec
        have kt : KT c (wr (wr c 2 1 (nI e)) 2 2 (nI w)) := KT_trans (KT_wr2 (by decide)) (KT_wr2 (by decide))
        obtain ⟨c', a1, a2, a3, a4, a5, a6, a7⟩ := f4 N N _ hN (by omega) (KT_TX kt ht) (by rw [wr_i (by decide)]; exact wr_s)
        have a1' : m0_readNext_L34 N N (nI (wn w)) 0 (wr (wr c 2 1 (nI e)) 2 2 (nI w)) = some (1, c') := a1
        refine ⟨c', ?_, KT_trans kt a2, a3, ?_, ?_, fun j hj => a7 j (by omega) hj⟩
        · unfold R7
          rw [h1 N c hN ht ec, ob2_s, if_neg n10, wr_s, w7, lt1_s, a1']
        · rw [a4, wr_s]
        · rw [a5, wr_i (by decide), wr_i (by decide)]
      · intro N nu q hN e2 e3 e4
        obtain ⟨nu1, q1, a1, a2, a3, a4⟩ := f5 N N nu (upd q 3 (nI e)) (nI w) hN (by omega) w9 (by rw [pk_un (by decide)]; exact e2) pk_us (by rw [pk_un (by decide)]; exact e4)
        have a1' : m9_readCommand_L7 N N (nI w) 0 tx nu (upd q 3 (nI e)) = some (nu1, q1) := a1
        rw [upd_upd] at a2
        refine ⟨nu1, ?_, fun j hj => a4 j (by omega) hj⟩
        unfold m9_readCommand
        rw [h2 N q hN e2 e3 e4, ob2_s, a1', ob2_s]
        exact T9_to a2
