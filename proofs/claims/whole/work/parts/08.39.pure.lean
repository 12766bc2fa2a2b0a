/-! the reader of commands: words -/
theorem lettersL {tx : Nat → Int32} {l : Nat} (hl : l ≤ 150) : ∀ (k p : Nat), l ≤ p + k → p ≤ l → ∃ e, p ≤ e ∧ e ≤ l ∧ (∀ j, p ≤ j → j < e → ¬ tx j = 0) ∧ (∀ (N n : Nat) (c : bkA) (x : Int32), k < n → TXc c tx l → c 2 1 = nI p → m0_readWord_L5 N n x c = some (wr c 2 1 (nI e))) ∧ (∀ (N n : Nat) (q : Nat → Int32) (x : Int32), k < n → q 2 = nI l → q 3 = nI p → m9_readWord_L5 N n x tx q = some (upd q 3 (nI e))) := by
  intro k
  induction k with
  | zero =>
    intro p hk hp
    have hb : byt tx l p = iM := if_pos (by omega)
    refine ⟨p, Nat.le_refl p, hp, fun j h1 h2 => by omega, ?_, ?_⟩
    · intro N n c x hkn ht e
      cases n with
      | zero => omega
      | succ n => rw [m0_readWord_L5, ht.2, e, if_pos (nI_le (by omega) (by omega)), wr_same e]
    · intro N n q x hkn e2 e
      cases n with
      | zero => omega
      | succ n => rw [m9_readWord_L5, isL9 hl (by omega) e2 e, ob1_s, hb, if_pos (by decide), upd_same e]
  | succ k ih =>
    intro p hk hp
    by_cases hb : m0_isLetter (byt tx l p) = 0
    · refine ⟨p, Nat.le_refl p, hp, fun j h1 h2 => by omega, ?_, ?_⟩
      · intro N n c x hkn ht e
        cases n with
        | zero => omega
        | succ n =>
          rw [m0_readWord_L5, bc7 ht hl (by omega) e, lt1_s, lt1_s, if_pos hb, wr_same e]
          split
          · rfl
          · rfl
      · intro N n q x hkn e2 e
        cases n with
        | zero => omega
        | succ n => rw [m9_readWord_L5, isL9 hl (by omega) e2 e, ob1_s, if_pos hb, upd_same e]
    · have hin : p < l := by
        by_cases h : p < l
        · exact h
        · exfalso
          apply hb
          have : byt tx l p = iM := if_pos (by omega)
          rw [this]
          decide
      obtain ⟨e', h1, h2, h3, h4, h5⟩ := ih (p+1) (by omega) (by omega)
      refine ⟨e', by omega, h2, ?_, ?_, ?_⟩
      · intro j hj1 hj2
        by_cases ej : j = p
        · subst ej
          intro w
          rw [byt_tx hin, w] at hb
          exact hb (by decide)
        · exact h3 j (by omega) hj2
      · intro N n c x hkn ht e
        cases n with
        | zero => omega
        | succ n =>
          rw [m0_readWord_L5, ht.2, e, if_neg (nI_ge (by omega) (by omega)), bc7 ht hl (by omega) e, lt1_s, lt1_s, if_neg hb, nI_1, wr_u, ltx_s, h4 N n _ x (by omega) (KT_TX (KT_wr2 (by decide)) ht) wr_s, wr_wr]
      · intro N n q x hkn e2 e
        cases n with
        | zero => omega
        | succ n => rw [m9_readWord_L5, isL9 hl (by omega) e2 e, ob1_s, if_neg hb, e, nI_1, ltx_s, h5 N n _ x (by omega) (by rw [pk_un (by decide)]; exact e2) pk_us, upd_upd]
def wL (w : Nat) : Nat := skL.getD w 0
theorem wL_le : ∀ w, w < 8 → 4 ≤ wL w ∧ wL w ≤ 6 := by decide
theorem skC_ne : ∀ w, w < 8 → ∀ i, i < wL w → ¬ skC w i = 0 := by decide +kernel
theorem low_6 : ∀ w, w < 8 → ∀ i, i < 6 → m9_letterOfWord (nI w) (nI i) = if i < wL w then skC w i else 0 := by decide +kernel
theorem lof_6 {i : Nat} {a b c d e f : Int32} (h : 6 ≤ i) (h2 : i < 1000) : m9_letterOf (nI i) a b c d e f = 0 := by
  unfold m9_letterOf
  rw [if_neg (fun q => by have := (nI_eq (b := 0) (by omega) (by decide)).mp q; omega), if_neg (fun q => by have := (nI_eq (b := 1) (by omega) (by decide)).mp q; omega), if_neg (fun q => by have := (nI_eq (b := 2) (by omega) (by decide)).mp q; omega), if_neg (fun q => by have := (nI_eq (b := 3) (by omega) (by decide)).mp q; omega), if_neg (fun q => by have := (nI_eq (b := 4) (by omega) (by decide)).mp q; omega), if_neg (fun q => by have := (nI_eq (b := 5) (by omega) (by decide)).mp q; omega)]
theorem low9 {w i : Nat} (hw : w < 8) (hi : i < 1000) : m9_letterOfWord (nI w) (nI i) = if i < wL w then skC w i else 0 := by
  by_cases h : i < 6
  · exact low_6 w hw i h
  · rw [if_neg (by have := wL_le w hw; omega)]
    unfold m9_letterOfWord
    rw [lof_6 (by omega) hi, lof_6 (by omega) hi, lof_6 (by omega) hi, lof_6 (by omega) hi, lof_6 (by omega) hi, lof_6 (by omega) hi, lof_6 (by omega) hi, lof_6 (by omega) hi]
    simp only [lt1_s, ite_self]
theorem name_w : ∀ w, w < 8 → m0_nameOf (nI w) = w := by decide
/-- the word w stands from p to e -/
def WM (tx : Nat → Int32) (p e w : Nat) : Prop := wL w = e - p ∧ ∀ i, i < e - p → tx (p + i) = skC w i
theorem stands7 {c : bkA} {tx : Nat → Int32} {l p e w N : Nat} (hl : l ≤ 150) (hpe : p ≤ e) (hel : e ≤ l) (hw : w < 8) (ht : TXc c tx l) (hN : 300 < N) : (WM tx p e w → m0_stands N c w (nI p) (nI e) = some 1) ∧ (¬ WM tx p e w → m0_stands N c w (nI p) (nI e) = some 0) := by
  have hwl := wL_le w hw
  have es : nI e - nI p = nI (e - p) := pk_sub hpe
  by_cases hlen : wL w = e - p
  · have z : ∀ (k i n : Nat), i + k = e - p → k < n → (∀ j, j < i → tx (p + j) = skC w j) → (m0_stands_L15 N w n (nI p) (nI i) c = some 1 ∧ WM tx p e w) ∨ (m0_stands_L15 N w n (nI p) (nI i) c = some 0 ∧ ¬ WM tx p e w) := by
      intro k
      induction k with
      | zero =>
        intro i n hi hn hj
        cases n with
        | zero => omega
        | succ n =>
          left
          refine ⟨?_, hlen, fun j h => hj j (by omega)⟩
          rw [m0_stands_L15, if_pos (show nI (skL.getD w 0) ≤ nI i from nI_le (show wL w ≤ i by omega) (by omega))]
      | succ k ih =>
        intro i n hi hn hj
        cases n with
        | zero => omega
        | succ n =>
          have ec : rat 150 (c 0) (nI p + nI i) = tx (p + i) := by
            rw [nI_add, rat_nI (by omega) (by decide)]
            exact ht.1 (p + i) (by omega)
          rw [m0_stands_L15, if_neg (show ¬ nI (skL.getD w 0) ≤ nI i from nI_ge (show i < wL w by omega) (show wL w < 2^31 by omega)), ck_nI (show i < skL.getD w 0 from (by show i < wL w; omega)) (by show wL w < 2^31; omega), ec, nI_clamp (by omega)]
          by_cases cm : tx (p + i) = skC w i
          · rw [if_pos cm, ltx_s, nI_1]
            refine ih (i+1) n (by omega) (by omega) ?_
            intro j hj2
            by_cases ej : j = i
            · subst ej
              exact cm
            · exact hj j (by omega)
          · rw [if_neg cm]
            right
            exact ⟨rfl, fun q => cm (q.2 i (by omega))⟩
    have z0' := z (e - p) 0 N (by omega) (by omega) (fun j h => by omega)
    have hs : m0_stands N c w (nI p) (nI e) = m0_stands_L15 N w N (nI p) 0 c := by
      unfold m0_stands
      rw [es, if_pos (show nI (skL.getD w 0) = nI (e - p) from congrArg nI hlen)]
    rw [hs]
    constructor
    · intro q
      rcases z0' with h | h
      · exact h.1
      · exact absurd q h.2
    · intro q
      rcases z0' with h | h
      · exact absurd h.2 q
      · exact h.1
  · constructor
    · intro q
      exact absurd q.1 hlen
    · intro _
      unfold m0_stands
      rw [es, if_neg (show ¬ nI (skL.getD w 0) = nI (e - p) from fun q => hlen ((nI_eq (a := wL w) (by omega) (by omega)).mp q))]
theorem isWord9 {q tx : Nat → Int32} {l p e w N : Nat} (hl : l ≤ 150) (hpe : p ≤ e) (hel : e ≤ l) (hw : w < 8) (hne : ∀ j, p ≤ j → j < e → ¬ tx j = 0) (e3 : q 3 = nI e) (hN : 300 < N) : (WM tx p e w → m9_isWord N tx q (nI w) (nI p) = some 1) ∧ (¬ WM tx p e w → m9_isWord N tx q (nI w) (nI p) = some 0) := by
  have hwl := wL_le w hw
  have es : nI e - nI p = nI (e - p) := pk_sub hpe
  obtain ⟨X, eX⟩ : ∃ X : Nat → Int32, X = fun i => if e - p ≤ i then 0 else tx (p + i) := ⟨_, rfl⟩
  have iff1 : WM tx p e w ↔ ∀ i, i ≤ e - p → (if i < wL w then skC w i else 0) = X i := by
    constructor
    · intro h i hi
      rw [eX]
      dsimp only
      by_cases c : e - p ≤ i
      · rw [if_pos c, if_neg (by have := h.1; omega)]
      · rw [if_neg c, if_pos (by have := h.1; omega), h.2 i (by omega)]
    · intro h
      have hlen : wL w = e - p := by
        by_cases c1 : wL w < e - p
        · have h1 := h (wL w) (by omega)
          rw [if_neg (by omega), eX] at h1
          dsimp only at h1
          rw [if_neg (by omega)] at h1
          exact absurd h1.symm (hne (p + wL w) (by omega) (by omega))
        · by_cases c2 : e - p < wL w
          · have h1 := h (e - p) (Nat.le_refl _)
            rw [if_pos c2, eX] at h1
            dsimp only at h1
            rw [if_pos (Nat.le_refl _)] at h1
            exact absurd h1 (skC_ne w hw (e - p) c2)
          · omega
      refine ⟨hlen, ?_⟩
      intro i hi
      have h1 := h i (by omega)
      rw [if_pos (by omega), eX] at h1
      dsimp only at h1
      rw [if_neg (by omega)] at h1
      exact h1.symm
  have z : ∀ (k i n : Nat), i + k = e - p + 1 → k + 1 < n → (∀ j, j < i → (if j < wL w then skC w j else 0) = X j) → (m9_isWord_L5 N n (nI w) (nI p) 1 (nI i) tx q = some 1 ∧ WM tx p e w) ∨ (m9_isWord_L5 N n (nI w) (nI p) 1 (nI i) tx q = some 0 ∧ ¬ WM tx p e w) := by
    intro k
    induction k with
    | zero =>
      intro i n hi hn hj
      cases n with
      | zero => omega
      | succ n =>
        left
        refine ⟨?_, iff1.mpr fun j h => hj j (by omega)⟩
        rw [m9_isWord_L5, e3, es, if_pos (nI_lt (by omega) (by omega))]
    | succ k ih =>
      intro i n hi hn hj
      cases n with
      | zero => omega
      | succ n =>
        have ev : (if nI (e - p) ≤ nI i then some (0 : Int32) else ck (nI p + nI i) 150 <| some (tx (nI p + nI i).toNatClampNeg)) = some (X i) := by
          rw [eX]
          dsimp only
          by_cases c : e - p ≤ i
          · rw [if_pos (nI_le c (by omega)), if_pos c]
          · rw [if_neg (nI_ge (by omega) (by omega)), if_neg c, nI_add, ck_nI (by omega) (by decide), nI_clamp (by omega)]
        rw [m9_isWord_L5, e3, es, if_neg (nI_nlt (by omega) (by omega)), if_neg n10, low9 hw (by omega), lt1_s, ev, ob1_s]
        by_cases cm : (if i < wL w then skC w i else 0) = X i
        · rw [if_pos cm, lt1_s, ltx_s, nI_1]
          refine ih (i+1) n (by omega) (by omega) ?_
          intro j hj2
          by_cases ej : j = i
          · subst ej
            exact cm
          · exact hj j (by omega)
        · rw [if_neg cm, lt1_s, ltx_s]
          right
          refine ⟨?_, fun h => cm (iff1.mp h i (by omega))⟩
          cases n with
          | zero => omega
          | succ n =>
            rw [m9_isWord_L5]
            split
            · rfl
            · rw [if_pos rfl]
  have z0' := z (e - p + 1) 0 N (by omega) (by omega) (fun j h => by omega)
  constructor
  · intro h
    rcases z0' with y | y
    · have y1 : m9_isWord_L5 N N (nI w) (nI p) 1 0 tx q = some 1 := y.1
      unfold m9_isWord
      rw [y1, ob1_s, ckp_t (Or.inr rfl)]
    · exact absurd h y.2
  · intro h
    rcases z0' with y | y
    · exact absurd y.2 h
    · have y1 : m9_isWord_L5 N N (nI w) (nI p) 1 0 tx q = some 0 := y.1
      unfold m9_isWord
      rw [y1, ob1_s, ckp_t (Or.inl rfl)]
/-- the words, one after another -/
theorem search {tx : Nat → Int32} {l p e : Nat} (hl : l ≤ 150) (hpe : p ≤ e) (hel : e ≤ l) (hne : ∀ j, p ≤ j → j < e → ¬ tx j = 0) : ∀ (k w : Nat), w + k = 8 → ((∀ (N n : Nat) (c : bkA), 300 < N → k < n → TXc c tx l → m0_wordBetween_L2 N n (nI p) (nI e) (nI w) c = some (-1)) ∧ (∀ (N n : Nat) (q : Nat → Int32), 300 < N → k < n → q 3 = nI e → q 4 = iM → m9_readWord_L27 N n (nI p) (nI w) tx q = some (-1, upd q 4 (nI p)))) ∨ (∃ v, v < 8 ∧ p < e ∧ (∀ (N n : Nat) (c : bkA), 300 < N → k < n → TXc c tx l → m0_wordBetween_L2 N n (nI p) (nI e) (nI w) c = some (nI v)) ∧ (∀ (N n : Nat) (q : Nat → Int32), 300 < N → k < n → q 3 = nI e → q 4 = iM → m9_readWord_L27 N n (nI p) (nI w) tx q = some (nI v, q))) := by
  intro k
  induction k with
  | zero =>
    intro w hk
    have hw : w = 8 := by omega
    subst hw
    left
    constructor
    · intro N n c hN hn ht
      cases n with
      | zero => omega
      | succ n => rw [m0_wordBetween_L2, if_pos (by decide)]
    · intro N n q hN hn e3 e4
      cases n with
      | zero => omega
      | succ n => rw [m9_readWord_L27, if_pos (by decide), fail_0 e4, lt1_s]
  | succ k ih =>
    intro w hk
    have hw : w < 8 := by omega
    have n8 : ¬ (8 : Int32) ≤ nI w := nI_ge hw (by decide)
    have n7 : ¬ (7 : Int32) < nI w := nI_nlt (a := 7) (b := w) (by omega) (by decide)
    have nm := name_w w hw
    by_cases hm : WM tx p e w
    · have hpe2 : p < e := by
        have h1 := hm.1
        have h2 := wL_le w hw
        omega
      right
      refine ⟨w, hw, hpe2, ?_, ?_⟩
      · intro N n c hN hn ht
        cases n with
        | zero => omega
        | succ n => rw [m0_wordBetween_L2, if_neg n8, nm, (stands7 hl hpe hel hw ht hN).1 hm, ob1_s, if_neg n10]
      · intro N n q hN hn e3 e4
        cases n with
        | zero => omega
        | succ n => rw [m9_readWord_L27, if_neg n7, e3, if_neg (nI_ge hpe2 (by omega)), (isWord9 hl hpe hel hw hne e3 hN).1 hm, ob1_s, if_neg n10]
    · by_cases hpe2 : p < e
      · rcases ih (w+1) (by omega) with ⟨h1, h2⟩ | ⟨v, h0, h1, h2, h3⟩
        · left
          constructor
          · intro N n c hN hn ht
            cases n with
            | zero => omega
            | succ n =>
              rw [m0_wordBetween_L2, if_neg n8, nm, (stands7 hl hpe hel hw ht hN).2 hm, ob1_s, if_pos rfl, ltx_s, nI_1]
              exact h1 N n c hN (by omega) ht
          · intro N n q hN hn e3 e4
            cases n with
            | zero => omega
            | succ n =>
              rw [m9_readWord_L27, if_neg n7, e3, if_neg (nI_ge hpe2 (by omega)), (isWord9 hl hpe hel hw hne e3 hN).2 hm, ob1_s, if_pos rfl, ltx_s, nI_1]
              exact h2 N n q hN (by omega) e3 e4
        · right
          refine ⟨v, h0, h1, ?_, ?_⟩
          · intro N n c hN hn ht
            cases n with
            | zero => omega
            | succ n =>
              rw [m0_wordBetween_L2, if_neg n8, nm, (stands7 hl hpe hel hw ht hN).2 hm, ob1_s, if_pos rfl, ltx_s, nI_1]
              exact h2 N n c hN (by omega) ht
          · intro N n q hN hn e3 e4
            cases n with
            | zero => omega
            | succ n =>
              rw [m9_readWord_L27, if_neg n7, e3, if_neg (nI_ge hpe2 (by omega)), (isWord9 hl hpe hel hw hne e3 hN).2 hm, ob1_s, if_pos rfl, ltx_s, nI_1]
              exact h3 N n q hN (by omega) e3 e4
      · left
        constructor
        · intro N n c hN hn ht
          cases n with
          | zero => omega
          | succ n =>
            rcases ih (w+1) (by omega) with ⟨h1, h2⟩ | ⟨v, h0, h1, h2, h3⟩
            · rw [m0_wordBetween_L2, if_neg n8, nm, (stands7 hl hpe hel hw ht hN).2 hm, ob1_s, if_pos rfl, ltx_s, nI_1]
              exact h1 N n c hN (by omega) ht
            · exact absurd h1 hpe2
        · intro N n q hN hn e3 e4
          cases n with
          | zero => omega
          | succ n => rw [m9_readWord_L27, if_neg n7, e3, if_pos (nI_le (by omega) (by omega)), fail_0 e4, lt1_s]
theorem rword {tx : Nat → Int32} {l p : Nat} (hl : l ≤ 150) (hp : p ≤ l) : ((∀ (N : Nat) (c : bkA), 300 < N → TXc c tx l → c 2 1 = nI p → ∃ c', m0_readWord N c = some (0, c') ∧ KT c c' ∧ c' 2 3 = nI p) ∧ (∃ e, e ≤ l ∧ ∀ (N : Nat) (q : Nat → Int32), 300 < N → q 2 = nI l → q 3 = nI p → q 4 = iM → m9_readWord N tx q = some (-1, upd (upd q 3 (nI e)) 4 (nI p)))) ∨ (∃ w e, w < 8 ∧ p < e ∧ e ≤ l ∧ (∀ (N : Nat) (c : bkA), 300 < N → TXc c tx l → c 2 1 = nI p → m0_readWord N c = some (1, wr (wr c 2 1 (nI e)) 2 2 (nI w))) ∧ (∀ (N : Nat) (q : Nat → Int32), 300 < N → q 2 = nI l → q 3 = nI p → q 4 = iM → m9_readWord N tx q = some (nI w, upd q 3 (nI e)))) := by
  obtain ⟨e, a1, a2, a3, a4, a5⟩ := lettersL (tx := tx) hl 200 p (by omega) hp
  rcases search (tx := tx) hl a1 a2 a3 8 0 rfl with ⟨h1, h2⟩ | ⟨v, h0, h1, h2, h3⟩
  · left
    constructor
    · intro N c hN ht ec
      have kt : KT c (wr c 2 1 (nI e)) := KT_wr2 (by decide)
      have h1' : m0_wordBetween N (wr c 2 1 (nI e)) (nI p) (nI e) = some (-1) := h1 N N _ hN (by omega) (KT_TX kt ht)
      refine ⟨wr (wr (wr c 2 1 (nI e)) 2 2 (-1)) 2 3 (nI p), ?_, KT_trans kt (KT_trans (KT_wr2 (by decide)) (KT_wr2 (by decide))), wr_s⟩
      unfold m0_readWord m0_failAt
      rw [ec, ltx_s, a4 N N c (nI p) (by omega) ht ec, ob1_s, wr_s, h1', ob1_s, wr_u, ltx_s, wr_s, if_pos rfl, wr_u, ltx_s, lt2_s, if_pos rfl]
    · refine ⟨e, a2, ?_⟩
      intro N q hN e2 e3 e4
      have h2' : m9_readWord_L27 N N (nI p) 0 tx (upd q 3 (nI e)) = some (-1, upd (upd q 3 (nI e)) 4 (nI p)) := h2 N N _ hN (by omega) pk_us (by rw [pk_un (by decide)]; exact e4)
      unfold m9_readWord
      rw [e3, ltx_s, a5 N N q (nI p) (by omega) e2 e3, ob1_s, h2']
  · right
    refine ⟨v, e, h0, h1, a2, ?_, ?_⟩
    · intro N c hN ht ec
      have kt : KT c (wr c 2 1 (nI e)) := KT_wr2 (by decide)
      have h2' : m0_wordBetween N (wr c 2 1 (nI e)) (nI p) (nI e) = some (nI v) := h2 N N _ hN (by omega) (KT_TX kt ht)
      unfold m0_readWord
      rw [ec, ltx_s, a4 N N c (nI p) (by omega) ht ec, ob1_s, wr_s, h2', ob1_s, wr_u, ltx_s, wr_s, if_neg (show ¬ nI v = -1 from nI_ne_iM (by omega))]
    · intro N q hN e2 e3 e4
      have h3' : m9_readWord_L27 N N (nI p) 0 tx (upd q 3 (nI e)) = some (nI v, upd q 3 (nI e)) := h3 N N _ hN (by omega) pk_us (by rw [pk_un (by decide)]; exact e4)
      unfold m9_readWord
      rw [e3, ltx_s, a5 N N q (nI p) (by omega) e2 e3, ob1_s, h3']
