/-! p29: bits counted; the hearth is right -/
theorem s_l : ∀ n, n < 32 → (((nI n &&& 31).toBitVec.smod 32).toNat = n) := by decide +kernel
theorem b_sshr (n : Nat) (hn : n < 32) (x : Int32) {i : Nat} (hi : i < 32) : bt (x >>> (nI n &&& 31)) i = if n + i < 32 then bt x (n + i) else bt x 31 := by
  show (x >>> (nI n &&& 31)).toBitVec.getLsbD i = _
  rw [Int32.toBitVec_shiftRight]
  show (x.toBitVec.sshiftRight ((nI n &&& 31).toBitVec.smod 32).toNat).getLsbD i = _
  rw [s_l n hn, BitVec.getLsbD_sshiftRight, BitVec.msb_eq_getLsbD_last]
  have h1 : decide (32 ≤ i) = false := decide_eq_false (by omega)
  rw [h1]
  rfl
theorem b_1 : ∀ i, i < 32 → bt 1 i = decide (i = 0) := by decide +kernel
theorem bit_at {x : Int32} {n : Nat} (hn : n < 32) : (x >>> (nI n &&& 31)) &&& 1 = if bt x n = true then 1 else 0 := by
  refine b_ext (fun i hi => ?_)
  rw [b_and, b_sshr n hn x hi, b_1 i hi]
  by_cases e : i = 0
  · subst e
    rw [if_pos (by omega), Nat.add_zero, decide_eq_true rfl, Bool.and_true]
    by_cases c : bt x n = true
    · rw [if_pos c, c, b_1 0 hi, decide_eq_true rfl]
    · rw [if_neg c, b_0]
      exact Bool.not_eq_true _ ▸ c
  · rw [decide_eq_false e, Bool.and_false]
    by_cases c : bt x n = true
    · rw [if_pos c, b_1 i hi, decide_eq_false e]
    · rw [if_neg c, b_0]
theorem many_b {x : Int32} {N : Nat} (hN : 100 < N) : mL_many N x = some (nI (cn (bt x) 31)) := by
  unfold mL_many
  have q : mL_many_L4 N N x (nI 0) (nI 0) = some (nI (cn (bt x) 31)) := by
    refine loop_i (σ := Int32) (fun n i s => mL_many_L4 N n x s (nI i) = some (nI (cn (bt x) 31))) (fun i s => s = nI (cn (bt x) i)) 31 ?_ ?_ N 0 (nI 0) (by omega) (by omega) rfl
    · intro n s hs
      rw [mL_many_L4, if_pos (by decide), hs]
    · intro n i s hi hs ih
      rw [mL_many_L4, if_neg (show ¬ (31 : Int32) ≤ nI i from nI_ge hi (by decide)), bit_at (by omega), ltx_s, ltx_s, nI_1]
      refine ih _ ?_
      rw [hs]
      by_cases c : bt x i = true
      · rw [if_pos c, cn_t c, nI_1]
      · rw [if_neg c, cn_f c, Int32.add_zero]
  have q' : mL_many_L4 N N x 0 0 = _ := q
  rw [q', ob1_s]
theorem cn_m {P : Nat → Bool} : ∀ {m n : Nat}, n ≤ m → (∀ i, n ≤ i → i < m → ¬ P i = true) → cn P m = cn P n
  | 0, n, h, _ => by
    have e : n = 0 := by omega
    subst e
    rfl
  | m+1, n, h, hz => by
    by_cases e : n = m + 1
    · subst e
      rfl
    · rw [cn_f (hz m (by omega) (by omega))]
      exact cn_m (by omega) (fun i h1 h2 => hz i h1 (by omega))
theorem many_sb {P : Nat → Bool} {N : Nat} (hN : 100 < N) : mL_many N (sb P 12) = some (nI (cn P 12)) := by
  rw [many_b hN, cn_m (n := 12) (by decide) (fun i h1 h2 => by
    rw [sb_bt 12 i (by decide) (by omega), decide_eq_false (by omega), Bool.false_and]
    decide)]
  rw [cn_congr (P := bt (sb P 12)) (Q := P) (fun i hi => by rw [sb_bt 12 i (by decide) (by omega), decide_eq_true hi, Bool.true_and])]
theorem ND_sub : ∀ (xs ys : List Nat), ND xs → (∀ x, x ∈ xs → x ∈ ys) → xs.length ≤ ys.length
  | [], ys, _, _ => Nat.zero_le _
  | x :: xs, ys, hn, h => by
    obtain ⟨pre, suf, e⟩ := split_mem (h x (List.mem_cons.mpr (Or.inl rfl)))
    subst e
    have q := ND_sub xs (pre ++ suf) hn.2 (fun y hy => by
      rcases mem_mid.mp (h y (List.mem_cons.mpr (Or.inr hy))) with c | c
      · rw [c] at hy
        exact absurd hy hn.1
      · exact c)
    rw [len_mid]
    rw [List.length_append] at q
    show xs.length + 1 ≤ _
    omega
theorem cn_line {f : bkA} {D : Nat} {ls : List Nat} (hl : IVl f D ls) : cn (fun d => decide (f 15 d = nI 0)) D = ls.length := by
  rw [← iot_len]
  refine Nat.le_antisymm (ND_sub _ _ (ND_fil iot_ND) (fun x hx => ?_)) (ND_sub _ _ hl.2.1 (fun x hx => ?_))
  · have q := mem_fil.mp hx
    exact (hl.2.2 x).mpr ⟨iot_mem.mp q.1, of_decide_eq_true q.2⟩
  · have q := (hl.2.2 x).mp hx
    exact mem_fil.mpr ⟨iot_mem.mpr q.1, decide_eq_true q.2⟩
/-- the places of the doughs before i -/
def oc (f : bkA) : Nat → Nat → Bool
  | 0, _ => false
  | i+1, p => oc f i p || decide (f 19 p = nI i)
theorem oc_mp {f : bkA} {p : Nat} : ∀ {i : Nat}, oc f i p = true → ∃ e, e < i ∧ f 19 p = nI e
  | 0, h => absurd h (by unfold oc; decide)
  | i+1, h => by
    have h : (oc f i p || decide (f 19 p = nI i)) = true := h
    rw [Bool.or_eq_true] at h
    rcases h with h | h
    · obtain ⟨e, e1, e2⟩ := oc_mp h
      exact ⟨e, by omega, e2⟩
    · exact ⟨i, by omega, of_decide_eq_true h⟩
theorem oc_mpr {f : bkA} {p e : Nat} : ∀ {i : Nat}, e < i → f 19 p = nI e → oc f i p = true
  | 0, h, _ => absurd h (by omega)
  | i+1, h, h2 => by
    show (oc f i p || decide (f 19 p = nI i)) = true
    rw [Bool.or_eq_true]
    by_cases c : e = i
    · subst c
      exact Or.inr (decide_eq_true h2)
    · exact Or.inl (oc_mpr (by omega) h2)
theorem oc_D {f : bkA} {D p : Nat} (hp : IVp f D) (hD : D ≤ 16) (h12 : p < 12) : oc f D p = ! fr f p := by
  unfold fr
  rcases hp p h12 with q | ⟨d, d1, d2, d3⟩
  · rw [decide_eq_true (show f 19 p = -1 from q)]
    cases c : oc f D p
    · rfl
    · obtain ⟨e, e1, e2⟩ := oc_mp c
      rw [q] at e2
      exact absurd e2 (iM_ne_nI (by omega))
  · rw [oc_mpr d1 d2, decide_eq_false]
    · rfl
    · intro z
      rw [d2] at z
      exact nI_ne_iM (by omega) z
theorem sb_congr {P Q : Nat → Bool} : ∀ {n : Nat}, (∀ i, i < n → P i = Q i) → sb P n = sb Q n
  | 0, _ => rfl
  | n+1, h => by
    show (if P n = true then _ else _) = (if Q n = true then _ else _)
    rw [sb_congr (fun i hi => h i (by omega)), h n (by omega)]
theorem sb_and0 {P Q : Nat → Bool} {n : Nat} (hn : n ≤ 32) (h : ∀ i, i < n → ¬ (P i = true ∧ Q i = true)) : sb P n &&& sb Q n = 0 := by
  refine b_ext (fun i hi => ?_)
  rw [b_and, sb_bt n i hn hi, sb_bt n i hn hi, b_0]
  by_cases c : i < n
  · rw [decide_eq_true c, Bool.true_and, Bool.true_and]
    have q := h i c
    cases h1 : P i
    · rfl
    · cases h2 : Q i
      · rfl
      · exact absurd ⟨h1, h2⟩ q
  · rw [decide_eq_false c]
    rfl
theorem sb_or {P Q : Nat → Bool} {n : Nat} (hn : n ≤ 32) : sb P n ||| sb Q n = sb (fun i => P i || Q i) n := by
  refine b_ext (fun i hi => ?_)
  rw [b_or, sb_bt n i hn hi, sb_bt n i hn hi, sb_bt n i hn hi]
  cases decide (i < n)
  · rfl
  · rfl
theorem sb_0 {P : Nat → Bool} : ∀ {n : Nat}, (∀ i, i < n → ¬ P i = true) → sb P n = 0
  | 0, _ => rfl
  | n+1, h => by
    show (if P n = true then _ else _) = 0
    rw [if_neg (h n (by omega))]
    exact sb_0 (fun i hi => h i (by omega))
theorem iM_neg : iM < 0 := by decide
section HEARTH
variable {f c : bkA} {r : Nat → Int32} {K H D t T N : Nat} {σ : Int32} {ls : List Nat}
theorem hearth2 (h : SIM f r K H D ls t T) (hx : IX9 f K D T σ) (hT : T ≤ 200000) (hN : 100 < N) : mL_isHearthRight_L217 N N (sb (oc f D) 12) (nI ls.length) 0 f c = some 1 := by
  have hs := h
  have hle := IV_len h.1
  obtain ⟨⟨⟨e0, e1, e2, e3, e4, e5, hK, hH, hD, ht⟩, hd, hl, hp, hh, _⟩, hR, hL⟩ := h
  obtain ⟨q1, q2, q3, q4, q5, q6, q7⟩ := hx
  have q : mL_isHearthRight_L217 N N (sb (oc f D) 12) (nI ls.length) (nI 0) f c = some 1 := by
    refine loop_i (σ := Unit) (fun n i _ => mL_isHearthRight_L217 N n (sb (oc f D) 12) (nI ls.length) (nI i) f c = some 1) (fun _ _ => True) 12 ?_ ?_ N 0 () (by omega) (by omega) trivial
    · intro n s _
      have hcn := cn_not (P := fr f) (n := 12)
      have em : (12 : Int32) - nI (cn (oc f D) 12) = nI (cn (fr f) 12) := by
        rw [cn_congr (P := oc f D) (Q := fun p => ! fr f p) (fun i hi => oc_D hp hD hi), l_12, pk_sub (by omega)]
        congr 1
        omega
      have p0 : m8_place f 0 0 = some (nI t) := p_0 (p := 0) hs (by decide)
      rw [mL_isHearthRight_L217, if_pos (by decide), w_5, ob1_s, e3, if_pos rfl, w_6 hN, ob1_s, many_sb hN, ob1_s, em, if_pos rfl, p0, ob1_s, w_3, ob1_s, e4, if_pos rfl, li_out hs, ob1_s, if_pos rfl]
    · intro n p s hp12 _ ih
      have nx := ih () trivial
      have h12 : ¬ (12 : Int32) ≤ nI p := nI_ge hp12 (by decide)
      rw [mL_isHearthRight_L217, if_neg h12, p_1 hp12, ob1_s, bit_at (by omega), sb_bt 12 p (by decide) (by omega), decide_eq_true hp12, Bool.true_and, oc_D hp hD hp12, p_2 hp12, p_3 hp12]
      have heats : ¬ p = 0 → ¬ nI (t - 20 * ((p - 1) / 4)) < nI (t - 20 * (p / 4)) := fun h0 => nI_nlt (by omega) (by omega)
      have ep1 : ¬ p = 0 → nI p - 1 = nI (p - 1) := fun h0 => pk_sub (a := p) (b := 1) (by omega)
      rcases hp p hp12 with c0 | ⟨d, d1, d2, d3⟩
      · have cfr : fr f p = true := by
          unfold fr
          exact decide_eq_true c0
        rw [cfr, c0]
        simp only [if_pos iM_neg, lt1_s, Bool.not_true, Bool.false_eq_true, if_false, if_true, ob1_s, if_pos (show iM ≤ 0 by decide)]
        rw [if_neg (show ¬ (0 : Int32) = 1 by decide)]
        simp only [lt1_s, if_true, ltx_s, nI_1]
        by_cases p0 : p = 0
        · subst p0
          rw [if_pos (show nI 0 ≤ 0 from Int32.le_refl 0)]
          exact nx
        · rw [if_neg (nI_nle (by omega) (by omega)), p_0 hs hp12, ob1_s, ep1 p0, p_0 hs (show p - 1 < 12 by omega), ob1_s, if_neg (heats p0)]
          exact nx
      · have cfr : fr f p = false := by
          unfold fr
          refine decide_eq_false (fun z => ?_)
          rw [d2] at z
          exact nI_ne_iM (by omega) z
        have nM : ¬ f 19 p = iM := by
          rw [d2]
          exact nI_ne_iM (by omega)
        obtain ⟨x, y, x1, x2, x3, x4⟩ := q2 p hp12 nM
        have b8 : ((sb (fun q => decide (f 19 q = nI d)) 12) >>> (nI p &&& 31)) &&& 1 = 1 := by
          rw [bit_at (by omega), if_pos]
          rw [sb_bt 12 p (by decide) (by omega), decide_eq_true hp12, Bool.true_and]
          exact decide_eq_true d2
        rw [cfr]
        simp only [if_neg nM]
        rw [d2, x3, x4]
        simp only [if_neg (nI_pos (show d < 2^31 by omega)), if_neg (nI_pos (show x < 2^31 by omega)), lt1_s, Bool.not_false, if_true, d_8 hs d1 hN, ob1_s, b8, if_neg n10]
        have tail : (if nI y ≤ 0 then lt_ (nI p + 1) fun z => mL_isHearthRight_L217 N n (sb (oc f D) 12) (nI ls.length) z f c else if nI y ≤ nI x then lt_ (nI p + 1) fun z => mL_isHearthRight_L217 N n (sb (oc f D) 12) (nI ls.length) z f c else some 0) = some 1 := by
          simp only [ltx_s, nI_1]
          by_cases y0 : nI y ≤ 0
          · rw [if_pos y0]
            exact nx
          · rw [if_neg y0, if_pos (nI_le x1 (by omega))]
            exact nx
        by_cases p0 : p = 0
        · subst p0
          rw [if_pos (show nI 0 ≤ 0 from Int32.le_refl 0)]
          exact tail
        · rw [if_neg (nI_nle (by omega) (by omega)), p_0 hs hp12, ob1_s, ep1 p0, p_0 hs (show p - 1 < 12 by omega), ob1_s, if_neg (heats p0)]
          exact tail
  exact q
theorem hearth_true (h : SIM f r K H D ls t T) (hx : IX9 f K D T σ) (hT : T ≤ 200000) (hN : 100 < N) : mL_isHearthRight N f c = some 1 := by
  have hs := h
  have hle := IV_len h.1
  have fin := hearth2 (c := c) h hx hT hN
  have hw : ∀ d, d < D → ((¬ f 17 d = iM) ↔ (f 15 d = nI 1 ∨ f 15 d = nI 2)) := fun d hd => was h hx (by omega) hd
  obtain ⟨⟨⟨e0, e1, e2, e3, e4, e5, hK, hH, hD, ht⟩, hd, hl, hp, hh, _⟩, hR, hL⟩ := h
  obtain ⟨q1, q2, q3, q4, q5, q6, q7⟩ := hx
  unfold mL_isHearthRight
  have q : mL_isHearthRight_L6 N N (sb (oc f 0) 12) (nI (cn (fun d => decide (f 15 d = nI 0)) 0)) (nI 0) f c = some 1 := by
    refine loop_i (σ := Unit) (fun n i _ => mL_isHearthRight_L6 N n (sb (oc f i) 12) (nI (cn (fun d => decide (f 15 d = nI 0)) i)) (nI i) f c = some 1) (fun _ _ => True) D ?_ ?_ N 0 () (by omega) (by omega) trivial
    · intro n s _
      rw [mL_isHearthRight_L6, w_2, e2, ob1_s, if_pos (Int32.le_refl _), cn_line hl]
      exact fin
    · intro n d s hdD _ ih
      have nx := ih () trivial
      have d16 : d < 16 := by omega
      obtain ⟨_, _, ⟨l, l1, l4, l3⟩, ⟨p, p4, p5⟩, p6⟩ := hd d hdD
      obtain ⟨bu, bu1, bu2⟩ := q4 d l hdD l4 l3
      have hcnt := q1 d l hdD l4 l3
      have eo : sb (oc f d) 12 ||| sb (fun p => decide (f 19 p = nI d)) 12 = sb (oc f (d+1)) 12 := by
        rw [sb_or (by decide)]
        rfl
      have ea : sb (fun p => decide (f 19 p = nI d)) 12 &&& sb (oc f d) 12 = 0 := by
        refine sb_and0 (by decide) (fun i hi z => ?_)
        obtain ⟨e, e1', e2'⟩ := oc_mp z.2
        have z1 := of_decide_eq_true z.1
        rw [z1] at e2'
        have := (nI_eq (by omega) (by omega)).mp e2'
        omega
      have n0 : ∀ v : Int32, nI (cn (fun d => decide (f 15 d = nI 0)) d) + v = nI (cn (fun d => decide (f 15 d = nI 0)) (d+1)) → mL_isHearthRight_L6 N n (sb (oc f (d+1)) 12) (nI (cn (fun d => decide (f 15 d = nI 0)) d) + v) (nI (d+1)) f c = some 1 := fun v hv => by
        rw [hv]
        exact nx
      rw [mL_isHearthRight_L6, w_2, e2, ob1_s, if_neg (nI_ge hdD (by omega)), d_8 hs hdD hN, ob1_s, d_4 hs hdD, ob1_s, d_7 hs hdD hN, ob1_s, if_pos ea, many_sb hN, ob1_s, d_2 hs hdD, d_9 hs hdD, d_6 hs hdD]
      simp only [ob1_s, l3, bu2, if_pos (nI_le bu1 (show l < 2^31 by omega)), eo]
      have ecn : nI (cn (fun p => decide (f 19 p = nI d)) 12) = nI (if f 15 d = nI 1 then l else 0) := by
        show nI (cnt f d) = _
        rw [hcnt]
      rw [ecn]
      by_cases c0 : f 15 d = nI 0
      · have hm : d ∈ ls := (hl.2.2 d).mpr ⟨hdD, c0⟩
        obtain ⟨pre, suf, els⟩ := split_mem hm
        have hmid := ND_mid (pre := pre) (suf := suf) (x := d) (by rw [← els]; exact hl.2.1)
        have elx : ixOf d ls 0 = nI pre.length := by
          rw [els, ixOf_mid hmid.2.1, Nat.zero_add]
        have hll := len_mid (pre := pre) (suf := suf) (x := d)
        have hls : ls.length = pre.length + suf.length + 1 := by rw [els, hll]
        have li : m8_line f (nI pre.length) = some (nI d) := by
          subst els
          exact li_at hs
        obtain ⟨w, w5, w1, w2⟩ := re_w (N := N) hs hdD hN c0
        have f17 : f 17 d = iM := p6 (Or.inl c0)
        rw [w2, elx, c0, f17]
        simp only [ob1_s, if_neg (show ¬ nI 0 = 1 by decide), if_neg (show ¬ nI 0 = nI 1 by decide), if_neg (show ¬ nI 0 = 2 by decide), if_pos (show nI 0 = 0 from rfl), lt1_s, if_neg (nI_pos (show pre.length < 2^31 by omega)), if_neg (nI_pos (show w < 2^31 by omega)), if_pos iM_neg, if_true, li, ltx_s, nI_1]
        have fz := n0 1 (by rw [cn_t (P := fun d => decide (f 15 d = nI 0)) (decide_eq_true c0), nI_1])
        rw [nI_1] at fz
        exact fz
      · have hm : ¬ d ∈ ls := fun z => c0 ((hl.2.2 d).mp z).2
        have elx : ixOf d ls 0 = iM := ixOf_not hm
        have ecf : nI (cn (fun d => decide (f 15 d = nI 0)) d) + 0 = nI (cn (fun d => decide (f 15 d = nI 0)) (d+1)) := by
          rw [cn_f (P := fun d => decide (f 15 d = nI 0)) (fun z => c0 (of_decide_eq_true z)), Int32.add_zero]
        have fz := n0 0 ecf
        rw [re_n hs hdD c0, elx]
        have hp3 : p = 0 ∨ p = 1 ∨ p = 2 ∨ p = 3 := by omega
        have hw2 := hw d hdD
        rcases hp3 with e | e | e | e
        · rw [e] at p5
          exact absurd p5 c0
        · rw [e] at p5
          obtain ⟨y, y1, y2⟩ := q3 d hdD (Or.inl p5)
          rw [p5, y2]
          simp only [ob1_s, if_pos (show nI 1 = 1 from rfl), if_pos (show nI 1 = nI 1 from rfl), if_neg (show ¬ nI 1 = 0 by decide), lt1_s, if_pos iM_neg, if_neg (nI_pos (show y < 2^31 by omega)), if_true, ltx_s, nI_1]
          exact fz
        · rw [e] at p5
          obtain ⟨y, y1, y2⟩ := q3 d hdD (Or.inr p5)
          rw [p5, y2]
          simp only [ob1_s, if_neg (show ¬ nI 2 = 1 by decide), if_neg (show ¬ nI 2 = nI 1 by decide), if_neg (show ¬ nI 2 = 0 by decide), if_pos (show nI 2 = 2 from rfl), lt1_s, if_pos iM_neg, if_neg (nI_pos (show y < 2^31 by omega)), if_true, ltx_s, nI_1, if_pos (show nI 0 = 0 from rfl)]
          exact fz
        · rw [e] at p5
          have f17 : f 17 d = iM := p6 (Or.inr p5)
          rw [p5, f17]
          simp only [ob1_s, if_neg (show ¬ nI 3 = 1 by decide), if_neg (show ¬ nI 3 = nI 1 by decide), if_neg (show ¬ nI 3 = 0 by decide), if_neg (show ¬ nI 3 = 2 by decide), lt1_s, if_pos iM_neg, if_true, ltx_s, nI_1, if_pos (show nI 0 = 0 from rfl)]
          exact fz
  have q0 : sb (oc f 0) 12 = 0 := sb_0 (fun i hi z => by unfold oc at z; exact absurd z (by decide))
  rw [q0] at q
  exact q
end HEARTH
