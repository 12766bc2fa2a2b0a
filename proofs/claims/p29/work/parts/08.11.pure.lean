/-! within a tick: the openings apart; the loaves are warmed -/
def RGo (f : bkA) (r : Nat → Int32) (o : Int32) : Prop := RG (wr f 23 9 o) r
theorem wr_c9 {f : bkA} {i : Nat} {v o : Int32} (h : i ≠ 9) : wr (wr f 23 9 o) 23 i v = wr (wr f 23 i v) 23 9 o := by
  funext a
  funext b
  rw [wr_at, wr_at, wr_at, wr_at]
  by_cases h1 : a = 23 ∧ b = i
  · rw [if_pos h1, if_neg (fun q => h (h1.2.symm.trans q.2)), if_pos h1]
  · rw [if_neg h1, if_neg h1]
theorem wr_self {f : bkA} {j i : Nat} : wr f j i (f j i) = f := by
  funext a
  funext b
  rw [wr_at]
  by_cases h : a = j ∧ b = i
  · rw [if_pos h, h.1, h.2]
  · rw [if_neg h]
theorem wr_wr {f : bkA} {j i : Nat} {v v' : Int32} : wr (wr f j i v) j i v' = wr f j i v' := by
  funext a
  funext b
  rw [wr_at, wr_at, wr_at]
  by_cases h : a = j ∧ b = i
  · rw [if_pos h, if_pos h]
  · rw [if_neg h, if_neg h, if_neg h]
theorem mr_self {r : Nat → Int32} {j i : Nat} {v : Int32} (h : r (pos j i) = v) : mr r j i v = r := by
  funext a
  unfold mr upd
  by_cases h1 : a = pos j i
  · rw [if_pos h1, h1, h]
  · rw [if_neg h1]
theorem RGo_of {f : bkA} {r : Nat → Int32} (h : RG f r) : RGo f r (f 23 9) := by
  unfold RGo
  rw [wr_self]
  exact h
theorem RGo_to {f : bkA} {r : Nat → Int32} {o : Int32} (h : RGo f r o) : RG (wr f 23 9 o) r := h
theorem RGo_wr {f : bkA} {r : Nat → Int32} {o v : Int32} {j i : Nat} (h : RGo f r o) (hj : j < 24) (h19 : 19 ≠ j) (h23 : j ≠ 23) : RGo (wr f j i v) (mr r j i v) o := by
  unfold RGo at h ⊢
  rw [← wr_c23 h23]
  exact RG_wr h hj h19
theorem RGo_w23 {f : bkA} {r : Nat → Int32} {o v : Int32} {i : Nat} (h : RGo f r o) (hi : i ≠ 9) : RGo (wr f 23 i v) (mr r 23 i v) o := by
  unfold RGo at h ⊢
  rw [← wr_c9 hi]
  exact RG_wr h (by decide) (by decide)
theorem RGo_o {f : bkA} {r : Nat → Int32} {o v : Int32} (h : RGo f r o) : RGo f (mr r 23 9 v) v := by
  unfold RGo at h ⊢
  have q := RG_wr (j := 23) (i := 9) (v := v) h (by decide) (by decide)
  rw [wr_wr] at q
  exact q
theorem RGo_l1 {f : bkA} {r : Nat → Int32} {o v : Int32} {i : Nat} (h : RGo f r o) : RGo (wr f 22 i v) r o := by
  unfold RGo at h ⊢
  rw [← wr_c23 (by decide)]
  exact RG_l1 h
theorem RGo_l2 {f : bkA} {r : Nat → Int32} {o v : Int32} {i : Nat} (h : RGo f r o) : RGo f (mr r 22 i v) o := RG_l2 h
theorem RGo_loaf {f : bkA} {r : Nat → Int32} {p : Nat} {v a b o : Int32} (h : RGo f r o) : RGo (wr (wr (wr f 19 p v) 20 p a) 21 p b) (mr (mr (mr r 19 p v) 20 p a) 21 p b) o := by
  unfold RGo at h ⊢
  rw [← wr_c23 (by decide), ← wr_c23 (by decide), ← wr_c23 (by decide)]
  exact RG_loaf h
theorem RGo_free {f : bkA} {r : Nat → Int32} {p : Nat} {a b o : Int32} (h : RGo f r o) : RGo (wr f 19 p iM) (mr (mr (mr r 19 p iM) 20 p a) 21 p b) o := by
  unfold RGo at h ⊢
  rw [← wr_c23 (by decide)]
  exact RG_free h
theorem RGo_20 {f : bkA} {r : Nat → Int32} {p : Nat} {o : Int32} (h : RGo f r o) (hp : p < 12) (hn : ¬ f 19 p = iM) : r (pos 20 p) = f 20 p ∧ r (pos 21 p) = f 21 p := by
  have q := h.2 p hp (by rw [wr_n (by decide)]; exact hn)
  rw [wr_n (by decide), wr_n (by decide)] at q
  exact q
theorem RGo_h {f : bkA} {r : Nat → Int32} {o : Int32} {t : Nat} (h : RGo f r o) (e4 : f 23 4 = nI t) : RGh f r t := ⟨fun j i hj hi => by rw [RG_a h (by omega) hi (by omega), wr_n (by omega)], by rw [RG_i4 h, wr_i (by decide)]; exact e4⟩
theorem RGo_0' {f : bkA} {r : Nat → Int32} {i : Nat} {o : Int32} (h : RGo f r o) (hi : i < 5) : r (pos 0 i) = f 0 i := (RG_0 h hi).trans (congrFun (wr_n (by decide)) i)
theorem RGo_1' {f : bkA} {r : Nat → Int32} {i : Nat} {o : Int32} (h : RGo f r o) (hi : i < 5) : r (pos 1 i) = f 1 i := (RG_1 h hi).trans (congrFun (wr_n (by decide)) i)
theorem RGo_2' {f : bkA} {r : Nat → Int32} {i : Nat} {o : Int32} (h : RGo f r o) (hi : i < 5) : r (pos 2 i) = f 2 i := (RG_2 h hi).trans (congrFun (wr_n (by decide)) i)
theorem RGo_3' {f : bkA} {r : Nat → Int32} {i : Nat} {o : Int32} (h : RGo f r o) (hi : i < 5) : r (pos 3 i) = f 3 i := (RG_3 h hi).trans (congrFun (wr_n (by decide)) i)
theorem RGo_4' {f : bkA} {r : Nat → Int32} {i : Nat} {o : Int32} (h : RGo f r o) (hi : i < 5) : r (pos 4 i) = f 4 i := (RG_4 h hi).trans (congrFun (wr_n (by decide)) i)
theorem RGo_5' {f : bkA} {r : Nat → Int32} {i : Nat} {o : Int32} (h : RGo f r o) (hi : i < 8) : r (pos 5 i) = f 5 i := (RG_5 h hi).trans (congrFun (wr_n (by decide)) i)
theorem RGo_6' {f : bkA} {r : Nat → Int32} {i : Nat} {o : Int32} (h : RGo f r o) (hi : i < 8) : r (pos 6 i) = f 6 i := (RG_6 h hi).trans (congrFun (wr_n (by decide)) i)
theorem RGo_7' {f : bkA} {r : Nat → Int32} {i : Nat} {o : Int32} (h : RGo f r o) (hi : i < 8) : r (pos 7 i) = f 7 i := (RG_7 h hi).trans (congrFun (wr_n (by decide)) i)
theorem RGo_8' {f : bkA} {r : Nat → Int32} {i : Nat} {o : Int32} (h : RGo f r o) (hi : i < 8) : r (pos 8 i) = f 8 i := (RG_8 h hi).trans (congrFun (wr_n (by decide)) i)
theorem RGo_9' {f : bkA} {r : Nat → Int32} {i : Nat} {o : Int32} (h : RGo f r o) (hi : i < 8) : r (pos 9 i) = f 9 i := (RG_9 h hi).trans (congrFun (wr_n (by decide)) i)
theorem RGo_10' {f : bkA} {r : Nat → Int32} {i : Nat} {o : Int32} (h : RGo f r o) (hi : i < 8) : r (pos 10 i) = f 10 i := (RG_10 h hi).trans (congrFun (wr_n (by decide)) i)
theorem RGo_11' {f : bkA} {r : Nat → Int32} {i : Nat} {o : Int32} (h : RGo f r o) (hi : i < 16) : r (pos 11 i) = f 11 i := (RG_11 h hi).trans (congrFun (wr_n (by decide)) i)
theorem RGo_12' {f : bkA} {r : Nat → Int32} {i : Nat} {o : Int32} (h : RGo f r o) (hi : i < 16) : r (pos 12 i) = f 12 i := (RG_12 h hi).trans (congrFun (wr_n (by decide)) i)
theorem RGo_13' {f : bkA} {r : Nat → Int32} {i : Nat} {o : Int32} (h : RGo f r o) (hi : i < 16) : r (pos 13 i) = f 13 i := (RG_13 h hi).trans (congrFun (wr_n (by decide)) i)
theorem RGo_14' {f : bkA} {r : Nat → Int32} {i : Nat} {o : Int32} (h : RGo f r o) (hi : i < 16) : r (pos 14 i) = f 14 i := (RG_14 h hi).trans (congrFun (wr_n (by decide)) i)
theorem RGo_15' {f : bkA} {r : Nat → Int32} {i : Nat} {o : Int32} (h : RGo f r o) (hi : i < 16) : r (pos 15 i) = f 15 i := (RG_15 h hi).trans (congrFun (wr_n (by decide)) i)
theorem RGo_16' {f : bkA} {r : Nat → Int32} {i : Nat} {o : Int32} (h : RGo f r o) (hi : i < 16) : r (pos 16 i) = f 16 i := (RG_16 h hi).trans (congrFun (wr_n (by decide)) i)
theorem RGo_17' {f : bkA} {r : Nat → Int32} {i : Nat} {o : Int32} (h : RGo f r o) (hi : i < 16) : r (pos 17 i) = f 17 i := (RG_17 h hi).trans (congrFun (wr_n (by decide)) i)
theorem RGo_18' {f : bkA} {r : Nat → Int32} {i : Nat} {o : Int32} (h : RGo f r o) (hi : i < 16) : r (pos 18 i) = f 18 i := (RG_18 h hi).trans (congrFun (wr_n (by decide)) i)
theorem RGo_19' {f : bkA} {r : Nat → Int32} {i : Nat} {o : Int32} (h : RGo f r o) (hi : i < 12) : r (pos 19 i) = f 19 i := (RG_19 h hi).trans (congrFun (wr_n (by decide)) i)
theorem RGo_i0 {f : bkA} {r : Nat → Int32} {o : Int32} (h : RGo f r o) : r (pos 23 0) = f 23 0 := (RG_i0 h).trans (wr_i (by decide))
theorem RGo_i1 {f : bkA} {r : Nat → Int32} {o : Int32} (h : RGo f r o) : r (pos 23 1) = f 23 1 := (RG_i1 h).trans (wr_i (by decide))
theorem RGo_i2 {f : bkA} {r : Nat → Int32} {o : Int32} (h : RGo f r o) : r (pos 23 2) = f 23 2 := (RG_i2 h).trans (wr_i (by decide))
theorem RGo_i3 {f : bkA} {r : Nat → Int32} {o : Int32} (h : RGo f r o) : r (pos 23 3) = f 23 3 := (RG_i3 h).trans (wr_i (by decide))
theorem RGo_i4 {f : bkA} {r : Nat → Int32} {o : Int32} (h : RGo f r o) : r (pos 23 4) = f 23 4 := (RG_i4 h).trans (wr_i (by decide))
theorem RGo_i5 {f : bkA} {r : Nat → Int32} {o : Int32} (h : RGo f r o) : r (pos 23 5) = f 23 5 := (RG_i5 h).trans (wr_i (by decide))
theorem RGo_i6 {f : bkA} {r : Nat → Int32} {o : Int32} (h : RGo f r o) : r (pos 23 6) = f 23 6 := (RG_i6 h).trans (wr_i (by decide))
theorem RGo_i7 {f : bkA} {r : Nat → Int32} {o : Int32} (h : RGo f r o) : r (pos 23 7) = f 23 7 := (RG_i7 h).trans (wr_i (by decide))
theorem RGo_i8 {f : bkA} {r : Nat → Int32} {o : Int32} (h : RGo f r o) : r (pos 23 8) = f 23 8 := (RG_i8 h).trans (wr_i (by decide))
theorem RGo_i9 {f : bkA} {r : Nat → Int32} {o : Int32} (h : RGo f r o) : r (pos 23 9) = o := (RG_i9 h).trans wr_s
theorem RGo_i10 {f : bkA} {r : Nat → Int32} {o : Int32} (h : RGo f r o) : r (pos 23 10) = f 23 10 := (RG_i10 h).trans (wr_i (by decide))
theorem RGo_i11 {f : bkA} {r : Nat → Int32} {o : Int32} (h : RGo f r o) : r (pos 23 11) = f 23 11 := (RG_i11 h).trans (wr_i (by decide))
/-- what always holds, but the sums -/
def IV0 (f : bkA) (K H D : Nat) (ls : List Nat) (t T : Nat) : Prop := IVc f K H D ls.length t T ∧ IVd f K H D ∧ IVl f D ls ∧ IVp f D ∧ IVh f H
theorem IV0_len {f : bkA} {K H D t T : Nat} {ls : List Nat} (h : IV0 f K H D ls t T) : ls.length ≤ D := php D h.2.2.1.2.1 (fun x hx => ((h.2.2.1.2.2 x).mp hx).1)
theorem IV0_16 {f : bkA} {K H D t T : Nat} {ls : List Nat} (h : IV0 f K H D ls t T) : ∀ x, x ∈ ls → x < 16 := by
  intro x hx
  have h1 := ((h.2.2.1.2.2 x).mp hx).1
  have h2 := h.1.2.2.2.2.2.2.2.2.1
  omega
theorem sum_inc {f : bkA} {a : Nat → Nat} {h0 s : Nat} {g : Nat → Int32} (ha : ∀ h, h < 8 → g h = nI (a h)) (hs : sumN a 8 ≤ s) (hh : h0 < 8) : ∃ a', (∀ h, h < 8 → upd g h0 (g h0 + 1) h = nI (a' h)) ∧ sumN a' 8 ≤ s + 1 := by
  refine ⟨fun i => if i = h0 then a i + 1 else a i, ?_, ?_⟩
  · intro h hh2
    by_cases e : h = h0
    · subst e
      show upd g h (g h + 1) h = nI (if h = h then a h + 1 else a h)
      rw [pk_us, if_pos rfl, ha h hh2, nI_1]
    · show upd g h0 (g h0 + 1) h = nI (if h = h0 then a h + 1 else a h)
      rw [pk_un e, if_neg e, ha h hh2]
  · rw [sumN_inc hh]
    omega
theorem S_warm {f : bkA} {r : Nat → Int32} {K H D t T N s : Nat} {ls : List Nat} {o : Int32} {a : Nat → Nat} (h : IV0 f K H D ls t T) (hR : RGo f r o) (hL : LN r 213 ls) (ha : ∀ h, h < 8 → f 6 h = nI (a h)) (hs : sumN a 8 ≤ s) (hN : 100 < N) : ∃ f' r', m7_heatLoaves N f = some f' ∧ m9_warm N r = some r' ∧ IV0 f' K H D ls t T ∧ RGo f' r' o ∧ LN r' 213 ls ∧ (∃ a', (∀ h, h < 8 → f' 6 h = nI (a' h)) ∧ sumN a' 8 ≤ s + 12) ∧ f' 23 = f 23 ∧ f' 15 = f 15 := by
  have hle := IV0_len h
  have hD16 : D ≤ 16 := h.1.2.2.2.2.2.2.2.2.1
  obtain ⟨⟨e0, e1, e2, e3, e4, e5, hK, hH, hD, ht⟩, hd, hl, hp, hh⟩ := h
  have q : ∃ f' r', m7_heatLoaves_L2 N N (nI 0) f = some f' ∧ m9_warm_L2 N N (nI 0) r = some r' ∧ (RGo f' r' o ∧ (∀ j, j ≠ 6 → j ≠ 20 → j ≠ 21 → f' j = f j) ∧ IVh f' H ∧ (∃ a', (∀ h, h < 8 → f' 6 h = nI (a' h)) ∧ sumN a' 8 ≤ s + 12) ∧ LN r' 213 ls) := by
    refine loop_i (σ := bkA × (Nat → Int32)) (fun n i x => ∃ f' r', m7_heatLoaves_L2 N n (nI i) x.1 = some f' ∧ m9_warm_L2 N n (nI i) x.2 = some r' ∧ (RGo f' r' o ∧ (∀ j, j ≠ 6 → j ≠ 20 → j ≠ 21 → f' j = f j) ∧ IVh f' H ∧ (∃ a', (∀ h, h < 8 → f' 6 h = nI (a' h)) ∧ sumN a' 8 ≤ s + 12) ∧ LN r' 213 ls)) (fun i x => RGo x.1 x.2 o ∧ (∀ j, j ≠ 6 → j ≠ 20 → j ≠ 21 → x.1 j = f j) ∧ IVh x.1 H ∧ (∃ a', (∀ h, h < 8 → x.1 6 h = nI (a' h)) ∧ sumN a' 8 ≤ s + i) ∧ LN x.2 213 ls) 12 ?_ ?_ N 0 (f, r) (by omega) (by omega) ⟨hR, fun _ _ _ _ => rfl, hh, ⟨a, ha, hs⟩, hL⟩
    · intro n x hx
      refine ⟨x.1, x.2, ?_, ?_, hx⟩
      · rw [m7_heatLoaves_L2, if_pos (by decide)]
      · rw [m9_warm_L2, if_pos (by decide)]
    · intro n p x hp12 hx ih
      obtain ⟨f1, r1⟩ := x
      obtain ⟨x1, x2, x3, ⟨a1, x4, x5⟩, x6⟩ := hx
      dsimp only at x1 x2 x3 x4 x5 x6 ⊢
      have h12 : ¬ (12 : Int32) ≤ nI p := nI_ge hp12 (by decide)
      have q19 : f1 19 = f 19 := x2 19 (by decide) (by decide) (by decide)
      rw [m7_heatLoaves_L2, m9_warm_L2, if_neg h12, if_neg h12, isFree5 hp12, a9_at0 hp12, ob1_s, RGo_19' x1 hp12]
      unfold fr
      rw [q19]
      by_cases c : f 19 p = -1
      · rw [if_pos c, decide_eq_true c, if_pos rfl]
        simp only [lt1_s, z1, ob1_s, ltx_s, nI_1]
        exact ih (f1, r1) ⟨x1, x2, x3, ⟨a1, x4, by omega⟩, x6⟩
      · rcases hp p hp12 with c2 | ⟨d, d1, d2, d3⟩
        · exact absurd c2 c
        obtain ⟨⟨b, b1, b2⟩, ⟨k, k1, k2⟩, _⟩ := hd d d1
        have d16 : d < 16 := by omega
        have k5 : k < 5 := by omega
        have b8 : b < 8 := by omega
        have g12 : f1 12 = f 12 := x2 12 (by decide) (by decide) (by decide)
        have g11 : f1 11 = f 11 := x2 11 (by decide) (by decide) (by decide)
        have g23 : f1 23 = f 23 := x2 23 (by decide) (by decide) (by decide)
        have c1 : ¬ f1 19 p = iM := by
          rw [q19]
          exact c
        have hk2 : r1 (pos 12 d) = nI k := by
          rw [RGo_12' x1 d16, g12, k2]
        obtain ⟨w20, w21⟩ := RGo_20 x1 hp12 c1
        rw [if_neg c, decide_eq_false c, if_neg (by decide)]
        have e4' : f1 23 4 = nI t := by
          rw [g23]
          exact e4
        have hh9 := heat9 (RGo_h x1 e4') ht hp12
        have n120 : (1 : Nat) ≠ 20 := by decide
        have s12 : (12 : Nat) < 2^31 := by decide
        have s16 : (16 : Nat) < 2^31 := by decide
        have s5 : (5 : Nat) < 2^31 := by decide
        have m52 : ∀ v20, m9_heatAt (mr r1 20 p v20) (nI p) = some (nI (t - 20 * (p / 4))) := fun v20 => heat9 (RGo_h (RGo_wr (j := 20) (i := p) (v := v20) x1 (by decide) (by decide) (by decide)) (by rw [wr_n (by decide)]; exact e4')) ht hp12
        have b52 : ∀ v20, m9_byKind (mr r1 20 p v20) (nI d) 1 = some (f1 1 k) := fun v20 => by rw [a9_byKind1 d16 (by rw [mr_n (by decide) (by decide) (by decide)]; exact hk2) k5, mr_n (by decide) (by decide) (by decide), RGo_1' x1 k5]
        have o64 : ∀ v20 v21, m9_of (mr (mr r1 20 p v20) 21 p v21) (nI d) 0 = some (nI b) := fun v20 v21 => by rw [a9_of0 d16, mr_n (by decide) (by decide) (by decide), mr_n (by decide) (by decide) (by decide), RGo_11' x1 d16, g11, b2]
        -- the model's two writes
        have key : ∀ (v20 v21 : Int32) (F : bkA), F = wr (wr f1 20 p v20) 21 p v21 → ∃ f' r', m7_heatLoaves_L2 N n (nI (p+1)) (wr F 6 b (F 6 b + 1)) = some f' ∧ m9_warm_L2 N n (nI (p+1)) (mr (mr (mr r1 20 p v20) 21 p v21) 6 b (f1 6 b + 1)) = some r' ∧ (RGo f' r' o ∧ (∀ j, j ≠ 6 → j ≠ 20 → j ≠ 21 → f' j = f j) ∧ IVh f' H ∧ (∃ a', (∀ h, h < 8 → f' 6 h = nI (a' h)) ∧ sumN a' 8 ≤ s + 12) ∧ LN r' 213 ls) := by
          intro v20 v21 F eF
          subst eF
          have e66 : wr (wr f1 20 p v20) 21 p v21 6 = f1 6 := by rw [wr_n (by decide), wr_n (by decide)]
          refine ih (_, _) ⟨?_, ?_, ?_, ?_, ?_⟩
          · rw [e66]
            exact RGo_wr (RGo_wr (RGo_wr x1 (by decide) (by decide) (by decide)) (by decide) (by decide) (by decide)) (by decide) (by decide) (by decide)
          · intro j j6 j20 j21
            show wr _ 6 b _ j = _
            rw [wr_n j6, wr_n j21, wr_n j20]
            exact x2 j j6 j20 j21
          · refine IVh_wr ?_ b1
            intro j' k' h1 h2 h3 h4
            rw [wr_n (by omega), wr_n (by omega)]
            exact x3 j' k' h1 h2 h3 h4
          · show ∃ a' : Nat → Nat, (∀ h, h < 8 → wr _ 6 b _ 6 h = nI (a' h)) ∧ _
            rw [wr_r, e66]
            exact sum_inc (f := f) x4 x5 b8
          · exact LN_mr (LN_mr (LN_mr x6 (by omega) (by decide) (by decide)) (by omega) (by decide) (by decide)) (by omega) (by decide) (by decide)
        have cm : m7_warmthOf (nI p) (nI t) = nI (t - 20 * (p / 4)) := warm7 ht hp12
        simp only [lt1_s, z0, ltx_s, rat_nI hp12 s12, q19, d2, rat_nI d16 s16, g12, k2, e4', cm, rat_nI k5 s5]
        by_cases A : nI (t - 20 * (p / 4)) < f1 0 k
        · by_cases B : nI (t - 20 * (p / 4)) ≤ f1 1 k
          · have eF : f1 = wr (wr f1 20 p (f1 20 p)) 21 p (f1 21 p) := by
              rw [wr_self, wr_self]
            have kf := key (f1 20 p) (f1 21 p) f1 eF
            have f11 : f1 11 d = nI b := by
              rw [g11, b2]
            simp (disch := omega) only [if_pos A, if_pos B, ltx_s, lt1_s, lt2_s, ob1_s, wr_inc, wr_n (j' := 1) (j := 20) n120, rat_nI k5 s5, e9_P1, e9_P2, k9_20, k9_21, q9_20, q9_21, mr_u, hh9, a9_byKind0 d16 hk2 k5, RGo_0' x1 k5, m52, b52, o64, e9_H1, k9_6, q9_6, mr_n, mr_s, w20, w21, RGo_6' x1 b8, Int32.add_zero, nI_1, if_true]
            rw [f11, wr_inc b8 (by decide)]
            exact kf
          · have eF : (wr f1 21 p (f1 21 p + 1)) = wr (wr f1 20 p (f1 20 p)) 21 p (f1 21 p + 1) := by
              rw [wr_self]
            have kf := key (f1 20 p) (f1 21 p + 1) (wr f1 21 p (f1 21 p + 1)) eF
            have f11 : (wr f1 21 p (f1 21 p + 1)) 11 d = nI b := by
              rw [wr_n (by decide), g11, b2]
            simp (disch := omega) only [if_pos A, if_neg B, ltx_s, lt1_s, lt2_s, ob1_s, wr_inc, wr_n (j' := 1) (j := 20) n120, rat_nI k5 s5, e9_P1, e9_P2, k9_20, k9_21, q9_20, q9_21, mr_u, hh9, a9_byKind0 d16 hk2 k5, RGo_0' x1 k5, m52, b52, o64, e9_H1, k9_6, q9_6, mr_n, mr_s, w20, w21, RGo_6' x1 b8, Int32.add_zero, nI_1, if_true]
            rw [f11, wr_inc b8 (by decide)]
            exact kf
        · by_cases B : nI (t - 20 * (p / 4)) ≤ f1 1 k
          · have eF : (wr f1 20 p (f1 20 p + 1)) = wr (wr f1 20 p (f1 20 p + 1)) 21 p (f1 21 p) := by
              have e21 : f1 21 p = wr f1 20 p (f1 20 p + 1) 21 p := by rw [wr_n (by decide)]
              rw [e21, wr_self]
            have kf := key (f1 20 p + 1) (f1 21 p) (wr f1 20 p (f1 20 p + 1)) eF
            have f11 : (wr f1 20 p (f1 20 p + 1)) 11 d = nI b := by
              rw [wr_n (by decide), g11, b2]
            simp (disch := omega) only [if_neg A, if_pos B, ltx_s, lt1_s, lt2_s, ob1_s, wr_inc, wr_n (j' := 1) (j := 20) n120, rat_nI k5 s5, e9_P1, e9_P2, k9_20, k9_21, q9_20, q9_21, mr_u, hh9, a9_byKind0 d16 hk2 k5, RGo_0' x1 k5, m52, b52, o64, e9_H1, k9_6, q9_6, mr_n, mr_s, w20, w21, RGo_6' x1 b8, Int32.add_zero, nI_1, if_true]
            rw [f11, wr_inc b8 (by decide)]
            exact kf
          · have eF : (wr (wr f1 20 p (f1 20 p + 1)) 21 p (f1 21 p + 1)) = wr (wr f1 20 p (f1 20 p + 1)) 21 p (f1 21 p + 1) := by
              rfl
            have kf := key (f1 20 p + 1) (f1 21 p + 1) (wr (wr f1 20 p (f1 20 p + 1)) 21 p (f1 21 p + 1)) eF
            have f11 : (wr (wr f1 20 p (f1 20 p + 1)) 21 p (f1 21 p + 1)) 11 d = nI b := by
              rw [wr_n (by decide), wr_n (by decide), g11, b2]
            simp (disch := omega) only [if_neg A, if_neg B, ltx_s, lt1_s, lt2_s, ob1_s, wr_inc, wr_n (j' := 1) (j := 20) n120, rat_nI k5 s5, e9_P1, e9_P2, k9_20, k9_21, q9_20, q9_21, mr_u, hh9, a9_byKind0 d16 hk2 k5, RGo_0' x1 k5, m52, b52, o64, e9_H1, k9_6, q9_6, mr_n, mr_s, w20, w21, RGo_6' x1 b8, Int32.add_zero, nI_1, if_true]
            rw [show wr f1 20 p (f1 20 p + 1) 21 p = f1 21 p from congrFun (wr_n (by decide)) p, f11, wr_inc b8 (by decide)]
            exact kf
  obtain ⟨f', r', q1, q2, q3, q4, q5, q6, q7⟩ := q
  have q1' : m7_heatLoaves_L2 N N 0 f = some f' := q1
  have q2' : m9_warm_L2 N N 0 r = some r' := q2
  refine ⟨f', r', ?_, ?_, ⟨⟨?_, ?_, ?_, ?_, ?_, ?_, hK, hH, hD, ht⟩, IVd_congr hd (q4 11 (by decide) (by decide) (by decide)) (q4 12 (by decide) (by decide) (by decide)) (q4 13 (by decide) (by decide) (by decide)) (q4 15 (by decide) (by decide) (by decide)) (q4 17 (by decide) (by decide) (by decide)), IVl_congr hl (q4 15 (by decide) (by decide) (by decide)) (q4 22 (by decide) (by decide) (by decide)), IVp_congr hp (q4 15 (by decide) (by decide) (by decide)) (q4 19 (by decide) (by decide) (by decide)), q5⟩, q3, q7, q6, q4 23 (by decide) (by decide) (by decide), q4 15 (by decide) (by decide) (by decide)⟩
  · unfold m7_heatLoaves
    rw [q1', ob1_s]
  · unfold m9_warm
    rw [q2', ob1_s]
  all_goals
    rw [q4 23 (by decide) (by decide) (by decide)]
    assumption
