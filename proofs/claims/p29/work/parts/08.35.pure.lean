/-! doughs are cleared away: the class renumbers as it goes, the model at the end -/
def kp (f : bkA) (d : Nat) : Bool := decide (f 15 d = nI 0 ∨ f 15 d = nI 1)
def rk (f : bkA) (d : Nat) : Nat := cn (kp f) d
def rho (f : bkA) (d e : Nat) : Nat := if e < d then rk f e else e
theorem rk_le {f : bkA} {d : Nat} : rk f d ≤ d := cn_le
theorem rk_t {f : bkA} {d : Nat} (h : kp f d = true) : rk f (d+1) = rk f d + 1 := cn_t h
theorem rk_f {f : bkA} {d : Nat} (h : ¬ kp f d = true) : rk f (d+1) = rk f d := cn_f h
theorem rk_mono {f : bkA} : ∀ {a b : Nat}, a ≤ b → rk f a ≤ rk f b
  | a, 0, h => by
    have e : a = 0 := by omega
    subst e
    exact Nat.le_refl _
  | a, b+1, h => by
    by_cases e : a = b + 1
    · subst e
      exact Nat.le_refl _
    · have h1 := rk_mono (f := f) (a := a) (b := b) (by omega)
      by_cases k : kp f b = true
      · rw [rk_t k]
        omega
      · rw [rk_f k]
        exact h1
theorem rk_lt {f : bkA} {a b : Nat} (h : a < b) (k : kp f a = true) : rk f a < rk f b := by
  have h1 := rk_mono (f := f) (a := a + 1) (b := b) (by omega)
  rw [rk_t k] at h1
  omega
theorem rk_inj {f : bkA} {a b : Nat} (ka : kp f a = true) (kb : kp f b = true) (e : rk f a = rk f b) : a = b := by
  by_cases h1 : a < b
  · have := rk_lt h1 ka
    omega
  · by_cases h2 : b < a
    · have := rk_lt h2 kb
      omega
    · omega
theorem rk_sur {f : bkA} : ∀ (d x : Nat), x < rk f d → ∃ e, e < d ∧ kp f e = true ∧ rk f e = x
  | 0, x, h => absurd h (by show ¬ x < 0; omega)
  | d+1, x, h => by
    by_cases k : kp f d = true
    · rw [rk_t k] at h
      by_cases e : x = rk f d
      · exact ⟨d, by omega, k, e.symm⟩
      · obtain ⟨y, h1, h2, h3⟩ := rk_sur (f := f) d x (by omega)
        exact ⟨y, by omega, h2, h3⟩
    · rw [rk_f k] at h
      obtain ⟨y, h1, h2, h3⟩ := rk_sur d x h
      exact ⟨y, by omega, h2, h3⟩
theorem rho_i {f : bkA} {i x : Nat} (e : rho f i x = i) : x = i := by
  unfold rho at e
  by_cases h : x < i
  · rw [if_pos h] at e
    have := rk_le (f := f) (d := x)
    omega
  · rw [if_neg h] at e
    exact e
theorem rho_n {f : bkA} {i x : Nat} (h : x ≠ i) : rho f (i+1) x = rho f i x := by
  unfold rho
  by_cases c : x < i
  · rw [if_pos c, if_pos (by omega)]
  · rw [if_neg c, if_neg (by omega)]
theorem rho_s {f : bkA} {i : Nat} : rho f (i+1) i = rk f i := if_pos (by omega)
theorem rho_D {f : bkA} {D x : Nat} (h : x < D) : rho f D x = rk f x := if_pos h
theorem rho_le {f : bkA} {i x : Nat} : rho f i x ≤ x := by
  unfold rho
  by_cases c : x < i
  · rw [if_pos c]
    exact rk_le
  · rw [if_neg c]
    exact Nat.le_refl _
theorem LN_map {g g' : Nat → Int32} {φ ψ : Nat → Nat} : ∀ (xs : List Nat) (b : Nat), LN g b (xs.map φ) → (∀ m x, b ≤ m → m < b + xs.length → x ∈ xs → g m = nI (φ x) → g' m = nI (ψ x)) → LN g' b (xs.map ψ)
  | [], b, _, _ => trivial
  | y :: xs, b, h, hp => by
    refine ⟨hp b y (Nat.le_refl b) (by show b < b + (xs.length + 1); omega) (List.mem_cons.mpr (Or.inl rfl)) h.1, LN_map xs (b+1) h.2 ?_⟩
    intro m x h1 h2 h3 h4
    exact hp m x (by omega) (by show m < b + (xs.length + 1); omega) (List.mem_cons.mpr (Or.inr h3)) h4
theorem ND_map {φ : Nat → Nat} : ∀ (xs : List Nat), ND xs → (∀ x y, x ∈ xs → y ∈ xs → φ x = φ y → x = y) → ND (xs.map φ)
  | [], _, _ => trivial
  | y :: xs, h, hi => by
    refine ⟨?_, ND_map xs h.2 (fun a b ha hb => hi a b (List.mem_cons.mpr (Or.inr ha)) (List.mem_cons.mpr (Or.inr hb)))⟩
    intro q
    obtain ⟨z, z1, z2⟩ := List.mem_map.mp q
    have e := hi z y (List.mem_cons.mpr (Or.inr z1)) (List.mem_cons.mpr (Or.inl rfl)) z2
    rw [e] at z1
    exact h.1 z1
def mvj (f : bkA) (d k j : Nat) : bkA := fun a e => if (11 ≤ a ∧ a < 11 + j) ∧ e = k then f a d else f a e
theorem mvj_0 {f : bkA} {d k : Nat} : mvj f d k 0 = f := by
  funext a e
  unfold mvj
  rw [if_neg (by omega)]
theorem mvj_s {f : bkA} {d k j : Nat} (hj : j < 8) : wr (mvj f d k j) (11+j) k (f (11+j) d) = mvj f d k (j+1) := by
  funext a e
  rw [wr_at]
  unfold mvj
  by_cases h : a = 11 + j ∧ e = k
  · rw [if_pos h, if_pos ⟨by omega, h.2⟩, h.1]
  · rw [if_neg h]
    by_cases h2 : (11 ≤ a ∧ a < 11 + j) ∧ e = k
    · rw [if_pos h2, if_pos ⟨by omega, h2.2⟩]
    · rw [if_neg h2, if_neg (fun q => by
        have q1 := q.1
        by_cases q2 : a = 11 + j
        · exact h ⟨q2, q.2⟩
        · exact h2 ⟨by omega, q.2⟩)]
theorem mvj_d {f : bkA} {d k j : Nat} : mvj f d k j (11+j) d = f (11+j) d := by
  unfold mvj
  rw [if_neg (by omega)]
theorem mvj_n {f : bkA} {d k j a : Nat} (h : ¬ (11 ≤ a ∧ a < 11 + j)) : mvj f d k j a = f a := by
  funext e
  unfold mvj
  rw [if_neg (fun q => h q.1)]
theorem mvj_e {f : bkA} {d k j a e : Nat} (h : e ≠ k) : mvj f d k j a e = f a e := by
  unfold mvj
  rw [if_neg (fun q => h q.2)]
theorem mvj_k {f : bkA} {d k a : Nat} (h1 : 11 ≤ a) (h2 : a ≤ 18) : mvj f d k 8 a k = f a d := by
  unfold mvj
  rw [if_pos ⟨by omega, rfl⟩]
theorem mvj_ur {f : bkA} {d k j : Nat} {g : Nat → Int32} (hj : j ≤ 8) : ur (mvj f d k j) 19 g = mvj (ur f 19 g) d k j := by
  funext a e
  by_cases h : a = 19
  · subst h
    rw [ur_s, mvj_n (by omega), ur_s]
  · rw [ur_n h]
    unfold mvj
    rw [ur_n h]
theorem move_mv {f : bkA} {d k : Nat} (hd : d < 16) (hk : k < 16) : m1_move f (nI d) (nI k) = mvj f d k 8 := by
  have e0 := mvj_0 (f := f) (d := d) (k := k)
  have e1 := mvj_s (f := f) (d := d) (k := k) (j := 0) (by decide)
  have e2 := mvj_s (f := f) (d := d) (k := k) (j := 1) (by decide)
  have e3 := mvj_s (f := f) (d := d) (k := k) (j := 2) (by decide)
  have e4 := mvj_s (f := f) (d := d) (k := k) (j := 3) (by decide)
  have e5 := mvj_s (f := f) (d := d) (k := k) (j := 4) (by decide)
  have e6 := mvj_s (f := f) (d := d) (k := k) (j := 5) (by decide)
  have e7 := mvj_s (f := f) (d := d) (k := k) (j := 6) (by decide)
  have e8 := mvj_s (f := f) (d := d) (k := k) (j := 7) (by decide)
  rw [← e8, ← e7, ← e6, ← e5, ← e4, ← e3, ← e2, ← e1, e0]
  unfold m1_move
  simp (disch := omega) only [ltx_s, wr_put, rat_nI, wr_n]
theorem RG_c {f g : bkA} {r : Nat → Int32} (h : RG f r) (e : ∀ j, j ≠ 22 → g j = f j) : RG g r := by
  constructor
  · intro j i hj hi n20 n21 n22
    rw [e j n22]
    exact h.1 j i hj hi n20 n21 n22
  · intro p hp hn
    rw [e 19 (by decide)] at hn
    rw [e 20 (by decide), e 21 (by decide)]
    exact h.2 p hp hn
/-- the model moves a dough's eight numbers -/
theorem move9 {f : bkA} {r : Nat → Int32} {N d k : Nat} {ls : List Nat} (hd : d < 16) (hk : k < 16) (hR : RG f r) (hL : LN r 213 ls) (hls : ls.length ≤ 16) (hN : 100 < N) : ∃ r', m9_clearDoughs_L60 N N (nI k) (nI d) 1 0 r = some r' ∧ RG (mvj f d k 8) r' ∧ LN r' 213 ls := by
  have q : ∃ r', m9_clearDoughs_L60 N N (nI k) (nI d) 1 (nI 0) r = some r' ∧ RG (mvj f d k 8) r' ∧ LN r' 213 ls := by
    refine loop_i (σ := Nat → Int32) (fun n i s => ∃ r', m9_clearDoughs_L60 N n (nI k) (nI d) 1 (nI i) s = some r' ∧ RG (mvj f d k 8) r' ∧ LN r' 213 ls) (fun i s => RG (mvj f d k i) s ∧ LN s 213 ls) 8 ?_ ?_ N 0 r (by omega) (by omega) ⟨by rw [mvj_0]; exact hR, hL⟩
    · intro n s hs
      refine ⟨s, ?_, hs⟩
      rw [m9_clearDoughs_L60, if_pos (by decide)]
    · intro n i s hi hs ih
      have hp16 : pL (11+i) = 16 := pL_11 hi
      rw [m9_clearDoughs_L60, if_neg (show ¬ (8 : Int32) ≤ nI i from nI_ge hi (by decide)), if_neg (by decide), x9_of hd hi, ob1_s, x9_put hk hi, ob1_s, ltx_s, nI_1, RG_a hs.1 (by omega) (by rw [hp16]; exact hd) (by omega), mvj_d]
      refine ih _ ⟨?_, LN_mr hs.2 hls (by omega) (by omega)⟩
      rw [← mvj_s hi]
      exact RG_wr hs.1 (by omega) (by omega)
  exact q
/-- the class's renumbering of the line and the places -/
def r22 (g : Nat → Int32) (W d k : Nat) : Nat → Int32 := fun i => if i < W ∧ g i = nI d then nI k else g i
theorem ren7 {f : bkA} {N d k W : Nat} (hW : W ≤ 16) (e3 : f 23 3 = nI W) (hN : 100 < N) : m7_renumber N f (nI d) (nI k) = some (ur (ur f 22 (r22 (f 22) W d k)) 19 (r22 (f 19) 12 d k)) := by
  have up : ∀ (g : Nat → Int32) (i : Nat), (if r22 g i d k i = nI d then upd (r22 g i d k) i (nI k) else r22 g i d k) = r22 g (i+1) d k := by
    intro g i
    have e : r22 g i d k i = g i := if_neg (by omega)
    rw [e]
    funext x
    by_cases c : g i = nI d
    · rw [if_pos c]
      by_cases ex : x = i
      · subst ex
        rw [pk_us]
        unfold r22
        rw [if_pos ⟨by omega, c⟩]
      · rw [pk_un ex]
        unfold r22
        by_cases c2 : x < i ∧ g x = nI d
        · rw [if_pos c2, if_pos ⟨by omega, c2.2⟩]
        · rw [if_neg c2, if_neg (fun q => c2 ⟨by omega, q.2⟩)]
    · rw [if_neg c]
      unfold r22
      by_cases c2 : x < i ∧ g x = nI d
      · rw [if_pos c2, if_pos ⟨by omega, c2.2⟩]
      · rw [if_neg c2, if_neg (fun q => by
          by_cases ex : x = i
          · rw [ex] at q
            exact c q.2
          · exact c2 ⟨by omega, q.2⟩)]
  have q1 : m7_renumber_L2 N N (nI d) (nI k) (nI 0) f = some (ur f 22 (r22 (f 22) W d k)) := by
    refine loop_i (σ := bkA) (fun n i s => m7_renumber_L2 N n (nI d) (nI k) (nI i) s = some (ur f 22 (r22 (f 22) W d k))) (fun i s => s = ur f 22 (r22 (f 22) i d k)) W ?_ ?_ N 0 f (by omega) (by omega) ?_
    · intro n s hs
      rw [m7_renumber_L2, hs, ur_n (show (23 : Nat) ≠ 22 by decide), e3, if_pos (Int32.le_refl _)]
    · intro n i s hi hs ih
      rw [m7_renumber_L2, hs, ur_n (show (23 : Nat) ≠ 22 by decide), e3, if_neg (nI_ge hi (by omega)), ur_s, rat_nI (by omega) (by decide), rput_nI (by omega) (by decide), lt1_s, ltx_s, ltx_s, nI_1]
      refine ih _ ?_
      rw [← up]
      by_cases c : r22 (f 22) i d k i = nI d
      · rw [if_pos c, if_pos c]
        funext a
        by_cases ha : a = 22
        · subst ha
          rw [ur_s, ur_s]
        · rw [ur_n ha, ur_n ha, ur_n ha]
      · rw [if_neg c, if_neg c]
    · funext a
      by_cases ha : a = 22
      · subst ha
        rw [ur_s]
        funext x
        exact (if_neg (by omega)).symm
      · rw [ur_n ha]
  obtain ⟨g, eg⟩ : ∃ g, g = ur f 22 (r22 (f 22) W d k) := ⟨_, rfl⟩
  have eg19 : g 19 = f 19 := by rw [eg]; exact ur_n (by decide)
  have q2 : m7_renumber_L39 N N (nI d) (nI k) (nI 0) g = some (ur g 19 (r22 (g 19) 12 d k)) := by
    refine loop_i (σ := bkA) (fun n i s => m7_renumber_L39 N n (nI d) (nI k) (nI i) s = some (ur g 19 (r22 (g 19) 12 d k))) (fun i s => s = ur g 19 (r22 (g 19) i d k)) 12 ?_ ?_ N 0 g (by omega) (by omega) ?_
    · intro n s hs
      rw [m7_renumber_L39, hs, if_pos (by decide)]
    · intro n i s hi hs ih
      rw [m7_renumber_L39, hs, if_neg (show ¬ (12 : Int32) ≤ nI i from nI_ge hi (by decide)), ur_s, rat_nI (by omega) (by decide), rput_nI (by omega) (by decide), lt1_s, ltx_s, ltx_s, nI_1]
      refine ih _ ?_
      rw [← up]
      by_cases c : r22 (g 19) i d k i = nI d
      · rw [if_pos c, if_pos c]
        funext a
        by_cases ha : a = 19
        · subst ha
          rw [ur_s, ur_s]
        · rw [ur_n ha, ur_n ha, ur_n ha]
      · rw [if_neg c, if_neg c]
    · funext a
      by_cases ha : a = 19
      · subst ha
        rw [ur_s]
        funext x
        exact (if_neg (by omega)).symm
      · rw [ur_n ha]
  unfold m7_renumber
  have q1' : m7_renumber_L2 N N (nI d) (nI k) 0 f = some g := by rw [eg]; exact q1
  have q2' : m7_renumber_L39 N N (nI d) (nI k) 0 g = _ := q2
  rw [q1', ob1_s, q2', ob1_s, eg19, eg]
