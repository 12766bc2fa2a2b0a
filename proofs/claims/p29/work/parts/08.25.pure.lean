/-! what a household owes now; the fewest logs -/
theorem S_owesNow {f : bkA} {r : Nat → Int32} {K H D t T N b : Nat} {ls : List Nat} (h : SIM f r K H D ls t T) (hb : b < H) (hT : T ≤ 200000) (hN : 100 < N) (ow : Nat → Int32) (rs : Nat → Int64) : ∃ x ow' rs', m7_owedBy N f (nI b) = some x ∧ m9_owesNow N r ow rs (nI b) = some (x, ow', rs') := by
  obtain ⟨⟨⟨e0, e1, e2, e3, e4, e5, hK, hH, hD, ht⟩, hd, hl, hp, hh, ⟨u, lb, a, n1, n2, n3, n4, n5, n6⟩⟩, hR, hL⟩ := h
  have hu := bounds ht hT n3 n4
  have hS : sumN a H < 2^28 := by
    have q := sumN_mono (a := a) hH
    omega
  obtain ⟨ow1, rs1, o1, o2⟩ := O9 (N := N) hR e1 hH n1 n5 hu hS hN ow rs
  refine ⟨nI (owv u a H b), ow1, rs1, O7 e1 hH n1 n5 hu hS hb hN, ?_⟩
  unfold m9_owesNow
  rw [o1, ob2_s, ck_nI (by omega) (by decide), nI_clamp (by omega), o2 b hb]
theorem S_logs {f : bkA} {r u : Nat → Int32} {K H D t T N d : Nat} {ls : List Nat} {q : Nat → Int32} (h : SIM f r K H D ls t T) (hd : d < D) (hu : ∀ j i, j < 20 → i < pL j → u (pos j i) = f j i) (hN : 100 < N) : ∃ x u', m7_fewestLogsFor_L12 N N (nI d) 0 f = some x ∧ m9_neededLogs_L55 N N (nI d) 0 r u q = some (x, u', q) := by
  obtain ⟨⟨⟨e0, e1, e2, e3, e4, e5, hK, hH, hD, ht⟩, hdd, hl, hp, hh, hn⟩, hR, hL⟩ := h
  obtain ⟨_, ⟨k, k1, k2⟩, _⟩ := hdd d hd
  have z : ∃ x u', m7_fewestLogsFor_L12 N N (nI d) (nI 0) f = some x ∧ m9_neededLogs_L55 N N (nI d) (nI 0) r u q = some (x, u', q) := by
    refine loop_i (σ := Nat → Int32) (fun n i s => ∃ x u', m7_fewestLogsFor_L12 N n (nI d) (nI i) f = some x ∧ m9_neededLogs_L55 N n (nI d) (nI i) r s q = some (x, u', q)) (fun i s => ∀ j i, j < 20 → i < pL j → s (pos j i) = f j i) 17 ?_ ?_ N 0 u (by omega) (by omega) hu
    · intro n s hs
      refine ⟨-1, s, ?_, ?_⟩
      · rw [m7_fewestLogsFor_L12, if_pos (by decide)]
      · rw [m9_neededLogs_L55, if_pos (by decide)]
    · intro n i s hi hs ih
      have h16 : ¬ (16 : Int32) < nI i := nI_nlt (a := 16) (b := i) (by omega) (by decide)
      have e25 : nI t + 25 * nI i = nI (t + 25 * i) := by rw [l_25, pk_mul, nI_add]
      rw [m7_fewestLogsFor_L12, m9_neededLogs_L55, if_neg h16, if_neg h16, c9_0, h9_0, RG_i4 hR, e4, e25]
      by_cases c : 400 < t + 25 * i
      · have c2 : (400 : Int32) < nI (t + 25 * i) := nI_lt (a := 400) (b := t + 25 * i) c (by omega)
        rw [if_pos c2, if_pos c2]
        exact ⟨-1, s, rfl, rfl⟩
      · have c2 : ¬ (400 : Int32) < nI (t + 25 * i) := nI_nlt (a := 400) (b := t + 25 * i) (by omega) (by decide)
        have hRh : RGh f (mr s 23 4 (nI (t + 25 * i))) (t + 25 * i) := ⟨fun j i' hj hi' => by rw [mr_n (by omega) (by decide) (by omega)]; exact hs j i' hj hi', mr_s⟩
        obtain ⟨x, x1, x2⟩ := S_reason (N := N) (d := d) hRh (by omega) (by omega) (by omega) k2 hN
        rw [if_neg c2, if_neg c2, c9_0, c9_0, mr_u, ltx_s (a := mr s 23 4 (nI (t + 25 * i))), x1, x2, ob1_s, ob1_s]
        by_cases cx : x = 0
        · rw [if_pos cx, if_pos cx]
          exact ⟨nI i, _, rfl, rfl⟩
        · rw [if_neg cx, if_neg cx, ltx_s, ltx_s, nI_1]
          exact ih _ hRh.1
  exact z
