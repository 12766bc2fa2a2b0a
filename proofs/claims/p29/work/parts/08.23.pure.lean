/-! ticks pass -/
def PH (f f' : bkA) (D : Nat) : Prop := (∀ e, e < D → f 15 e = nI 3 → f' 15 e = nI 3) ∧ (∀ e, e < D → f 15 e = nI 1 ∨ f 15 e = nI 2 → f' 15 e = nI 1 ∨ f' 15 e = nI 2)
theorem PH_refl {f : bkA} {D : Nat} : PH f f D := ⟨fun _ _ q => q, fun _ _ q => q⟩
theorem PH_trans {f g h : bkA} {D : Nat} (a : PH f g D) (b : PH g h D) : PH f h D := ⟨fun e he q => b.1 e he (a.1 e he q), fun e he q => b.2 e he (a.2 e he q)⟩
theorem S_pass {f : bkA} {r : Nat → Int32} {K H D t T N m : Nat} {ls : List Nat} (h : SIM f r K H D ls t T) (hm : m ≤ 100) (hT : T ≤ 900000) (hN : 200 < N) : ∃ c f' r' ls' t', m7_passTicks N f (nI m) = some (c, f') ∧ m9_passNow N r (nI m) = some (c, r') ∧ SIM f' r' K H D ls' t' (T + m) ∧ PH f f' D := by
  have q : ∃ c f' r' ls' t', m7_passTicks_L4 N N (nI m) (nI 0) (nI 0) f = some (c, f') ∧ m9_passNow_L4 N N (nI m) (nI 0) (nI 0) r = some (c, r') ∧ SIM f' r' K H D ls' t' (T + m) ∧ PH f f' D := by
    refine loop_i (σ := Int32 × bkA × (Nat → Int32)) (fun n i x => ∃ c f' r' ls' t', m7_passTicks_L4 N n (nI m) x.1 (nI i) x.2.1 = some (c, f') ∧ m9_passNow_L4 N n (nI m) x.1 (nI i) x.2.2 = some (c, r') ∧ SIM f' r' K H D ls' t' (T + m) ∧ PH f f' D) (fun i x => ∃ ls' t', SIM x.2.1 x.2.2 K H D ls' t' (T + i) ∧ PH f x.2.1 D) m ?_ ?_ N 0 (nI 0, f, r) (by omega) (by omega) ⟨ls, t, h, PH_refl⟩
    · intro n x hx
      obtain ⟨ls', t', h1, h2⟩ := hx
      refine ⟨x.1, x.2.1, x.2.2, ls', t', ?_, ?_, h1, h2⟩
      · rw [m7_passTicks_L4, if_pos (Int32.le_refl _)]
      · rw [m9_passNow_L4, if_pos (Int32.le_refl _)]
    · intro n i x hi hx ih
      obtain ⟨c0, f0, r0⟩ := x
      obtain ⟨ls', t', h1, h2⟩ := hx
      dsimp only at h1 h2 ⊢
      obtain ⟨f1, lo, f3, f4, c, f5, r', ls2, t2, a1, a2, a3, a4, a5, a6, a7, a8, a9⟩ := S_tick (N := N) h1 (by omega) (by omega)
      rw [m7_passTicks_L4, m9_passNow_L4, if_neg (nI_ge hi (by omega)), if_neg (nI_ge hi (by omega)), a1, ob1_s, a2, ob2_s, a3, ob1_s, a4, ob2_s, a5, ob2_s]
      simp only [lt1_s, ltx_s, wr_u, nI_1]
      refine ih (c0 + nI c, wr (m7_coolDown f5 (nI lo) (nI c)) 23 5 (m7_coolDown f5 (nI lo) (nI c) 23 5 + 1), r') ⟨ls2, t2, a6, PH_trans h2 ⟨?_, ?_⟩⟩
      · intro e he q
        dsimp only
        rw [wr_n (by decide), a9]
        exact a7 e he q
      · intro e he q
        dsimp only
        rw [wr_n (by decide), a9]
        exact a8 e he q
  obtain ⟨c, f', r', ls', t', q1, q2, q3, q4⟩ := q
  have q1' : m7_passTicks_L4 N N (nI m) 0 0 f = some (c, f') := q1
  have q2' : m9_passNow_L4 N N (nI m) 0 0 r = some (c, r') := q2
  refine ⟨c, f', r', ls', t', ?_, ?_, q3, q4⟩
  · unfold m7_passTicks
    rw [q1', ob2_s]
  · unfold m9_passNow
    rw [q2', ob2_s]
