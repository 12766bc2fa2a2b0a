/-! two States: one's rows into the other's -/
theorem pk_comm {w : bkW} {k k2 : Nat} {f g : bkA} (hne : k ≠ k2) : pk (pk w k2 g) k f = pk (pk w k f) k2 g := by
  unfold pk
  refine Prod.ext (funext fun a => ?_) rfl
  dsimp only
  by_cases h : a / 24 = k
  · rw [if_pos h, if_neg (by omega), if_pos h]
  · rw [if_neg h, if_neg h]
theorem HW_comm {X : bkX} {w : bkW} {k k2 : Nat} {f g : bkA} {H : Heap} (hne : k ≠ k2) (h : HW X (pk (pk w k2 g) k f) H) : HW X (pk (pk w k f) k2 g) H := by
  rw [← pk_comm hne]
  exact h
theorem pk_at2 {w : bkW} {k k2 j : Nat} {f g : bkA} (hne : k ≠ k2) (hj : j < 24) : (pk (pk w k2 g) k f).1 (24*k2+j) = g j := by
  rw [pk_comm hne]
  exact pk_at hj
section ST2W
variable {p : Program} {l : Launch} {e : Env} {R : Room} {s : State} {m : MethodId} {args : Array Value} {below : List Frame} {meth : Method} {c : Code} {H : Heap} {locs : List Loc} {Q : State → Prop}
variable {pc : Nat} {ls : Array Slot} {rest : List Value} {cc : ByteArray} {X : bkX} {w : bkW} {b0 : Nat} {H0 : Heap} {Ts : List Cond} {own C : String} {index nL k k2 j n : Nat} {f g : bkA}
theorem st_cpy (hX : XO X b0) (S : CallFix p m c cc nL s args Ts own) (hP : HW X (pk (pk w k2 g) k f) H) (hK : XK X s) (hS : va_S (xF b0) H0 H locs) (hk : k < 6) (hk2 : k2 < 6) (hne : k ≠ k2) (hj : j < 23) (hn : bkLen j = n) (cw : CallW R s args own RX6 index yX6_copyFrom cX6_copyFrom 2 none wsX6_copyFrom rmX6_copyFrom 0 0 1) (hsz : ls.size = nL) (hrm : (rest.map fun v => v.category).sum ≤ 8) (hdg : decode cc pc = .ok (.invokevirtual index, 3))
    (kk : ∀ f1 : bkA, f1 = ur f j (rcp n (g j) (f j)) → ∀ (H1 : Heap) (locs1 : List Loc), HW X (pk (pk w k2 g) k f1) H1 → va_S (xF b0) H0 H1 locs1 → W p l e R s m args below meth c H1 locs1 0 0 Q (F0 m (pc + 3) ls rest)) : W p l e R s m args below meth c H locs 0 0 Q (F0 m pc ls (.ref (xa X (51*k2+(5+j))) :: .ref (xa X (51*k+(5+j))) :: rest)) := by
  subst hn
  have hM := kR_copyFrom l hX (RW_st (X := X) hk hj) (RW_st (X := X) hk2 hj) (pk (pk w k2 g) k f)
  rw [pk_at (by omega), pk_at2 hne (by omega), pk_ua (by omega)] at hM
  exact w_cv S hP hK hS hM cw (row_recv (RW_st hk hj) hP hK) rfl hsz rfl hrm hdg ⟨Nat.zero_le _, Nat.zero_le _⟩ (kk _ rfl)
end ST2W
/-- the world depends on the cells' own places alone -/
theorem HW_ext {X : bkX} {w : bkW} {k : Nat} {f f' : bkA} {H : Heap} (hk : k < 6) (h1 : ∀ j, j < 23 → ∀ i, i < bkLen j → f j i = f' j i) (h2 : ∀ i, i < 12 → f 23 i = f' 23 i) (h : HW X (pk w k f) H) : HW X (pk w k f') H := by
  intro i q hq
  have hi : i < 314 := by
    by_cases hl : i < 314
    · exact hl
    · rw [List.getElem?_eq_none (by simp [wl]; omega)] at hq
      cases hq
  rw [wl_get hi] at hq
  cases hq
  have h0 := h i _ (wl_get hi)
  by_cases hj : i < 306
  · by_cases hjk : i / 51 = k
    · have e1 : i = 51*k + i%51 := by omega
      have e2 : i % 51 < 51 := by omega
      rw [e1] at h0 ⊢
      rw [emb_pk hk e2] at h0 ⊢
      unfold embS at h0 ⊢
      by_cases c0 : i % 51 = 0
      · rw [if_pos c0] at h0 ⊢
        unfold stF at h0 ⊢
        rw [h2 3 (by decide), h2 4 (by decide), h2 5 (by decide), h2 6 (by decide), h2 7 (by decide), h2 8 (by decide), h2 9 (by decide), h2 10 (by decide), h2 11 (by decide)] at h0
        exact h0
      · rw [if_neg c0] at h0 ⊢
        by_cases c1 : i % 51 = 1
        · rw [if_pos c1] at h0 ⊢
          unfold kiF at h0 ⊢
          rw [h2 0 (by decide)] at h0
          exact h0
        · rw [if_neg c1] at h0 ⊢
          by_cases c2 : i % 51 = 2
          · rw [if_pos c2] at h0 ⊢
            unfold hoF at h0 ⊢
            rw [h2 1 (by decide)] at h0
            exact h0
          · rw [if_neg c2] at h0 ⊢
            by_cases c3 : i % 51 = 3
            · rw [if_pos c3] at h0 ⊢
              unfold doF at h0 ⊢
              rw [h2 2 (by decide)] at h0
              exact h0
            · rw [if_neg c3] at h0 ⊢
              by_cases c4 : i % 51 = 4
              · rw [if_pos c4] at h0 ⊢
                exact h0
              · rw [if_neg c4] at h0 ⊢
                by_cases c5 : i % 51 < 28
                · rw [if_pos c5] at h0 ⊢
                  exact h0
                · rw [if_neg c5] at h0 ⊢
                  have hr := h1 (i%51 - 28) (by omega)
                  show H[_]? = some (vp_cell (xI X) (bkLen (i%51-28), .inl (f' (i%51-28))))
                  have h00 : H[_]? = some (vp_cell (xI X) (bkLen (i%51-28), .inl (f (i%51-28)))) := h0
                  rw [h00]
                  congr 1
                  unfold vp_cell arrV
                  dsimp only
                  congr 1
                  congr 1
                  funext t
                  rw [hr t.val t.isLt]
    · have e : emb X (pk w k f) i = emb X (pk w k f') i := by
        unfold emb
        rw [if_pos hj, if_pos hj]
        refine embS_congr (by omega) fun a ha => ?_
        show (if (24*(i/51)+a)/24 = k then _ else _) = (if (24*(i/51)+a)/24 = k then _ else _)
        rw [if_neg (by omega), if_neg (by omega)]
      rw [← e]
      exact h0
  · have e : emb X (pk w k f) i = emb X (pk w k f') i := by
      unfold emb
      rw [if_neg hj, if_neg hj]
      refine embX_congr (fun a h1 h2 => ?_) rfl
      show (if a/24 = k then _ else _) = (if a/24 = k then _ else _)
      rw [if_neg (by omega), if_neg (by omega)]
    rw [← e]
    exact h0
