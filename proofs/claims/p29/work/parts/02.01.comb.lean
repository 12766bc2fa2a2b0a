/-! the words of the pure functions that the methods' code is read as -/
def lt_ {α β : Type} (a : α) (k : α → β) : β := k a
theorem ltn_s {α β : Type} {x a : α} {k : α → β} {r : β} (h : x = a) (hf : lt_ a k = r) : k x = r := by subst h; exact hf
def lt1 {α β : Type} (a : α) (k : α → β) : β := k a
theorem lt1_e {α β : Type} {a : α} {k : α → β} {r : β} (hf : lt1 a k = r) : ∃ x, a = x ∧ k x = r := ⟨a, rfl, hf⟩
def lt2 {α α2 β : Type} (a : α × α2) (k : α → α2 → β) : β := k a.1 a.2
theorem lt2_e {α α2 β : Type} {a : α × α2} {k : α → α2 → β} {r : β} (hf : lt2 a k = r) : ∃ x y, a = (x, y) ∧ k x y = r := ⟨a.1, a.2, rfl, hf⟩
def lt3 {α α2 α3 β : Type} (a : α × α2 × α3) (k : α → α2 → α3 → β) : β := k a.1 a.2.1 a.2.2
theorem lt3_e {α α2 α3 β : Type} {a : α × α2 × α3} {k : α → α2 → α3 → β} {r : β} (hf : lt3 a k = r) : ∃ x y z, a = (x, y, z) ∧ k x y z = r := ⟨a.1, a.2.1, a.2.2, rfl, hf⟩
def lt4 {α α2 α3 α4 β : Type} (a : α × α2 × α3 × α4) (k : α → α2 → α3 → α4 → β) : β := k a.1 a.2.1 a.2.2.1 a.2.2.2
theorem lt4_e {α α2 α3 α4 β : Type} {a : α × α2 × α3 × α4} {k : α → α2 → α3 → α4 → β} {r : β} (hf : lt4 a k = r) : ∃ x y z u, a = (x, y, z, u) ∧ k x y z u = r := ⟨a.1, a.2.1, a.2.2.1, a.2.2.2, rfl, hf⟩
def ob1 {α β : Type} (a : Option α) (k : α → Option β) : Option β := a.bind k
theorem ob1_e {α β : Type} {a : Option α} {k : α → Option β} {r : β} (hf : ob1 a k = some r) : ∃ x, a = some x ∧ k x = some r := by
  cases a with
  | none => cases hf
  | some x => exact ⟨x, rfl, hf⟩
def ob2 {α α2 β : Type} (a : Option (α × α2)) (k : α → α2 → Option β) : Option β := a.bind fun x => k x.1 x.2
theorem ob2_e {α α2 β : Type} {a : Option (α × α2)} {k : α → α2 → Option β} {r : β} (hf : ob2 a k = some r) : ∃ x y, a = some (x, y) ∧ k x y = some r := by
  cases a with
  | none => cases hf
  | some x => exact ⟨x.1, x.2, rfl, hf⟩
def ob3 {α α2 α3 β : Type} (a : Option (α × α2 × α3)) (k : α → α2 → α3 → Option β) : Option β := a.bind fun x => k x.1 x.2.1 x.2.2
theorem ob3_e {α α2 α3 β : Type} {a : Option (α × α2 × α3)} {k : α → α2 → α3 → Option β} {r : β} (hf : ob3 a k = some r) : ∃ x y z, a = some (x, y, z) ∧ k x y z = some r := by
  cases a with
  | none => cases hf
  | some x => exact ⟨x.1, x.2.1, x.2.2, rfl, hf⟩
def ob4 {α α2 α3 α4 β : Type} (a : Option (α × α2 × α3 × α4)) (k : α → α2 → α3 → α4 → Option β) : Option β := a.bind fun x => k x.1 x.2.1 x.2.2.1 x.2.2.2
theorem ob4_e {α α2 α3 α4 β : Type} {a : Option (α × α2 × α3 × α4)} {k : α → α2 → α3 → α4 → Option β} {r : β} (hf : ob4 a k = some r) : ∃ x y z u, a = some (x, y, z, u) ∧ k x y z u = some r := by
  cases a with
  | none => cases hf
  | some x => exact ⟨x.1, x.2.1, x.2.2.1, x.2.2.2, rfl, hf⟩
def ob5 {α α2 α3 α4 α5 β : Type} (a : Option (α × α2 × α3 × α4 × α5)) (k : α → α2 → α3 → α4 → α5 → Option β) : Option β := a.bind fun x => k x.1 x.2.1 x.2.2.1 x.2.2.2.1 x.2.2.2.2
theorem ob5_e {α α2 α3 α4 α5 β : Type} {a : Option (α × α2 × α3 × α4 × α5)} {k : α → α2 → α3 → α4 → α5 → Option β} {r : β} (hf : ob5 a k = some r) : ∃ x y z u v, a = some (x, y, z, u, v) ∧ k x y z u v = some r := by
  cases a with
  | none => cases hf
  | some x => exact ⟨x.1, x.2.1, x.2.2.1, x.2.2.2.1, x.2.2.2.2, rfl, hf⟩
def ob6 {α α2 α3 α4 α5 α6 β : Type} (a : Option (α × α2 × α3 × α4 × α5 × α6)) (k : α → α2 → α3 → α4 → α5 → α6 → Option β) : Option β := a.bind fun x => k x.1 x.2.1 x.2.2.1 x.2.2.2.1 x.2.2.2.2.1 x.2.2.2.2.2
theorem ob6_e {α α2 α3 α4 α5 α6 β : Type} {a : Option (α × α2 × α3 × α4 × α5 × α6)} {k : α → α2 → α3 → α4 → α5 → α6 → Option β} {r : β} (hf : ob6 a k = some r) : ∃ x y z u v t, a = some (x, y, z, u, v, t) ∧ k x y z u v t = some r := by
  cases a with
  | none => cases hf
  | some x => exact ⟨x.1, x.2.1, x.2.2.1, x.2.2.2.1, x.2.2.2.2.1, x.2.2.2.2.2, rfl, hf⟩
/-- an index that must lie in its row -/
def ck {β : Type} (i : Int32) (n : Nat) (k : Option β) : Option β := if i < 0 ∨ n ≤ i.toNatClampNeg then none else k
theorem ck_e {β : Type} {i : Int32} {n : Nat} {k : Option β} {r : β} (hf : ck i n k = some r) : vp_in i n ∧ k = some r := by
  unfold ck at hf
  split at hf
  · cases hf
  · rename_i h
    exact ⟨h, hf⟩
def ckp {β : Type} (c : Prop) [Decidable c] (k : Option β) : Option β := if c then k else none
theorem ckp_e {β : Type} {c : Prop} [Decidable c] {k : Option β} {r : β} (hf : ckp c k = some r) : c ∧ k = some r := by
  unfold ckp at hf
  split at hf
  · rename_i h
    exact ⟨h, hf⟩
  · cases hf
def rat (n : Nat) (g : Nat → Int32) (i : Int32) : Int32 := if i < 0 then 0 else if nI n ≤ i then 0 else g i.toNatClampNeg
def rput (n : Nat) (g : Nat → Int32) (i v : Int32) : Nat → Int32 := if i < 0 then g else if nI n ≤ i then g else upd g i.toNatClampNeg v
def rinc (n : Nat) (g : Nat → Int32) (i v : Int32) : Nat → Int32 := rput n g i (rat n g i + v)
def rfill (n : Nat) (g : Nat → Int32) (v : Int32) : Nat → Int32 := fun i => if i < n then v else g i
theorem ne_i {x y : Int32} {z : Int} (h : ¬ x = y) (hz : y.toInt = z) : x.toInt ≠ z := fun q => h (Int32.toInt_inj.mp (q.trans hz.symm))
theorem lsw_2 {a b o1 o2 d k : Int} (h1 : k ≠ a) (h2 : k ≠ b) : Op.lookupswitch.offset [(a, o1), (b, o2)] d k = d := by
  rw [Op.lookupswitch.offset_cons, if_neg (Ne.symm h1), Op.lookupswitch.offset_cons, if_neg (Ne.symm h2), Op.lookupswitch.offset_nil]
