/-! picking the best of several, from either end -/
section PK
variable {le : Nat → Nat → Prop}
def cmb (le : Nat → Nat → Prop) (dl : ∀ x y, Decidable (le x y)) : Option Nat → Option Nat → Option Nat
  | none, b => b
  | some x, none => some x
  | some x, some y => @ite _ (le x y) (dl x y) (some x) (some y)
theorem cmb_assoc (dl : ∀ x y, Decidable (le x y)) (h1 : ∀ x y z, le x y → le y z → le x z) (h2 : ∀ x y z, ¬ le x y → ¬ le y z → ¬ le x z) (a b c : Option Nat) : cmb le dl a (cmb le dl b c) = cmb le dl (cmb le dl a b) c := by
  cases a with
  | none => rfl
  | some x =>
    cases b with
    | none => rfl
    | some t =>
      cases c with
      | none =>
        show cmb le dl (some x) (some t) = cmb le dl (cmb le dl (some x) (some t)) none
        simp only [cmb]
        split <;> rfl
      | some g =>
        simp only [cmb]
        by_cases q1 : le t g
        · rw [if_pos q1]
          by_cases q2 : le x t
          · simp only [if_pos q2, if_pos (h1 _ _ _ q2 q1)]
          · simp only [if_neg q2, if_pos q1]
        · rw [if_neg q1]
          by_cases q2 : le x t
          · simp only [if_pos q2]
          · simp only [if_neg q2, if_neg q1, if_neg (h2 _ _ _ q2 q1)]
/-- one after the other, from the first: what c says of each -/
def pkF (le : Nat → Nat → Prop) (dl : ∀ x y, Decidable (le x y)) (c : Nat → Option Nat) : Nat → Option Nat
  | 0 => none
  | k + 1 => cmb le dl (pkF le dl c k) (c k)
/-- from the last -/
def pkB (le : Nat → Nat → Prop) (dl : ∀ x y, Decidable (le x y)) (c : Nat → Option Nat) : Nat → Option Nat → Option Nat
  | 0, f => f
  | k + 1, f => pkB le dl c k (cmb le dl (c k) f)
theorem cmb_none (dl : ∀ x y, Decidable (le x y)) (a : Option Nat) : cmb le dl a none = a := by cases a <;> rfl
theorem pk_same (dl : ∀ x y, Decidable (le x y)) (h1 : ∀ x y z, le x y → le y z → le x z) (h2 : ∀ x y z, ¬ le x y → ¬ le y z → ¬ le x z) (c : Nat → Option Nat) : ∀ k f, pkB le dl c k f = cmb le dl (pkF le dl c k) f := by
  intro k
  induction k with
  | zero => intro f; rfl
  | succ k ih =>
    intro f
    simp only [pkB, pkF]
    rw [ih, cmb_assoc dl h1 h2]
end PK
/-- who rides, from the head -/
abbrev leR (z : Nat → Int32) (isL : Prop) : Nat → Nat → Prop := fun x y => ¬ isL ∨ z (tp x 5) ≤ z (tp y 5)
theorem i32_le_trans {a b c : Int32} (h1 : a ≤ b) (h2 : b ≤ c) : a ≤ c := by
  have := Int32.le_iff_toInt_le.mp h1
  have := Int32.le_iff_toInt_le.mp h2
  exact Int32.le_iff_toInt_le.mpr (by omega)
theorem i32_nle_trans {a b c : Int32} (h1 : ¬ a ≤ b) (h2 : ¬ b ≤ c) : ¬ a ≤ c := by
  have q1 := Int32.lt_iff_toInt_lt.mp (Int32.not_le.mp h1)
  have q2 := Int32.lt_iff_toInt_lt.mp (Int32.not_le.mp h2)
  exact Int32.not_le.mpr (Int32.lt_iff_toInt_lt.mpr (by omega))
theorem leR_1 (z : Nat → Int32) (isL : Prop) (x y w : Nat) (h1 : leR z isL x y) (h2 : leR z isL y w) : leR z isL x w := by
  rcases h1 with h1 | h1
  · exact Or.inl h1
  · rcases h2 with h2 | h2
    · exact Or.inl h2
    · exact Or.inr (i32_le_trans h1 h2)
theorem leR_2 (z : Nat → Int32) (isL : Prop) (x y w : Nat) (h1 : ¬ leR z isL x y) (h2 : ¬ leR z isL y w) : ¬ leR z isL x w := fun h => h.elim (fun q => h1 (Or.inl q)) (fun q => i32_nle_trans (fun q => h1 (Or.inr q)) (fun q => h2 (Or.inr q)) q)
def cR (z : Nat → Int32) (n k : Nat) : Option Nat := if may z (lx z n k) then some (lx z n k) else none
theorem rdS_cmb (z : Nat → Int32) (isL : Prop) [d : Decidable isL] (n k : Nat) (f : Option Nat) : rdS z isL (lx z n k) f = cmb (leR z isL) (fun _ _ => inferInstance) (cR z n k) f := by
  unfold cR
  cases f with
  | none =>
    simp only [rdS]
    split <;> rfl
  | some g =>
    simp only [rdS]
    by_cases h : may z (lx z n k)
    · rw [if_pos h]
      simp only [cmb]
      by_cases q : leR z isL (lx z n k) g
      · rw [if_pos ⟨h, q⟩, if_pos q]
      · rw [if_neg (fun a => q a.2), if_neg q]
    · rw [if_neg h, if_neg (fun a => h a.1)]
      rfl
theorem rd_pkB (z : Nat → Int32) (isL : Prop) [d : Decidable isL] (n : Nat) : ∀ k f, rd z n isL k f = pkB (leR z isL) (fun _ _ => inferInstance) (cR z n) k f := by
  intro k
  induction k with
  | zero => intro f; rfl
  | succ k ih => intro f; simp only [rd, pkB]; rw [rdS_cmb, ih]
theorem rider_pkF (z : Nat → Int32) (n m : Nat) (b : Int32) : rider z n m b = pkF (leR z (isLongZ z 10 b)) (fun _ _ => inferInstance) (cR z n) m := by
  unfold rider
  rw [rd_pkB, pk_same _ (leR_1 z _) (leR_2 z _), cmb_none]

