/-! the reference: arrive, call, pass -/
section G2
variable {l : Launch} {L : Nat} {I : Nat → Nat → Int32} {Q : Nat → Nat → Option Nat} {P : Option Value → PH → Prop} {a n m k : Nat}
theorem whyJ_c (z : Nat → Int32) (to : Int32) : whyJ z to < 0 ∨ whyJ z to = 0 := by
  unfold whyJ
  split
  · exact Or.inl (by decide)
  · split
    · exact Or.inl (by decide)
    · split
      · exact Or.inl (by decide)
      · exact Or.inr rfl
theorem whyP_c (z : Nat → Int32) (x : Int32) : whyP z x < 0 ∨ whyP z x = 0 := by
  unfold whyP
  split
  · exact Or.inl (by decide)
  · split
    · exact Or.inl (by decide)
    · exact Or.inr rfl
theorem whyC_c (z : Nat → Int32) (n m : Nat) (f to : Int32) : whyC z n m f to < 0 ∨ whyC z n m f to = 0 := by
  unfold whyC
  split
  · exact Or.inl (by decide)
  · split
    · exact Or.inl (by decide)
    · split
      · exact Or.inl (by decide)
      · exact Or.inr rfl
theorem whyS_c (z : Nat → Int32) (wh v : Int32) : whyS z wh v < 0 ∨ whyS z wh v = 0 := by
  unfold whyS
  split
  · exact Or.inl (by decide)
  · split
    · exact Or.inl (by decide)
    · split
      · exact Or.inl (by decide)
      · exact Or.inr rfl
theorem whyH_c (z : Nat → Int32) (n : Nat) (p : Int32) : whyH z n p < 0 ∨ whyH z n p = 0 := by
  unfold whyH
  split
  · exact Or.inl (by decide)
  · split
    · exact Or.inl (by decide)
    · split
      · exact Or.inl (by decide)
      · exact Or.inr rfl
theorem whyW_c (z : Nat → Int32) (n : Nat) (p : Int32) : whyW z n p < 0 ∨ whyW z n p = 0 := by
  unfold whyW
  split
  · exact Or.inl (by decide)
  · split
    · split
      · exact Or.inr rfl
      · exact Or.inl (by decide)
    · split
      · exact Or.inl (by decide)
      · exact Or.inr rfl
theorem neg_ge {x : Int32} (h : x < 0) : (0 ≤ x) = False := eq_false (Int32.not_le.mpr h)
theorem RC.y {I I' : Nat → Nat → Int32} {a : Nat} (h : RC I I' a) {y' : Nat → Int32} (hy : ∀ j, j ≠ 11 → y' j = I' 149 j) (g : Nat → Int32) : RC I (uR (uR I' 149 y') 150 g) a :=
  ⟨by rw [uR_n _ _ (by omega), uR_n _ _ (by omega)]; exact h.1, fun j a b c => by rw [uR_n _ _ (by omega), uR_s, hy j c]; exact h.2.1 j a b c, by rw [uR_n _ _ (by omega), uR_s, hy 3 (by omega)]; exact h.2.2.1, fun p hp => by rw [uR_n _ _ (by omega), uR_n _ _ (by omega)]; exact h.2.2.2 p hp⟩
theorem uR_two {I : Nat → Nat → Int32} {z : Nat → Int32} (e : I 150 = z) : uR (uR I 149 (I 149)) 150 z = I := by
  rw [uR_self, ← e, uR_self]
end G2

