/-! orders carried out: the reference -/
section J3
variable {l : Launch} {L : Nat} {I : Nat → Nat → Int32} {Q : Nat → Nat → Option Nat} {P : Option Value → PH → Prop} {a n m k ln : Nat} {z y : Nat → Int32}
theorem TO.ix {f : Nat → Int32} {c : Nat → Int32} {N i : Nat} (h : TO f c N) (hi : i < N) : f (3 * i) = (ordN c (stO c i)).2.2.1 ∧ f (3 * i + 1) = nI (ordN c (stO c i)).2.2.2.1 ∧ ((ordN c (stO c i)).2.2.1 = 99 → f (3 * i + 2) = nI (ordN c (stO c i)).2.2.2.2) := h i hi
theorem x155 (I : Nat → Nat → Int32) (y z : Nat → Int32) : uR (uR I 149 y) 150 z 155 = I 155 ∧ uR (uR I 149 y) 150 z 149 = y ∧ uR (uR I 149 y) 150 z 150 = z ∧ uR (uR I 149 y) 150 z 151 = I 151 := by
  refine ⟨?_, ?_, uR_s _ _ _, ?_⟩
  · rw [uR_n _ _ (by omega), uR_n _ _ (by omega)]
  · rw [uR_n _ _ (by omega), uR_s]
  · rw [uR_n _ _ (by omega), uR_n _ _ (by omega)]
/-- the reference has recorded its state of before -/
def RCW (I I' : Nat → Nat → Int32) (a : Nat) : Prop := (∀ i, i < aSt a → Eq228 (wSt (pw (I 152)) a (I 150) i) (pw (I' 152) i)) ∧ (∀ j, j ≠ 3 → j ≠ 10 → j ≠ 11 → j ≠ 13 → j ≠ 14 → I' 149 j = I 149 j) ∧ I' 149 3 = nI (aSt a) ∧ ∀ p, (p < 149 ∨ p = 153 ∨ p = 154 ∨ 155 < p) → I' p = I p
theorem wSt_cg {w : Nat → Nat → Int32} {a : Nat} {z z' : Nat → Int32} (e : Eq228 z z') : ∀ i, Eq228 (wSt w a z i) (wSt w a z' i) := by
  intro i
  unfold wSt
  split
  · dsimp only
    split
    · exact e
    · exact Eq228.rf _
  · dsimp only
    split
    · exact e
    · exact Eq228.rf _
theorem RCW.of {I' : Nat → Nat → Int32} (h : RC I I' a) (ha : a ≤ 4) : RCW I I' a := by
  obtain ⟨h1, h2, h3, h4⟩ := h
  refine ⟨fun i hi => ?_, fun j a b c _ _ => h2 j a b c, h3, h4⟩
  rw [h1]
  exact pw_rec _ _ ha i hi
end J3

