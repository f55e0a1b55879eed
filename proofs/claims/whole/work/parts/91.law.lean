/-! the law: the loop -/
section L7
variable {l : Launch} {L : Nat} {I : Nat → Nat → Int32} {Q : Nat → Nat → Option Nat} {P : Option Value → PH → Prop} {bd : Nat}
theorem kS (L : Nat) : KC 1003 = 11 ∧ NC L 1003 = L := ⟨rfl, rfl⟩
theorem len4 {L i : Nat} (hL : L ≤ 2048) (hi : i ≤ 2048) : (nI L - 4 < nI i) = (L < i + 4) := by
  have a := nI_toInt (n := L) (by omega)
  have b := nI_toInt (n := i) (by omega)
  simp only [eq_iff_iff, Int32.lt_iff_toInt_lt, Int32.toInt_sub, a, b]
  rw [show (4 : Int32).toInt = 4 from rfl]
  rw [Int.bmod_eq_of_le (by omega) (by omega)]
  omega
end L7
