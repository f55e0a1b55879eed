/-! a taxi that comes: the reference -/
section F2
variable {l : Launch} {L : Nat} {I : Nat → Nat → Int32} {Q : Nat → Nat → Option Nat} {P : Option Value → PH → Prop} {z : Nat → Int32} {n m k : Nat}
/-- a block on its way: the first k of block a are block a - 1's already -/
def shK (z : Nat → Int32) (a n k : Nat) : Nat → Int32 := fun j => if 72 + 13 * (a + 1) ≤ j ∧ j < 72 + 13 * (a + 1) + k then z (j - 13) else shI z (a + 1) n j
theorem shK_0 (z : Nat → Int32) (a n : Nat) : shK z a n 0 = shI z (a + 1) n := by
  funext j
  simp only [shK]
  rw [if_neg (by omega)]
theorem shK_13 (z : Nat → Int32) {a n : Nat} (h : a < n) : shK z a n 13 = shI z a n := by
  funext j
  simp only [shK, shI]
  by_cases h1 : 72 + 13 * (a + 1) ≤ j ∧ j < 72 + 13 * (a + 1) + 13
  · rw [if_pos h1, if_pos (by omega)]
  · rw [if_neg h1]
    by_cases h2 : 72 + 13 * (a + 1 + 1) ≤ j ∧ j < 72 + 13 * (n + 1)
    · rw [if_pos h2, if_pos (by omega)]
    · rw [if_neg h2, if_neg (by omega)]
theorem shK_step (z : Nat → Int32) {a n k : Nat} (hk : k < 13) : upd (shK z a n k) (tp (a + 1) k) (shK z a n k (tp a k)) = shK z a n (k + 1) := by
  have e : shK z a n k (tp a k) = z (tp a k) := by
    simp only [shK, shI, tp]
    rw [if_neg (by omega), if_neg (by omega)]
  rw [e]
  funext j
  simp only [upd, shK, tp]
  by_cases h : j = 72 + 13 * (a + 1) + k
  · rw [if_pos h, if_pos (by omega)]
    exact congrArg z (by omega)
  · rw [if_neg h]
    by_cases h1 : 72 + 13 * (a + 1) ≤ j ∧ j < 72 + 13 * (a + 1) + k
    · rw [if_pos h1, if_pos (by omega)]
    · rw [if_neg h1, if_neg (by omega)]
theorem shI_n (z : Nat → Int32) (n : Nat) : shI z n n = z := by
  funext j
  simp only [shI]
  rw [if_neg (by omega)]
theorem zIn0_0 (z : Nat → Int32) (p : Int32) (q n : Nat) : zIn0 z p q n 0 = shI z q n := by
  funext j
  simp only [zIn0]
  rw [if_neg (by omega)]
theorem zIn0_step (z : Nat → Int32) (p : Int32) {q n k : Nat} (hk : k < 13) (v : Int32) (hv : v = if k = 0 then p else 0) : upd (zIn0 z p q n k) (tp q k) v = zIn0 z p q n (k + 1) := by
  funext j
  simp only [upd, zIn0, tp]
  by_cases h : j = 72 + 13 * q + k
  · rw [if_pos h, if_pos (by omega), hv]
    by_cases h0 : k = 0
    · rw [if_pos h0, if_pos (by omega)]
    · rw [if_neg h0, if_neg (by omega)]
  · rw [if_neg h]
    by_cases h1 : 72 + 13 * q ≤ j ∧ j < 72 + 13 * q + k
    · rw [if_pos h1, if_pos (show 72 + 13 * q ≤ j ∧ j < 72 + 13 * q + (k + 1) by omega)]
    · rw [if_neg h1, if_neg (by omega)]
end F2

