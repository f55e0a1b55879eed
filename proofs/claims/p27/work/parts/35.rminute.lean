/-! the reference: a minute -/
theorem upd_upd (z : Nat → Int32) (k : Nat) (v w : Int32) : upd (upd z k v) k w = upd z k w := by
  funext j
  by_cases h : j = k <;> simp [upd, h]
theorem upd_id (z : Nat → Int32) (k : Nat) : upd z k (z k) = z := by
  funext j
  by_cases h : j = k <;> simp [upd, h]
section T9
variable {l : Launch} {L : Nat} {I : Nat → Nat → Int32} {Q : Nat → Nat → Option Nat} {P : Option Value → PH → Prop} {z y : Nat → Int32}
theorem MV.n {n k : Nat} (h : MV z n k) : z 11 = nI n ∧ n ≤ 12 := by obtain ⟨⟨m, hl⟩, -⟩ := h; exact ⟨hl.1, hl.2.1⟩
theorem zTs_inv {n k : Nat} (h : MV z n k) : ∀ i, i ≤ n → MV (zTs z i) n k := by
  intro i
  induction i with
  | zero => intro _; exact h
  | succ i ih => intro hi; exact (ih (by omega)).tick (by omega)
end T9

