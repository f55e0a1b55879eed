/-! the text: the reference reads all orders -/
section H6
variable {l : Launch} {L : Nat} {I : Nat → Nat → Int32} {Q : Nat → Nat → Option Nat} {P : Option Value → PH → Prop} {ln s : Nat}
def FT (I I' : Nat → Nat → Int32) : Prop := (∀ p, p ≠ 149 → p ≠ 155 → I' p = I p) ∧ ∀ i, i ≠ 13 → i ≠ 14 → I' 149 i = I 149 i
theorem FT.tr {I I' I'' : Nat → Nat → Int32} (h : FT I I') (h' : FT I' I'') : FT I I'' := ⟨fun p a b => (h'.1 p a b).trans (h.1 p a b), fun i a b => (h'.2 i a b).trans (h.2 i a b)⟩
theorem FT.rro (I : Nat → Nat → Int32) (g : Nat → Int32) (j s : Nat) : FT I (ro I g j s) := ⟨fun p a b => by unfold ro; rw [uR_n _ _ a, uR_n _ _ b], fun i a b => by unfold ro; rw [uR_s, upd_n _ _ a, upd_n _ _ b]⟩
theorem FT.sp (I : Nat → Nat → Int32) (s : Nat) : FT I (a14 I s) := ⟨fun p a b => a14_o _ _ a, fun i a b => by unfold a14; rw [uR_s, upd_n _ _ b]⟩
theorem ro_rt (h : RT I ln s) {g : Nat → Int32} {j s' : Nat} (hs : s' ≤ 100) : RT (ro I g j s') ln s' ∧ ro I g j s' 149 13 = nI j ∧ ro I g j s' 155 = g := by
  obtain ⟨a, b, c, d⟩ := h
  unfold RT ro
  rw [uR_s, upd_n _ _ (by omega), upd_n _ _ (by omega), upd_n _ _ (by omega), upd_e, upd_e, uR_n _ _ (by omega), uR_s]
  exact ⟨⟨a, rfl, c, hs⟩, rfl, rfl⟩
end H6

