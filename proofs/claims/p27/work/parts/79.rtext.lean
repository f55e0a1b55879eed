/-! the text: the reference reads -/
section H4
variable {l : Launch} {L : Nat} {I : Nat → Nat → Int32} {Q : Nat → Nat → Option Nat} {P : Option Value → PH → Prop} {ln s : Nat}
def RT (I : Nat → Nat → Int32) (ln s : Nat) : Prop := I 149 7 = nI ln ∧ I 149 14 = nI s ∧ ln ≤ 60 ∧ s ≤ 100
def a14 (I : Nat → Nat → Int32) (s : Nat) : Nat → Nat → Int32 := uR I 149 (upd (I 149) 14 (nI s))
theorem RT.at (h : RT I ln s) {s' : Nat} (hs : s' ≤ 100) : RT (a14 I s') ln s' := by
  obtain ⟨a, b, c, d⟩ := h
  unfold RT a14
  rw [uR_s, upd_e, upd_n _ _ (by omega)]
  exact ⟨a, rfl, c, hs⟩
theorem a14_o (I : Nat → Nat → Int32) (s : Nat) {p : Nat} (h : p ≠ 149) : a14 I s p = I p := uR_n _ _ h
theorem a14_a14 (I : Nat → Nat → Int32) (s s' : Nat) : a14 (a14 I s) s' = a14 I s' := by
  unfold a14
  rw [uR_s, uR_uR, upd_upd]
theorem a14_self (h : I 149 14 = nI s) : a14 I s = I := by
  unfold a14
  rw [← h, upd_id, uR_self]
theorem kT (L : Nat) : KC 149 = 6 ∧ KC 154 = 7 ∧ KC 155 = 7 ∧ NC L 154 = 60 ∧ NC L 155 = 66 := ⟨rfl, rfl, rfl, rfl, rfl⟩
theorem RT.sp (h : RT I ln s) : a14 I s = I := a14_self h.2.1
theorem chx_lt {f : Nat → Int32} (h : 48 ≤ chx f ln s) : s < ln := Decidable.byContradiction (fun q => by
  rw [chx_0 _ (by omega)] at h
  exact absurd h (by decide))
end H4

