/-! the reference's loops: taxis by plates, the line -/
theorem ixp {n N : Nat} (h : n < N) (hN : N < 2147483648) : vp_in (nI n) N ∧ (nI n).toNatClampNeg = n := ⟨vp_in_nI h hN, nI_clamp (by omega)⟩
theorem smI {i : Nat} (h : i < 2147483648) : ix (nI i) = i ∧ (nI i < 0) = False := ⟨nI_clamp h, by simp [nI_pos h]⟩
theorem leF {a b : Nat} (h : b < a) (ha : a < 2147483648) : (nI a ≤ nI b) = False := by simp [nI_leI (a := a) (b := b) (by omega) (by omega)]; omega
theorem leT {a b : Nat} (h : a ≤ b) (hb : b < 2147483648) : (nI a ≤ nI b) = True := by simp [nI_leI (a := a) (b := b) (by omega) (by omega)]; omega
theorem ltF {a b : Nat} (h : b ≤ a) (ha : a < 2147483648) : (nI a < nI b) = False := by simp [nI_ltI (a := a) (b := b) (by omega) (by omega)]; omega
theorem ltT {a b : Nat} (h : a < b) (hb : b < 2147483648) : (nI a < nI b) = True := by simp [nI_ltI (a := a) (b := b) (by omega) (by omega)]; omega
theorem eqF {a b : Nat} (h : a ≠ b) (ha : a < 2147483648) (hb : b < 2147483648) : (nI a = nI b) = False := by simp [nI_eq (a := a) (b := b) (by omega) (by omega)]; omega
theorem n5F {a : Nat} (ha : a < 2147483648) : (nI a = -5) = False := by
  apply eq_false
  intro e
  have h0 := nI_pos ha
  rw [e] at h0
  exact h0 (by decide)
theorem nI_add15 (k : Nat) : (15 : Int32) + nI k = nI (15 + k) := by rw [show (15 : Int32) = nI 15 from rfl, nI_add]
theorem nI_up (k : Nat) : nI k + 1 = nI (k + 1) := nI_1 k
theorem nI_dn {k : Nat} (h : 0 < k) : nI k + (-1) = nI (k - 1) ∧ nI k - 1 = nI (k - 1) := by
  obtain ⟨j, rfl⟩ : ∃ j, k = j + 1 := ⟨k - 1, by omega⟩
  exact ⟨pk_m1 j, nI_pred j⟩
section T4
variable {l : Launch} {L : Nat} {I : Nat → Nat → Int32} {Q : Nat → Nat → Option Nat} {P : Option Value → PH → Prop}
/-- the line, from a place on, one further back -/
def shR (z : Nat → Int32) (p k m : Nat) : Nat → Int32 := fun j => if 15 + p < j ∧ 15 + k < j ∧ j ≤ 15 + m then z (j - 1) else z j
theorem shR_step (z : Nat → Int32) {p k m : Nat} (h : p < k) (hk : k ≤ m) : upd (shR z p k m) (15 + k) (shR z p k m (15 + k - 1)) = shR z p (k - 1) m := by
  funext j
  simp only [upd, shR]
  by_cases e : j = 15 + k
  · subst e
    rw [if_pos rfl, if_neg (by omega), if_pos (by omega)]
  · rw [if_neg e]
    by_cases e2 : 15 + p < j ∧ 15 + k < j ∧ j ≤ 15 + m
    · rw [if_pos e2, if_pos (by omega)]
    · rw [if_neg e2, if_neg (by omega)]
def zStand (z : Nat → Int32) (i p m : Nat) : Nat → Int32 := upd (upd (upd (upd (shR z p p m) (15 + p) (z (tp i 0))) 12 (nI (m + 1))) (tp i 1) 0) (tp i 2) 0
end T4

