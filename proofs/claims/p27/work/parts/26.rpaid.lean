/-! the reference: being paid, the end of what a taxi does, passengers that go; all from a state's array z -/
theorem uR_149 {α : Type} (f : Nat → Nat → α) (a b : Nat → α) : uR (uR f 150 a) 149 b = uR (uR f 149 b) 150 a := by
  funext q
  by_cases h1 : q = 149
  · subst h1; simp [uR]
  · by_cases h2 : q = 150
    · subst h2; simp [uR]
    · simp [uR, h1, h2]
theorem uR_r149 {α : Type} (f : Nat → Nat → α) (a : Nat → α) : uR f 150 a 149 = f 149 := uR_n f a (by decide)
def zPaid1 (z : Nat → Int32) (i : Nat) : Nat → Int32 := upd (upd z (tp i 6) (z (tp i 6) + fare32 (z (tp i 10)) (z (tp i 11)))) 9 (z 9 + fare32 (z (tp i 10)) (z (tp i 11)))
def zPaid (z : Nat → Int32) (i n m : Nat) : Nat → Int32 := if z (tp i 11) - 10 = 0 then zBack (zPaid1 z i) i n m else upd (upd (upd (zPaid1 z i) (tp i 1) 3) (tp i 2) (sz32 (z (tp i 11) - 10) * z 0)) (tp i 9) (if z (tp i 11) - 10 < 0 then -1 else 1)
def zEnd (z : Nat → Int32) (i n m : Nat) : Nat → Int32 := if z (tp i 1) = 1 then zRide z i else if z (tp i 1) = 2 then zPaid z i n m else if z (tp i 1) = 3 then zBack z i n m else zStand (upd z (tp i 3) 0) i m m
def shW (z : Nat → Int32) (r j0 : Nat) : Nat → Int32 := fun j => if 27 + 3 * r ≤ j ∧ j < 27 + j0 then z (j + 3) else z j
theorem shW_step (z : Nat → Int32) {r k : Nat} (h : 3 * r ≤ k) : upd (shW z r k) (27 + k) (shW z r k (27 + k + 3)) = shW z r (k + 1) := by
  funext j
  simp only [upd, shW]
  by_cases e : j = 27 + k
  · subst e
    rw [if_pos rfl, if_neg (by omega), if_pos (by omega)]
  · rw [if_neg e]
    by_cases e2 : 27 + 3 * r ≤ j ∧ j < 27 + k
    · rw [if_pos e2, if_pos (by omega)]
    · rw [if_neg e2, if_neg (by omega)]
def zGoes (z : Nat → Int32) (r k : Nat) : Nat → Int32 := shW (upd z 13 (nI (k - 1))) r (3 * (k - 1))
theorem nI_add27 (k : Nat) : (27 : Int32) + nI k = nI (27 + k) ∧ nI (27 + k) + 3 = nI (27 + k + 3) ∧ (3 : Int32) * nI k = nI (3 * k) := by
  rw [show (27 : Int32) = nI 27 from rfl, show (3 : Int32) = nI 3 from rfl, nI_add, nI_add, pk_mul]
  exact ⟨rfl, rfl, rfl⟩
section T7
variable {l : Launch} {L : Nat} {I : Nat → Nat → Int32} {Q : Nat → Nat → Option Nat} {P : Option Value → PH → Prop} {z : Nat → Int32}
theorem LnOK_same {z z' : Nat → Int32} {n m : Nat} (h : LnOK z n m) (h1 : ∀ i, z' (tp i 0) = z (tp i 0)) (h2 : ∀ k, k < m → z' (15 + k) = z (15 + k)) : LnOK z' n m := by
  intro k hk
  obtain ⟨i, a, b⟩ := h k hk
  exact ⟨i, a, by rw [h1, h2 k hk]; exact b⟩
theorem zPaid1_tp (z : Nat → Int32) (i j u : Nat) (hu : u < 13) (h : u ≠ 6) : zPaid1 z i (tp j u) = z (tp j u) := by
  simp only [zPaid1, upd, tp]
  rw [if_neg (by omega), if_neg (by omega)]
theorem zPaid1_S (z : Nat → Int32) (i k : Nat) (hk : k < 72) (h : k ≠ 9) : zPaid1 z i k = z k := by
  simp only [zPaid1, upd, tp]
  rw [if_neg (by omega), if_neg (by omega)]
end T7

