/-! the text: the reference's orders -/
section H5
variable {l : Launch} {L : Nat} {I : Nat → Nat → Int32} {Q : Nat → Nat → Option Nat} {P : Option Value → PH → Prop} {ln s : Nat}
/-- the orders that the reference has told -/
def TO (f : Nat → Int32) (c : Nat → Int32) (j : Nat) : Prop := ∀ i, i < j → f (3 * i) = (ordN c (stO c i)).2.2.1 ∧ f (3 * i + 1) = nI (ordN c (stO c i)).2.2.2.1 ∧ ((ordN c (stO c i)).2.2.1 = 99 → f (3 * i + 2) = nI (ordN c (stO c i)).2.2.2.2)
/-- an order told -/
def TE (f : Nat → Int32) (j : Nat) (r : Int32 × Nat × Nat) : Prop := f (3 * j) = r.1 ∧ f (3 * j + 1) = nI r.2.1 ∧ (r.1 = 99 → f (3 * j + 2) = nI r.2.2)
theorem TO.up {f f' : Nat → Int32} {c : Nat → Int32} {j : Nat} (h : TO f c j) (e : ∀ i, i < 3 * j → f' i = f i) (h2 : TE f' j (ordN c (stO c j)).2.2) : TO f' c (j + 1) := by
  intro i hi
  by_cases q : i = j
  · subst q; exact h2
  · rw [e _ (by omega), e _ (by omega), e _ (by omega)]
    exact h i (by omega)
/-- the reader's rows behind an order: told, its number, the spot -/
def ro (I : Nat → Nat → Int32) (g : Nat → Int32) (j s : Nat) : Nat → Nat → Int32 := uR (uR I 155 g) 149 (upd (upd (I 149) 14 (nI s)) 13 (nI j))
theorem ro_of (I : Nat → Nat → Int32) (g : Nat → Int32) (j s : Nat) : uR (a14 (uR I 155 g) s) 149 (upd (a14 (uR I 155 g) s 149) 13 (nI j)) = ro I g j s := by
  unfold a14 ro
  rw [uR_s, uR_uR, uR_n I g (show 149 ≠ 155 by omega)]
theorem u155 (I : Nat → Nat → Int32) (g g' : Nat → Int32) (s : Nat) : uR (a14 (uR I 155 g) s) 155 g' = a14 (uR I 155 g') s := by
  unfold a14
  rw [uR_n I g (show 149 ≠ 155 by omega), uR_n I g' (show 149 ≠ 155 by omega), uR_comm _ _ _ (show 149 ≠ 155 by omega), uR_uR]
theorem a155 (I : Nat → Nat → Int32) (g : Nat → Int32) (s : Nat) : a14 (uR I 155 g) s 155 = g := by rw [a14_o _ _ (by omega), uR_s]
theorem a155' (I : Nat → Nat → Int32) (s : Nat) (g : Nat → Int32) : uR (a14 I s) 155 g = a14 (uR I 155 g) s := by
  unfold a14
  rw [uR_n I g (show 149 ≠ 155 by omega), uR_comm _ _ _ (show 149 ≠ 155 by omega)]
theorem RT.told (h : RT I ln s) (g : Nat → Int32) : RT (uR I 155 g) ln s := by
  unfold RT
  rw [uR_n I g (show 149 ≠ 155 by omega)]
  exact h
theorem a154 (I : Nat → Nat → Int32) (g : Nat → Int32) (s : Nat) : a14 (uR I 155 g) s 154 = I 154 := by rw [a14_o _ _ (by omega), uR_n _ _ (by omega)]
theorem b2_tt : (1 : Int32) = b2 (true = true) := (b2_t rfl).symm
theorem b2_ff : (0 : Int32) = b2 (false = true) := (b2_f (fun q => by cases q)).symm
theorem nff {p : Prop} (q : false = true) : p := by cases q
def ZI (j : Nat) : Prop := (vp_in (nI (3 * j)) 66 ∧ (nI (3 * j)).toNatClampNeg = 3 * j) ∧ (vp_in (nI (3 * j + 1)) 66 ∧ (nI (3 * j + 1)).toNatClampNeg = 3 * j + 1) ∧ (vp_in (nI (3 * j + 2)) 66 ∧ (nI (3 * j + 2)).toNatClampNeg = 3 * j + 2) ∧ nI (3 * j) + 2 = nI (3 * j + 2)
theorem ZI.of {j : Nat} (h : j ≤ 20) : ZI j := ⟨ixp (by omega) (by omega), ixp (by omega) (by omega), ixp (by omega) (by omega), nI_add _ 2⟩
theorem up3a (g : Nat → Int32) (x : Int32) {i j : Nat} (h : i < 3 * j) : upd g (3 * j) x i = g i := upd_n _ _ (by omega)
theorem up3b (g : Nat → Int32) (x : Int32) {i j : Nat} (h : i < 3 * j) : upd g (3 * j + 1) x i = g i := upd_n _ _ (by omega)
theorem up3c (g : Nat → Int32) (x : Int32) {i j : Nat} (h : i < 3 * j) : upd g (3 * j + 2) x i = g i := upd_n _ _ (by omega)
end H5

