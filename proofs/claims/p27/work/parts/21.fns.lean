theorem kc_lit : KC 0 = 5 ∧ KC 1 = 4 ∧ KC 21 = 4 ∧ KC 41 = 4 ∧ KC 61 = 0 ∧ KC 62 = 10 ∧ KC 143 = 8 ∧ KC 144 = 1 ∧ KC 145 = 8 ∧ KC 146 = 7 ∧ KC 147 = 7 ∧ KC 148 = 8 ∧ KC 149 = 6 ∧ KC 150 = 7 ∧ KC 151 = 7 ∧ KC 152 = 7 ∧ KC 153 = 7 ∧ KC 154 = 7 ∧ KC 155 = 7 ∧ KC 1000 = 11 ∧ KC 1001 = 11 ∧ KC 1002 = 11 ∧ KC 1003 = 11 := by decide
theorem nc_lit (L : Nat) : NC L 62 = 4 ∧ NC L 143 = 60 ∧ NC L 145 = 20 ∧ NC L 146 = 20 ∧ NC L 147 = 20 ∧ NC L 148 = 0 ∧ NC L 150 = 228 ∧ NC L 151 = 228 ∧ NC L 152 = 912 ∧ NC L 153 = 228 ∧ NC L 154 = 60 ∧ NC L 155 = 66 ∧ NC L 1000 = 5 ∧ NC L 1001 = 5 ∧ NC L 1002 = 5 ∧ NC L 1003 = L := ⟨rfl, rfl, rfl, rfl, rfl, rfl, rfl, rfl, rfl, rfl, rfl, rfl, rfl, rfl, rfl, rfl⟩
theorem sc_rows (L : Nat) : (SC L).1 = 149 ∧ (SC L).2.1 = 1788 ∧ (SC L).2.2.1 = KC ∧ (SC L).2.2.2 = NC L := ⟨rfl, rfl, rfl, rfl⟩
/-- an index, as a natural number -/
abbrev ix (x : Int32) : Nat := x.toNatClampNeg
/-- rows for the walk -/
theorem wlk_rows : (∀ r : Nat, rvl (some r) = .ref r) ∧ rvl none = .null := ⟨fun _ => rfl, rfl⟩
def b2 (c : Prop) [Decidable c] : Int32 := if c then 1 else 0
theorem b2_0 {c : Prop} [Decidable c] : (b2 c = 0) = ¬ c := by
  unfold b2
  split <;> simp [*]
theorem b2_1 {c : Prop} [Decidable c] : (b2 c = 1) = c := by
  unfold b2
  split <;> simp [*]
theorem b2_01 {c : Prop} [Decidable c] : b2 c = 0 ∨ b2 c = 1 := by
  unfold b2
  split <;> simp
theorem b2_t {c : Prop} [Decidable c] (h : c) : b2 c = 1 := by unfold b2; rw [if_pos h]
theorem b2_f {c : Prop} [Decidable c] (h : ¬ c) : b2 c = 0 := by unfold b2; rw [if_neg h]
def sz32 (x : Int32) : Int32 := if x < 0 then -x else x
/-- the place of a taxi's number in the state's array -/
abbrev tp (i w : Nat) : Nat := 72 + 13 * i + w
theorem nI_small {i : Nat} (h : i < 2147483648) : ix (nI i) = i ∧ ¬ nI i < 0 := ⟨nI_clamp h, nI_pos h⟩
theorem ix_nI {n : Nat} (h : n < 2147483648) : ix (nI n) = n := nI_clamp h
theorem ix_of {x : Int32} (h : ¬ x < 0) : x = nI (ix x) ∧ ix x < 2147483648 := by
  obtain ⟨j, hj, rfl⟩ := nI_of h
  rw [ix_nI hj]
  exact ⟨rfl, hj⟩
theorem tp_ix {t w : Int32} (ht : ¬ t < 0) (ht2 : ix t < 12) (hw : ¬ w < 0) (hw2 : ix w < 13) : vp_in (72 + 13 * t + w) 228 ∧ ix (72 + 13 * t + w) = tp (ix t) (ix w) := by
  obtain ⟨e1, -⟩ := ix_of ht
  obtain ⟨e2, -⟩ := ix_of hw
  rw [e1, e2, ix_nI (n := ix t) (by omega), ix_nI (n := ix w) (by omega)]
  have e : (72 : Int32) + 13 * nI (ix t) + nI (ix w) = nI (tp (ix t) (ix w)) := by
    rw [show (72 : Int32) = nI 72 from rfl, show (13 : Int32) = nI 13 from rfl, pk_mul, nI_add, nI_add]
  rw [e]
  exact ⟨vp_in_nI (by simp [tp]; omega) (by omega), ix_nI (by simp [tp]; omega)⟩
theorem wt_ix {t w : Int32} (ht : ¬ t < 0) (ht2 : ix t < 15) (hw : ¬ w < 0) (hw2 : ix w < 3) : vp_in (27 + 3 * t + w) 228 ∧ ix (27 + 3 * t + w) = 27 + 3 * ix t + ix w := by
  obtain ⟨e1, -⟩ := ix_of ht
  obtain ⟨e2, -⟩ := ix_of hw
  rw [e1, e2, ix_nI (n := ix t) (by omega), ix_nI (n := ix w) (by omega)]
  have e : (27 : Int32) + 3 * nI (ix t) + nI (ix w) = nI (27 + 3 * ix t + ix w) := by
    rw [show (27 : Int32) = nI 27 from rfl, show (3 : Int32) = nI 3 from rfl, pk_mul, nI_add, nI_add]
  rw [e]
  exact ⟨vp_in_nI (by omega) (by omega), ix_nI (by omega)⟩
def setZ (h : PH) (k : Nat) (v : Int32) : PH := (h.1, uR h.2.1 150 (upd (h.2.1 150) k v), h.2.2)
def fA_in : FN := fun As h => match As with
  | [.int v, .int a, .int b] => (True, [.int (b2 (a ≤ v ∧ v ≤ b))], h)
  | _ => (False, [], h)
def fA_size : FN := fun As h => match As with
  | [.int v] => (True, [.int (sz32 v)], h)
  | _ => (False, [], h)
def fA_isPlace : FN := fun As h => match As with
  | [.int v] => (h.1.1 = 149 ∧ h.1.2.1 = 1788, [.int (b2 (0 ≤ v ∧ v ≤ 20))], h)
  | _ => (False, [], h)
section T1
variable {l : Launch} {L : Nat} {I : Nat → Nat → Int32} {Q : Nat → Nat → Option Nat} {P : Option Value → PH → Prop}
end T1

