/-! the reference's methods without loops, and what they mean -/
abbrev irem (x y : Int32) : Int32 := x - x / y * y
abbrev stays (z : Nat → Int32) (i : Nat) : Prop := irem (z (tp i 0)) 10 = irem (z 5 / 1440) 10
abbrev tired (z : Nat → Int32) (i : Nat) : Prop := z 3 ≤ z (tp i 3)
abbrev may (z : Nat → Int32) (i : Nat) : Prop := ¬ stays z i ∧ ¬ tired z i
abbrev fare32 (a b : Int32) : Int32 := 30 + 12 * sz32 (b - a)
theorem ix_lit : ix 0 = 0 ∧ ix 1 = 1 ∧ ix 2 = 2 ∧ ix 3 = 3 ∧ ix 4 = 4 ∧ ix 5 = 5 ∧ ix 6 = 6 ∧ ix 7 = 7 ∧ ix 8 = 8 ∧ ix 9 = 9 ∧ ix 10 = 10 ∧ ix 11 = 11 ∧ ix 12 = 12 ∧ ix 13 = 13 ∧ ix 14 = 14 ∧ ix 15 = 15 := by decide
theorem in_lit : vp_in 0 228 ∧ vp_in 1 228 ∧ vp_in 2 228 ∧ vp_in 3 228 ∧ vp_in 4 228 ∧ vp_in 5 228 ∧ vp_in 6 228 ∧ vp_in 7 228 ∧ vp_in 8 228 ∧ vp_in 9 228 ∧ vp_in 10 228 ∧ vp_in 11 228 ∧ vp_in 12 228 ∧ vp_in 13 228 ∧ vp_in 14 228 ∧ vp_in 15 228 := by unfold vp_in; decide
theorem lt_lit : (((0 : Int32) < 0) = False) ∧ (((1 : Int32) < 0) = False) ∧ (((2 : Int32) < 0) = False) ∧ (((3 : Int32) < 0) = False) ∧ (((4 : Int32) < 0) = False) ∧ (((5 : Int32) < 0) = False) ∧ (((6 : Int32) < 0) = False) ∧ (((7 : Int32) < 0) = False) ∧ (((8 : Int32) < 0) = False) ∧ (((9 : Int32) < 0) = False) ∧ (((10 : Int32) < 0) = False) ∧ (((11 : Int32) < 0) = False) ∧ (((12 : Int32) < 0) = False) := by decide
theorem cl_lit : (0 : Int32).toNatClampNeg = 0 ∧ (1 : Int32).toNatClampNeg = 1 ∧ (2 : Int32).toNatClampNeg = 2 ∧ (3 : Int32).toNatClampNeg = 3 ∧ (4 : Int32).toNatClampNeg = 4 ∧ (5 : Int32).toNatClampNeg = 5 ∧ (6 : Int32).toNatClampNeg = 6 ∧ (7 : Int32).toNatClampNeg = 7 ∧ (8 : Int32).toNatClampNeg = 8 ∧ (9 : Int32).toNatClampNeg = 9 ∧ (10 : Int32).toNatClampNeg = 10 ∧ (11 : Int32).toNatClampNeg = 11 ∧ (12 : Int32).toNatClampNeg = 12 ∧ (13 : Int32).toNatClampNeg = 13 ∧ (14 : Int32).toNatClampNeg = 14 ∧ (15 : Int32).toNatClampNeg = 15 := by decide
theorem nz_lit : ((10 : Int32) = 0) = False ∧ ((1440 : Int32) = 0) = False ∧ ((-1 : Int32) = 0) = False ∧ ((1 : Int32) = 0) = False := by decide
theorem setZ_eq (S : PS) (I : Nat → Nat → Int32) (Q : Nat → Nat → Option Nat) (k : Nat) (v : Int32) : setZ (S, I, Q) k v = (S, uR I 150 (upd (I 150) k v), Q) := rfl
section T2
variable {l : Launch} {L : Nat} {I : Nat → Nat → Int32} {Q : Nat → Nat → Option Nat} {P : Option Value → PH → Prop}
end T2
section T3
variable {l : Launch} {L : Nat} {I : Nat → Nat → Int32} {Q : Nat → Nat → Option Nat} {P : Option Value → PH → Prop}
end T3
