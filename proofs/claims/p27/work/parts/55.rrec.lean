/-! the reference: its past -/
section D7
variable {l : Launch} {L : Nat} {I : Nat → Nat → Int32} {Q : Nat → Nat → Option Nat} {P : Option Value → PH → Prop}
def shP (f : Nat → Int32) (i : Nat) : Nat → Int32 := fun j => if j < i then f (j + 228) else f j
theorem shP_0 (f : Nat → Int32) : shP f 0 = f := by
  funext j
  simp [shP]
theorem shP_step (f : Nat → Int32) (i : Nat) : upd (shP f i) i (shP f i (i + 228)) = shP f (i + 1) := by
  funext j
  simp only [upd, shP]
  by_cases e : j = i
  · rw [if_pos e, if_neg (by omega), if_pos (by omega), e]
  · rw [if_neg e]
    by_cases h : j < i
    · rw [if_pos h, if_pos (by omega)]
    · rw [if_neg h, if_neg (by omega)]
/-- the past with one state more -/
def recP (f row : Nat → Int32) (a : Nat) : Nat → Int32 := if a = 4 then va_cpy row (shP f 684) 0 684 228 else va_cpy row f 0 (228 * a) 228
theorem rq (L : Nat) : KC 149 = 6 ∧ KC 150 = 7 ∧ KC 151 = 7 ∧ KC 152 = 7 ∧ KC 153 = 7 ∧ NC L 150 = 228 ∧ NC L 151 = 228 ∧ NC L 152 = 912 ∧ NC L 153 = 228 := ⟨rfl, rfl, rfl, rfl, rfl, rfl, rfl, rfl, rfl⟩
theorem nI_m228 (a : Nat) : (228 : Int32) * nI a = nI (228 * a) := by rw [show (228 : Int32) = nI 228 from rfl, pk_mul]
end D7

