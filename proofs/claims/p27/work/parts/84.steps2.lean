/-! one call on both sides: what is told, the text, the past -/
theorem tRN_20 (c : Nat → Int32) {ln : Nat} (hz : ∀ t, ln ≤ t → c t = 0) : ∀ f j s, s ≤ ln → 3 * j ≤ s → (tRN c ln f j s).1 = none → 3 * (tRN c ln f j s).2 ≤ ln + 1 := by
  intro f
  induction f with
  | zero => intro j s _ _ h; cases h
  | succ f ih =>
    intro j s hs hj h
    have ob := ordN_b c s
    simp only [tRN] at h ⊢
    by_cases g1 : (ordN c s).1 = false
    · rw [if_pos g1] at h; cases h
    · rw [if_neg g1] at h ⊢
      have g1' : (ordN c s).1 = true := by simpa using g1
      have hl := ordN_last c s g1'
      have hle : ¬ ln ≤ (ordN c s).2.1 - 1 := fun q => by
        rw [hz _ q] at hl
        exact absurd hl.1 (by decide)
      have ob3 := ob.2.2 g1'
      by_cases g2 : ln ≤ (ordN c s).2.1
      · rw [if_pos g2]
        dsimp only
        omega
      · rw [if_neg g2] at h ⊢
        by_cases g3 : c (ordN c s).2.1 = 59
        · rw [if_pos g3] at h ⊢
          exact ih (j + 1) _ (by omega) (by omega) h
        · rw [if_neg g3] at h; cases h
section K3
variable {l : Launch} {L : Nat} {I : Nat → Nat → Int32} {Q : Nat → Nat → Option Nat} {bd : Nat}
end K3

