/-! what holds between two calls -/
def SN (I : Nat → Nat → Int32) (τ : Nat → Nat → Nat) (bd : Nat) : Prop := (I 0 3 = 0 ∧ I 149 5 = 0) ∨ (I 0 3 = 1 ∧ I 149 5 = 1 ∧ TH I 41 (τ 41) (I 153) ∧ XW (I 153) bd)
def TXT (I : Nat → Nat → Int32) (ln : Nat) : Prop := I 0 6 = nI ln ∧ I 149 7 = nI ln ∧ ln ≤ 60 ∧ (∀ j, j < ln → I 143 j = I 154 j) ∧ ∀ j, vp_nar .char (I 143 j) = I 143 j
theorem CT.cg {I : Nat → Nat → Int32} {Q : Nat → Nat → Option Nat} {τ : Nat → Nat → Nat} {b : Nat → Nat} {z z' : Nat → Int32} {w w' : Nat → Nat → Int32} {a n m k : Nat} (h : CT I Q τ b z w a n m k) (e : Eq228 z z') (ew : ∀ i, i < a → Eq228 (w i) (w' i)) : CT I Q τ b z' w' a n m k := by
  obtain ⟨h1, ⟨hC, hM, hL⟩, hA⟩ := h
  exact ⟨h1, ⟨hC.cg hM.n.2 hL.2.2.2.2.2.2.2 hM.2.2.2.2.1 e, hM.cg e, hL.cg e⟩, hA.1, hA.2.1, fun i hi => (hA.2.2 i hi).cg (ew i hi)⟩
theorem w_up {w : Nat → Nat → Int32} {a bd bd' : Nat} {z : Nat → Int32} (ha : a ≤ 4) (hw : ∀ i, i < a → XW (w i) bd) (hz : XW z bd) (hb : bd ≤ bd') : ∀ i, i < aSt a → XW (wSt w a z i) bd' := by
  intro i hi
  unfold aSt at hi
  unfold wSt
  by_cases g : a = 4
  · rw [if_pos g] at hi ⊢
    split
    · exact hz.mono hb
    · exact (hw _ (by omega)).mono hb
  · rw [if_neg g] at hi ⊢
    split
    · exact hz.mono hb
    · exact (hw _ (by omega)).mono hb
section K1
variable {l : Launch} {L : Nat} {I : Nat → Nat → Int32} {Q : Nat → Nat → Option Nat} {bd : Nat}
theorem FA.gi {I1 : Nat → Nat → Int32} {Q1 : Nat → Nat → Option Nat} (h : FA I I1 Q Q1) : (∀ p, (41 ≤ p ∧ p < 61 ∨ p = 62 ∨ p = 143 ∨ 148 ≤ p) → I1 p = I p) ∧ I1 0 = I 0 ∧ Q1 149 = Q 149 := ⟨fun p hp => h.1 p (by omega), h.1 0 (by omega), h.2 149 (by omega) (by omega)⟩
end K1

