/-! what holds between two calls -/
def SN (I : Nat → Nat → Int32) (τ : Nat → Nat → Nat) (bd : Nat) : Prop := (I 0 3 = 0 ∧ I 149 5 = 0) ∨ (I 0 3 = 1 ∧ I 149 5 = 1 ∧ TH I 41 (τ 41) (I 153) ∧ XW (I 153) bd)
def TXT (I : Nat → Nat → Int32) (ln : Nat) : Prop := I 0 6 = nI ln ∧ I 149 7 = nI ln ∧ ln ≤ 60 ∧ (∀ j, j < ln → I 143 j = I 154 j) ∧ ∀ j, vp_nar .char (I 143 j) = I 143 j
def GI (I : Nat → Nat → Int32) (Q : Nat → Nat → Option Nat) (bd : Nat) : Prop := ∃ (τ : Nat → Nat → Nat) (b : Nat → Nat) (a n m k ln : Nat), CT I Q τ b (I 150) (pw (I 152)) a n m k ∧ QM Q ∧ KonI I ∧ I 149 3 = nI a ∧ XW (I 150) bd ∧ (∀ i, i < a → XW (pw (I 152) i) bd) ∧ SN I τ bd ∧ TXT I ln ∧ I 0 8 = I 149 8 ∧ I 0 9 = I 149 9
theorem CT.cg {I : Nat → Nat → Int32} {Q : Nat → Nat → Option Nat} {τ : Nat → Nat → Nat} {b : Nat → Nat} {z z' : Nat → Int32} {w w' : Nat → Nat → Int32} {a n m k : Nat} (h : CT I Q τ b z w a n m k) (e : Eq228 z z') (ew : ∀ i, i < a → Eq228 (w i) (w' i)) : CT I Q τ b z' w' a n m k := by
  obtain ⟨h1, ⟨hC, hM, hL⟩, hA⟩ := h
  exact ⟨h1, ⟨hC.cg hM.n.2 hL.2.2.2.2.2.2.2 hM.2.2.2.2.1 e, hM.cg e, hL.cg e⟩, hA.1, hA.2.1, fun i hi => (hA.2.2 i hi).cg (ew i hi)⟩
theorem QM.fr {Q Q' : Nat → Nat → Option Nat} (h : QM Q) (e : Q' 149 = Q 149) : QM Q' := by
  unfold QM
  rw [e]
  exact h
theorem GI.act {I I2 : Nat → Nat → Int32} {Q Q2 : Nat → Nat → Option Nat} {τ τ' : Nat → Nat → Nat} {b' : Nat → Nat} {z' : Nat → Int32} {w' : Nat → Nat → Int32} {a' n' m' k' ln bd bd' : Nat} (hQA : QA Q τ) (hSN : SN I τ bd) (hTX : TXT I ln) (hST : I 0 8 = I 149 8 ∧ I 0 9 = I 149 9) (hK : KonI I) (hCT : CT I2 Q2 τ' b' z' w' a' n' m' k') (ez : Eq228 z' (I2 150)) (ew : ∀ i, i < a' → Eq228 (w' i) (pw (I2 152) i)) (hQM : QM Q2) (e3 : I2 149 3 = nI a') (hX : XW z' bd') (hXw : ∀ i, i < a' → XW (w' i) bd') (f0 : I2 0 = I 0) (f149 : ∀ j, j ≠ 3 → j ≠ 10 → j ≠ 11 → j ≠ 13 → j ≠ 14 → I2 149 j = I 149 j) (fr : ∀ p, (41 ≤ p ∧ p < 61 ∨ p = 143 ∨ p = 153 ∨ p = 154 ∨ 1000 ≤ p) → I2 p = I p) (hτ : τ' 41 = τ 41) (hb : bd ≤ bd') : GI I2 Q2 bd' := by
  refine ⟨τ', b', a', n', m', k', ln, hCT.cg ez ew, hQM, fun j hj => by rw [fr 1000 (by omega), fr 1001 (by omega)]; exact hK j hj, e3, hX.cg ez, fun i hi => (hXw i hi).cg (ew i hi), ?_, ?_, ?_, ?_⟩
  · unfold SN
    rw [f0, f149 5 (by omega) (by omega) (by omega) (by omega) (by omega), fr 153 (by omega), hτ]
    rcases hSN with h | ⟨h1, h2, h3, h4⟩
    · exact Or.inl h
    · exact Or.inr ⟨h1, h2, h3.fr (hQA 41 tb1.2.2).2.2.1 (fun p p1 p2 => fr p (by omega)), h4.mono hb⟩
  · unfold TXT
    rw [f0, f149 7 (by omega) (by omega) (by omega) (by omega) (by omega), fr 143 (by omega), fr 154 (by omega)]
    exact hTX
  · rw [f0, f149 8 (by omega) (by omega) (by omega) (by omega) (by omega)]; exact hST.1
  · rw [f0, f149 9 (by omega) (by omega) (by omega) (by omega) (by omega)]; exact hST.2
/-- one call on both sides -/
def STEP (l : Launch) (L idc idr : Nat) (As : List Value) (I : Nat → Nat → Int32) (Q : Nat → Nat → Option Nat) (bd : Nat) : Prop := Runs l idc (.ref 0 :: As) (SC L, I, Q) (fun v h => ∃ x I1 Q1, v = some (.int x) ∧ h = (SC L, I1, Q1) ∧ (∀ p, 1000 ≤ p → I1 p = I p) ∧ Runs l idr (.ref 149 :: As) (SC L, I1, Q1) (fun v' h' => ∃ I2 Q2, v' = some (.int x) ∧ h' = (SC L, I2, Q2) ∧ GI I2 Q2 (bd + 20) ∧ ∀ p, 1000 ≤ p → I2 p = I p))
theorem w_up {w : Nat → Nat → Int32} {a bd bd' : Nat} {z : Nat → Int32} (ha : a ≤ 4) (hw : ∀ i, i < a → XW (w i) bd) (hz : XW z bd) (hb : bd ≤ bd') : ∀ i, i < aSt a → XW (wSt w a z i) bd' := by
  intro i hi
  unfold aSt at hi
  unfold wSt
  by_cases g : a = 4
  · rw [if_pos g] at hi ⊢
    split
    · exact hz.mono hb
    · exact (hw _ (by omega)).mono hb
  · rw [if_neg g] at hi ⊢
    split
    · exact hz.mono hb
    · exact (hw _ (by omega)).mono hb
section K1
variable {l : Launch} {L : Nat} {I : Nat → Nat → Int32} {Q : Nat → Nat → Option Nat} {bd : Nat}
/-- an act that the class has refused: nothing but the spare town has changed -/
theorem GI.same {I1 : Nat → Nat → Int32} {τ : Nat → Nat → Nat} {b : Nat → Nat} {a n m k ln bd' : Nat} (hQM : QM Q) (hK : KonI I) (e3 : I 149 3 = nI a) (hX : XW (I 150) bd) (hXw : ∀ i, i < a → XW (pw (I 152) i) bd) (hSN : SN I τ bd) (hTX : TXT I ln) (hST : I 0 8 = I 149 8 ∧ I 0 9 = I 149 9) (hCT : CT I1 Q τ b (I 150) (pw (I 152)) a n m k) (hF : FA I I1 Q Q) {I2 : Nat → Nat → Int32} (hR : RQ I1 I2) (hb : bd ≤ bd') : GI I2 Q bd' := by
  obtain ⟨r1, r2, r3⟩ := hR
  have e149 : I1 149 = I 149 := hF.1 149 (by omega)
  have e150 : I1 150 = I 150 := hF.1 150 (by omega)
  have e152 : I2 152 = I 152 := (r3 152 (by omega)).trans (hF.1 152 (by omega))
  rw [e150] at r1
  have hQA := hCT.1.1
  have hC2 : CT I2 Q τ b (I 150) (pw (I 152)) a n m k := by
    obtain ⟨h1, ⟨hC, hM, hL⟩, hA⟩ := hCT
    exact ⟨h1, ⟨hC.fr (hQA _ tb1.1).2.2.1 hM.n.2 (fun p p1 p2 => r3 p (by omega)), hM, hL⟩, hA.fr hQA h1.2.1 (fun p p1 p2 => r3 p (by omega))⟩
  refine GI.act (bd' := bd') hQA hSN hTX hST hK hC2 r1 (fun i hi => by rw [e152]; exact Eq228.rf _) hQM ?_ (hX.mono hb) (fun i hi => (hXw i hi).mono hb) ?_ (fun j j3 j10 j11 j13 j14 => ?_) (fun p hp => ?_) rfl hb
  · rw [r2 3 (by omega) (by omega) (by omega) (by omega), e149]; exact e3
  · rw [r3 0 (by omega)]; exact hF.1 0 (by omega)
  · rw [r2 j j10 j11 j13 j14, e149]
  · rw [r3 p (by omega)]; exact hF.1 p (by omega)
/-- an act on both sides -/
theorem GI.done {I1 I2 : Nat → Nat → Int32} {Q1 : Nat → Nat → Option Nat} {τ τ' : Nat → Nat → Nat} {b' : Nat → Nat} {z' : Nat → Int32} {a n' m' k' ln bd' : Nat} (hQA : QA Q τ) (ha : a ≤ 4) (hQM : QM Q) (hK : KonI I) (hX : XW (I 150) bd) (hXw : ∀ i, i < a → XW (pw (I 152) i) bd) (hSN : SN I τ bd) (hTX : TXT I ln) (hST : I 0 8 = I 149 8 ∧ I 0 9 = I 149 9) (hCT : CT I1 Q1 τ' b' z' (wSt (pw (I 152)) a (I 150)) (aSt a) n' m' k') (hF : (∀ p, (41 ≤ p ∧ p < 61 ∨ p = 62 ∨ p = 143 ∨ 148 ≤ p) → I1 p = I p) ∧ I1 0 = I 0 ∧ Q1 149 = Q 149) (hR : RCW I1 I2 a) (hz : Eq228 z' (I2 150)) (hX' : XW z' bd') (hb : bd ≤ bd') (hτ : τ' 41 = τ 41) : GI I2 Q1 bd' := by
  obtain ⟨r1, r2, r3, r4⟩ := hR
  have e149 : I1 149 = I 149 := hF.1 149 (by omega)
  rw [hF.1 150 (by omega), hF.1 152 (by omega)] at r1
  have hQA1 := hCT.1.1
  have hC2 : CT I2 Q1 τ' b' z' (wSt (pw (I 152)) a (I 150)) (aSt a) n' m' k' := by
    obtain ⟨h1, ⟨hC, hM, hL⟩, hA⟩ := hCT
    exact ⟨h1, ⟨hC.fr (hQA1 _ tb1.1).2.2.1 hM.n.2 (fun p p1 p2 => r4 p (by omega)), hM, hL⟩, hA.fr hQA1 h1.2.1 (fun p p1 p2 => r4 p (by omega))⟩
  refine GI.act (bd' := bd') hQA hSN hTX hST hK hC2 hz r1 (hQM.fr hF.2.2) r3 hX' (w_up ha hXw hX hb) ?_ (fun j j3 j10 j11 j13 j14 => ?_) (fun p hp => ?_) hτ hb
  · rw [r4 0 (by omega)]; exact hF.2.1
  · rw [r2 j j3 j10 j11 j13 j14, e149]
  · rw [r4 p (by omega)]; exact hF.1 p (by omega)
theorem FA.gi {I1 : Nat → Nat → Int32} {Q1 : Nat → Nat → Option Nat} (h : FA I I1 Q Q1) : (∀ p, (41 ≤ p ∧ p < 61 ∨ p = 62 ∨ p = 143 ∨ 148 ≤ p) → I1 p = I p) ∧ I1 0 = I 0 ∧ Q1 149 = Q 149 := ⟨fun p hp => h.1 p (by omega), h.1 0 (by omega), h.2 149 (by omega) (by omega)⟩
end K1
