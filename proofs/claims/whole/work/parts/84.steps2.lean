/-! one call on both sides: what is told, the text, the past -/
theorem tRN_20 (c : Nat → Int32) {ln : Nat} (hz : ∀ t, ln ≤ t → c t = 0) : ∀ f j s, s ≤ ln → 3 * j ≤ s → (tRN c ln f j s).1 = none → 3 * (tRN c ln f j s).2 ≤ ln + 1 := by
  intro f
  induction f with
  | zero => intro j s _ _ h; cases h
  | succ f ih =>
    intro j s hs hj h
    have ob := ordN_b c s
    simp only [tRN] at h ⊢
    by_cases g1 : (ordN c s).1 = false
    · rw [if_pos g1] at h; cases h
    · rw [if_neg g1] at h ⊢
      have g1' : (ordN c s).1 = true := by simpa using g1
      have hl := ordN_last c s g1'
      have hle : ¬ ln ≤ (ordN c s).2.1 - 1 := fun q => by
        rw [hz _ q] at hl
        exact absurd hl.1 (by decide)
      have ob3 := ob.2.2 g1'
      by_cases g2 : ln ≤ (ordN c s).2.1
      · rw [if_pos g2]
        dsimp only
        omega
      · rw [if_neg g2] at h ⊢
        by_cases g3 : c (ordN c s).2.1 = 59
        · rw [if_pos g3] at h ⊢
          exact ih (j + 1) _ (by omega) (by omega) h
        · rw [if_neg g3] at h; cases h
section K3
variable {l : Launch} {L : Nat} {I : Nat → Nat → Int32} {Q : Nat → Nat → Option Nat} {bd : Nat}
theorem GI.mono (h : GI I Q bd) {bd' : Nat} (hb : bd ≤ bd') : GI I Q bd' := by
  obtain ⟨τ, b, a, n, m, k, ln, hCT, hQM, hK, e3, hX, hXw, hSN, hTX, hST⟩ := h
  refine ⟨τ, b, a, n, m, k, ln, hCT, hQM, hK, e3, hX.mono hb, fun i hi => (hXw i hi).mono hb, ?_, hTX, hST⟩
  rcases hSN with h | ⟨h1, h2, h3, h4⟩
  · exact Or.inl h
  · exact Or.inr ⟨h1, h2, h3, h4.mono hb⟩
theorem s_taxi (h : GI I Q bd) (p v : Int32) : STEP l L 70 140 [.int p, .int v] I Q bd := by
  obtain ⟨τ, b, a, n, m, k, ln, hCT, hQM, hK, e3, hX, hXw, hSN, hTX, hST⟩ := id h
  obtain ⟨⟨hQA, hH, hZ⟩, ⟨hC, hM, hL⟩, hA⟩ := id hCT
  exact m_taxi hCT p v ⟨_, I, Q, rfl, rfl, fun _ _ => rfl, r_taxi hQM hM hL p v ⟨I, Q, rfl, rfl, h.mono (by omega), fun _ _ => rfl⟩⟩
theorem s_line (h : GI I Q bd) (r : Int32) : STEP l L 71 141 [.int r] I Q bd := by
  obtain ⟨τ, b, a, n, m, k, ln, hCT, hQM, hK, e3, hX, hXw, hSN, hTX, hST⟩ := id h
  obtain ⟨⟨hQA, hH, hZ⟩, ⟨hC, hM, hL⟩, hA⟩ := id hCT
  exact m_line hCT r ⟨_, I, Q, rfl, rfl, fun _ _ => rfl, r_line hQM hL r ⟨I, Q, rfl, rfl, h.mono (by omega), fun _ _ => rfl⟩⟩
theorem s_plate (h : GI I Q bd) (r : Int32) : STEP l L 72 142 [.int r] I Q bd := by
  obtain ⟨τ, b, a, n, m, k, ln, hCT, hQM, hK, e3, hX, hXw, hSN, hTX, hST⟩ := id h
  obtain ⟨⟨hQA, hH, hZ⟩, ⟨hC, hM, hL⟩, hA⟩ := id hCT
  exact m_plate hCT r ⟨_, I, Q, rfl, rfl, fun _ _ => rfl, r_plate hQM hL r ⟨I, Q, rfl, rfl, h.mono (by omega), fun _ _ => rfl⟩⟩
theorem s_waiting (h : GI I Q bd) (r v : Int32) : STEP l L 73 143 [.int r, .int v] I Q bd := by
  obtain ⟨τ, b, a, n, m, k, ln, hCT, hQM, hK, e3, hX, hXw, hSN, hTX, hST⟩ := id h
  obtain ⟨⟨hQA, hH, hZ⟩, ⟨hC, hM, hL⟩, hA⟩ := id hCT
  exact m_waiting hCT r v ⟨_, I, Q, rfl, rfl, fun _ _ => rfl, r_waiting hQM hM r v ⟨I, Q, rfl, rfl, h.mono (by omega), fun _ _ => rfl⟩⟩
theorem s_rides (h : GI I Q bd) (to : Int32) : STEP l L 74 144 [.int to] I Q bd := by
  obtain ⟨τ, b, a, n, m, k, ln, hCT, hQM, hK, e3, hX, hXw, hSN, hTX, hST⟩ := id h
  obtain ⟨⟨hQA, hH, hZ⟩, ⟨hC, hM, hL⟩, hA⟩ := id hCT
  exact m_rides hCT to ⟨_, I, Q, rfl, rfl, fun _ _ => rfl, r_rides hQM hL to ⟨I, Q, rfl, rfl, h.mono (by omega), fun _ _ => rfl⟩⟩
theorem s_ifCalled (h : GI I Q bd) (f to v : Int32) : STEP l L 75 145 [.int f, .int to, .int v] I Q bd := by
  obtain ⟨τ, b, a, n, m, k, ln, hCT, hQM, hK, e3, hX, hXw, hSN, hTX, hST⟩ := id h
  obtain ⟨⟨hQA, hH, hZ⟩, ⟨hC, hM, hL⟩, hA⟩ := id hCT
  exact m_ifCalled hCT f to v ⟨_, I, Q, rfl, rfl, fun _ _ => rfl, r_ifCalled hQM hL f to v ⟨I, Q, rfl, rfl, h.mono (by omega), fun _ _ => rfl⟩⟩
theorem s_reason (h : GI I Q bd) (p to : Int32) : STEP l L 76 146 [.int p, .int to] I Q bd := by
  obtain ⟨τ, b, a, n, m, k, ln, hCT, hQM, hK, e3, hX, hXw, hSN, hTX, hST⟩ := id h
  obtain ⟨⟨hQA, hH, hZ⟩, ⟨hC, hM, hL⟩, hA⟩ := id hCT
  exact m_reason hCT p to ⟨_, I, Q, rfl, rfl, fun _ _ => rfl, r_reason hQM hM hL p to ⟨I, Q, rfl, rfl, h.mono (by omega), fun _ _ => rfl⟩⟩
theorem s_shares (h : GI I Q bd) (v : Int32) : STEP l L 79 149 [.int v] I Q bd := by
  obtain ⟨τ, b, a, n, m, k, ln, hCT, hQM, hK, e3, hX, hXw, hSN, hTX, hST⟩ := id h
  obtain ⟨⟨hQA, hH, hZ⟩, ⟨hC, hM, hL⟩, hA⟩ := id hCT
  exact m_shares hCT v ⟨_, I, Q, rfl, rfl, fun _ _ => rfl, r_shares hQM hL v ⟨I, Q, rfl, rfl, h.mono (by omega), fun _ _ => rfl⟩⟩
theorem s_count (h : GI I Q bd) (v : Int32) : STEP l L 80 150 [.int v] I Q bd := by
  obtain ⟨τ, b, a, n, m, k, ln, hCT, hQM, hK, e3, hX, hXw, hSN, hTX, hST⟩ := id h
  obtain ⟨⟨hQA, hH, hZ⟩, ⟨hC, hM, hL⟩, hA⟩ := id hCT
  exact m_count hCT hTX.1 v ⟨_, I, Q, rfl, rfl, fun _ _ => rfl, r_count hQM hM hL e3 hTX.2.1 v ⟨I, Q, rfl, rfl, h.mono (by omega), fun _ _ => rfl⟩⟩
theorem s_stopped (h : GI I Q bd) (v : Int32) : STEP l L 66 139 [.int v] I Q bd := by
  obtain ⟨τ, b, a, n, m, k, ln, hCT, hQM, hK, e3, hX, hXw, hSN, hTX, hST⟩ := id h
  refine m_stopped v ⟨_, I, Q, rfl, rfl, fun _ _ => rfl, r_stopped hQM v ⟨I, Q, ?_, rfl, h.mono (by omega), fun _ _ => rfl⟩⟩
  rw [hST.1, hST.2]
theorem s_ridesIn (h : GI I Q bd) (x : Int32) : STEP l L 77 147 [.int x] I Q bd := by
  obtain ⟨τ, b, a, n, m, k, ln, hCT, hQM, hK, e3, hX, hXw, hSN, hTX, hST⟩ := h
  obtain ⟨⟨hQA, hH, hZ⟩, ⟨hC, hM, hL⟩, hA⟩ := id hCT
  refine m_ridesIn hCT x (fun I1 hc hF => ⟨_, I1, Q, rfl, rfl, fun p hp => hF.1 p (by omega), ?_⟩)
  have e150 : I1 150 = I 150 := hF.1 150 (by omega)
  obtain ⟨n0, k0', cc, hM0, hE0, hcc⟩ := hX.1
  have ek : k0' = k := (nI_eq (by have := hM0.2.2.2.2.1; omega) (by have := hM.2.2.2.2.1; omega)).mp (hM0.2.2.2.1.symm.trans hM.2.2.2.1)
  subst ek
  refine r_ridesIn (n := n0) (k := k0') (c := cc) hQM (by rw [e150]; exact hM0) (by rw [e150]; exact hE0) hcc x (fun g => ?_) (fun r hr er I2 hR => ?_)
  · refine ⟨I1, Q, ?_, rfl, GI.same hQM hK e3 hX hXw hSN hTX hST hc hF (RQ.rf I1) (by omega), fun p hp => hF.1 p (by omega)⟩
    unfold ansUn
    rw [if_neg g]
  · refine ⟨I2, Q, ?_, rfl, GI.same hQM hK e3 hX hXw hSN hTX hST hc hF hR (by omega), fun p hp => (hR.2.2 p (by omega)).trans (hF.1 p (by omega))⟩
    have hk := hM.2.2.2.2.1
    unfold ansUn
    rw [e150, er, if_pos ⟨nI_pos' (by omega), nI_lt hr (by omega)⟩, ix_nI (by omega)]
theorem s_inLineIn (h : GI I Q bd) (p : Int32) : STEP l L 78 148 [.int p] I Q bd := by
  obtain ⟨τ, b, a, n, m, k, ln, hCT, hQM, hK, e3, hX, hXw, hSN, hTX, hST⟩ := h
  obtain ⟨⟨hQA, hH, hZ⟩, ⟨hC, hM, hL⟩, hA⟩ := id hCT
  refine m_inLineIn hCT p (fun I1 hc hF => ⟨_, I1, Q, rfl, rfl, fun p hp => hF.1 p (by omega), ?_⟩)
  have e150 : I1 150 = I 150 := hF.1 150 (by omega)
  refine r_inLineIn (n := n) (m := m) (k := k) hQM (by rw [e150]; exact hM) (by rw [e150]; exact hL) p (fun g => ?_) (fun i hf hi I2 hR => ?_)
  · rw [e150] at g
    refine ⟨I1, Q, ?_, rfl, GI.same hQM hK e3 hX hXw hSN hTX hST hc hF (RQ.rf I1) (by omega), fun p hp => hF.1 p (by omega)⟩
    unfold ansIn
    rw [g]
  · rw [e150] at hf
    refine ⟨I2, Q, ?_, rfl, GI.same hQM hK e3 hX hXw hSN hTX hST hc hF hR (by omega), fun p hp => (hR.2.2 p (by omega)).trans (hF.1 p (by omega))⟩
    unfold ansIn
    rw [hf, e150]
/-- a call that changes the text alone -/
theorem GI.text {I2 : Nat → Nat → Int32} {ln' : Nat} (h : GI I Q bd) (h0 : ∀ j, j ≠ 6 → I2 0 j = I 0 j) (h149 : ∀ j, j ≠ 7 → I2 149 j = I 149 j) (fr : ∀ p, p ≠ 0 → p ≠ 149 → p ≠ 143 → p ≠ 154 → I2 p = I p) (hT : TXT I2 ln') : GI I2 Q (bd + 20) := by
  obtain ⟨τ, b, a, n, m, k, ln, hCT, hQM, hK, e3, hX, hXw, hSN, hTX, hST⟩ := h
  obtain ⟨⟨hQA, hH, hZ⟩, ⟨hC, hM, hL⟩, hA⟩ := hCT
  have e150 : I2 150 = I 150 := fr 150 (by omega) (by omega) (by omega) (by omega)
  have e152 : I2 152 = I 152 := fr 152 (by omega) (by omega) (by omega) (by omega)
  refine ⟨τ, b, a, n, m, k, ln', ?_, hQM, fun j hj => by rw [fr 1000 (by omega) (by omega) (by omega) (by omega), fr 1001 (by omega) (by omega) (by omega) (by omega)]; exact hK j hj, by rw [h149 3 (by omega)]; exact e3, by rw [e150]; exact hX.mono (by omega), fun i hi => by rw [e152]; exact (hXw i hi).mono (by omega), ?_, hT, by rw [h0 8 (by omega), h149 8 (by omega)]; exact hST.1, by rw [h0 9 (by omega), h149 9 (by omega)]; exact hST.2⟩
  · rw [e150, e152]
    exact ⟨⟨hQA, hH, hZ⟩, ⟨hC.fr (hQA _ tb1.1).2.2.1 hM.n.2 (fun p p1 p2 => fr p (by omega) (by omega) (by omega) (by omega)), hM, hL⟩, hA.fr hQA hH (fun p p1 p2 => fr p (by omega) (by omega) (by omega) (by omega))⟩
  · unfold SN
    rw [h0 3 (by omega), h149 5 (by omega), fr 153 (by omega) (by omega) (by omega) (by omega)]
    rcases hSN with h | ⟨h1, h2, h3, h4⟩
    · exact Or.inl h
    · exact Or.inr ⟨h1, h2, h3.fr (hQA 41 tb1.2.2).2.2.1 (fun p p1 p2 => fr p (by omega) (by omega) (by omega) (by omega)), h4.mono (by omega)⟩
theorem s_type (h : GI I Q bd) {c : Int32} (hc : vp_nar .char c = c) : STEP l L 63 129 [.int c] I Q bd := by
  obtain ⟨τ, b, a, n, m, k, ln, hCT, hQM, hK, e3, hX, hXw, hSN, hTX, hST⟩ := id h
  obtain ⟨t1, t2, t3, t4, t5⟩ := id hTX
  refine m_type hCT.1.2.2 t1 t3 hc (fun g => ⟨_, I, Q, rfl, rfl, fun _ _ => rfl, ?_⟩) (fun g => ⟨_, _, Q, rfl, rfl, fun p hp => by rw [uR_n _ _ (by omega), uR_n _ _ (by omega)], ?_⟩)
  · exact r_type hQM t2 t3 c (fun _ => ⟨I, Q, rfl, rfl, h.mono (by omega), fun _ _ => rfl⟩) (fun g2 => absurd g2 (by omega))
  · have e149 : uR (uR I 143 (upd (I 143) ln c)) 0 (upd (I 0) 6 (nI (ln + 1))) 149 = I 149 := by rw [uR_n _ _ (by omega), uR_n _ _ (by omega)]
    have e154 : uR (uR I 143 (upd (I 143) ln c)) 0 (upd (I 0) 6 (nI (ln + 1))) 154 = I 154 := by rw [uR_n _ _ (by omega), uR_n _ _ (by omega)]
    refine r_type hQM (by rw [e149]; exact t2) t3 c (fun g2 => absurd g2 (by omega)) (fun _ => ?_)
    rw [e149, e154]
    refine ⟨_, Q, rfl, rfl, GI.text (ln' := ln + 1) h (fun j hj => ?_) (fun j hj => ?_) (fun p p0 p1 p2 p3 => ?_) ⟨?_, ?_, by omega, fun j hj => ?_, fun j => ?_⟩, fun p hp => ?_⟩
    · rw [uR_n _ _ (by omega), uR_n _ _ (by omega), uR_s, upd_n _ _ hj]
    · rw [uR_s, upd_n _ _ hj]
    · rw [uR_n _ _ p1, uR_n _ _ p3, uR_n _ _ p0, uR_n _ _ p2]
    · rw [uR_n _ _ (by omega), uR_n _ _ (by omega), uR_s, upd_e]
    · rw [uR_s, upd_e]
    · rw [uR_n _ _ (by omega), uR_n _ _ (by omega), uR_n _ _ (by omega), uR_s, uR_n _ _ (by omega), uR_s]
      by_cases q : j = ln
      · subst q; rw [upd_e, upd_e]
      · rw [upd_n _ _ q, upd_n _ _ q]; exact t4 j (by omega)
    · rw [uR_n _ _ (by omega), uR_n _ _ (by omega), uR_n _ _ (by omega), uR_s]
      by_cases q : j = ln
      · subst q; rw [upd_e]; exact hc
      · rw [upd_n _ _ q]; exact t5 j
    · rw [uR_n _ _ (by omega), uR_n _ _ (by omega), uR_n _ _ (by omega), uR_n _ _ (by omega)]
theorem s_clear (h : GI I Q bd) : STEP l L 64 130 [] I Q bd := by
  obtain ⟨τ, b, a, n, m, k, ln, hCT, hQM, hK, e3, hX, hXw, hSN, hTX, hST⟩ := id h
  obtain ⟨t1, t2, t3, t4, t5⟩ := id hTX
  refine m_clear t1 ⟨_, _, Q, rfl, rfl, fun p hp => uR_n _ _ (by omega), ?_⟩
  have e149 : uR I 0 (upd (I 0) 6 0) 149 = I 149 := uR_n _ _ (by omega)
  refine r_clear (by rw [e149]; exact t2) ?_
  rw [e149]
  refine ⟨_, Q, rfl, rfl, GI.text (ln' := 0) h (fun j hj => ?_) (fun j hj => ?_) (fun p p0 p1 p2 p3 => ?_) ⟨?_, ?_, by omega, fun j hj => absurd hj (by omega), fun j => ?_⟩, fun p hp => ?_⟩
  · rw [uR_n _ _ (by omega), uR_s, upd_n _ _ hj]
  · rw [uR_s, upd_n _ _ hj]
  · rw [uR_n _ _ p1, uR_n _ _ p0]
  · rw [uR_n _ _ (by omega), uR_s, upd_e]; rfl
  · rw [uR_s, upd_e]; rfl
  · rw [uR_n _ _ (by omega), uR_n _ _ (by omega)]; exact t5 j
  · rw [uR_n _ _ (by omega), uR_n _ _ (by omega)]
theorem s_undo (h : GI I Q bd) : STEP l L 67 93 [] I Q bd := by
  obtain ⟨τ, b, a, n, m, k, ln, hCT, hQM, hK, e3, hX, hXw, hSN, hTX, hST⟩ := id h
  obtain ⟨⟨hQA, hH, hZ⟩, ⟨hC, hM, hL⟩, hA⟩ := id hCT
  have ha := hA.2.1
  refine m_undo hCT (fun g => ⟨_, I, Q, rfl, rfl, fun _ _ => rfl, ?_⟩) (fun a' g I1 n1 m1 k1 hc hF => ⟨_, I1, Q, rfl, rfl, fun p hp => hF.1 p (by omega), ?_⟩)
  · exact r_undo hQM ha e3 (fun _ => ⟨I, Q, rfl, rfl, h.mono (by omega), fun _ _ => rfl⟩) (fun b' g2 => absurd g2 (by omega))
  · have e149 : I1 149 = I 149 := hF.1 149 (by omega)
    have e152 : I1 152 = I 152 := hF.1 152 (by omega)
    refine r_undo hQM ha (by rw [e149]; exact e3) (fun g2 => absurd g2 (by omega)) (fun b' g2 => ?_)
    have eb : b' = a' := by omega
    subst eb
    rw [e149, e152]
    have fr : ∀ p, p ≠ 149 → p ≠ 150 → uR (uR I1 149 (upd (I 149) 3 (nI b'))) 150 (va_cpy (I 152) (I1 150) (228 * b') 0 228) p = I1 p := fun p p1 p2 => by rw [uR_n _ _ p2, uR_n _ _ p1]
    have hc2 : CT (uR (uR I1 149 (upd (I 149) 3 (nI b'))) 150 (va_cpy (I 152) (I1 150) (228 * b') 0 228)) Q τ b (pw (I 152) b') (pw (I 152)) b' n1 m1 k1 := by
      obtain ⟨h1, ⟨hC, hM, hL⟩, hA⟩ := hc
      exact ⟨h1, ⟨hC.fr (hQA _ tb1.1).2.2.1 hM.n.2 (fun p p1 p2 => fr p (by omega) (by omega)), hM, hL⟩, hA.fr hQA hH (fun p p1 p2 => fr p (by omega) (by omega))⟩
    refine ⟨_, Q, rfl, rfl, GI.act (bd' := bd + 20) hQA hSN hTX hST hK hc2 ?_ (fun i hi => ?_) hQM ?_ ((hXw b' (by omega)).mono (by omega)) (fun i hi => (hXw i (by omega)).mono (by omega)) ?_ (fun j j3 j10 j11 j13 j14 => ?_) (fun p hp => ?_) rfl (by omega), fun p hp => ?_⟩
    · rw [uR_s]; exact cpy_to (I 152) (I1 150) (228 * b')
    · rw [fr 152 (by omega) (by omega), e152]; exact Eq228.rf _
    · rw [uR_n _ _ (by omega), uR_s, upd_e]
    · rw [fr 0 (by omega) (by omega)]; exact hF.1 0 (by omega)
    · rw [uR_n _ _ (by omega), uR_s, upd_n _ _ j3]
    · rw [fr p (by omega) (by omega)]; exact hF.1 p (by omega)
    · rw [fr p (by omega) (by omega)]; exact hF.1 p (by omega)
theorem s_keep (h : GI I Q bd) : STEP l L 68 94 [] I Q bd := by
  obtain ⟨τ, b, a, n, m, k, ln, hCT, hQM, hK, e3, hX, hXw, hSN, hTX, hST⟩ := id h
  obtain ⟨⟨hQA, hH, hZ⟩, ⟨hC, hM, hL⟩, hA⟩ := id hCT
  refine m_keep hCT (fun I1 hc hca h0 hF => ⟨_, I1, Q, rfl, rfl, fun p hp => hF p (by omega), ?_⟩)
  have e149 : I1 149 = I 149 := hF 149 (by omega)
  have e150 : I1 150 = I 150 := hF 150 (by omega)
  refine r_keep hQM ?_
  rw [e149, e150]
  have fr : ∀ p, p ≠ 149 → p ≠ 153 → uR (uR I1 153 (va_cpy (I 150) (I1 153) 0 0 228)) 149 (upd (I 149) 5 1) p = I1 p := fun p p1 p2 => by rw [uR_n _ _ p1, uR_n _ _ p2]
  have f0 : ∀ j, j ≠ 3 → uR (uR I1 153 (va_cpy (I 150) (I1 153) 0 0 228)) 149 (upd (I 149) 5 1) 0 j = I 0 j := fun j hj => by rw [fr 0 (by omega) (by omega), h0, upd_n _ _ hj]
  have f149 : ∀ j, j ≠ 5 → uR (uR I1 153 (va_cpy (I 150) (I1 153) 0 0 228)) 149 (upd (I 149) 5 1) 149 j = I 149 j := fun j hj => by rw [uR_s, upd_n _ _ hj]
  have f153 : uR (uR I1 153 (va_cpy (I 150) (I1 153) 0 0 228)) 149 (upd (I 149) 5 1) 153 = va_cpy (I 150) (I1 153) 0 0 228 := by rw [uR_n _ _ (by omega), uR_s]
  have eq : Eq228 (I 150) (va_cpy (I 150) (I1 153) 0 0 228) := fun q hq => by
    have := cpy_to (I 150) (I1 153) 0 q hq
    rw [this]
    simp only [Nat.zero_add]
  have hTH : TH I1 41 (τ 41) (I 150) := ⟨n, m, k, hca, hM, hL⟩
  obtain ⟨t1, t2, t3, t4, t5⟩ := hTX
  refine ⟨_, Q, rfl, rfl, ⟨τ, b, a, n, m, k, ln, ?_, hQM, fun j hj => ?_, ?_, ?_, fun i hi => ?_, Or.inr ⟨?_, ?_, ?_, ?_⟩, ⟨?_, ?_, t3, fun j hj => ?_, fun j => ?_⟩, ?_, ?_⟩, fun p hp => ?_⟩
  · rw [fr 150 (by omega) (by omega), fr 152 (by omega) (by omega), e150, hF 152 (by omega)]
    obtain ⟨h1, ⟨hC, hM, hL⟩, hA⟩ := hc
    exact ⟨h1, ⟨hC.fr (hQA _ tb1.1).2.2.1 hM.n.2 (fun p p1 p2 => fr p (by omega) (by omega)), hM, hL⟩, hA.fr hQA hH (fun p p1 p2 => fr p (by omega) (by omega))⟩
  · rw [fr 1000 (by omega) (by omega), fr 1001 (by omega) (by omega), hF 1000 (by omega), hF 1001 (by omega)]; exact hK j hj
  · rw [f149 3 (by omega)]; exact e3
  · rw [fr 150 (by omega) (by omega), e150]; exact hX.mono (by omega)
  · rw [fr 152 (by omega) (by omega), hF 152 (by omega)]; exact (hXw i hi).mono (by omega)
  · rw [fr 0 (by omega) (by omega), h0, upd_e]
  · rw [uR_s, upd_e]
  · rw [f153]
    exact (hTH.fr (hQA 41 tb1.2.2).2.2.1 (fun p p1 p2 => fr p (by omega) (by omega))).cg eq
  · rw [f153]; exact (hX.mono (by omega)).cg eq
  · rw [f0 6 (by omega)]; exact t1
  · rw [f149 7 (by omega)]; exact t2
  · rw [fr 143 (by omega) (by omega), fr 154 (by omega) (by omega), hF 143 (by omega), hF 154 (by omega)]; exact t4 j hj
  · rw [fr 143 (by omega) (by omega), hF 143 (by omega)]; exact t5 j
  · rw [f0 8 (by omega), f149 8 (by omega)]; exact hST.1
  · rw [f0 9 (by omega), f149 9 (by omega)]; exact hST.2
  · rw [fr p (by omega) (by omega)]; exact hF p (by omega)
theorem s_restore (h : GI I Q bd) : STEP l L 69 95 [] I Q bd := by
  obtain ⟨τ, b, a, n, m, k, ln, hCT, hQM, hK, e3, hX, hXw, hSN, hTX, hST⟩ := id h
  obtain ⟨⟨hQA, hH, hZ⟩, ⟨hC, hM, hL⟩, hA⟩ := id hCT
  have ha := hA.2.1
  rcases id hSN with ⟨s1, s2⟩ | ⟨s1, s2, s3, s4⟩
  · refine m_restore (zk := I 153) (n1 := 0) (m1 := 0) (k1 := 0) hCT (fun g => absurd s1 g) (fun g => ⟨_, I, Q, rfl, rfl, fun _ _ => rfl, ?_⟩) (fun g => absurd s1 g)
    exact r_restore hQM ha e3 (fun _ => ⟨I, Q, rfl, rfl, h.mono (by omega), fun _ _ => rfl⟩) (fun g2 => absurd s2 g2)
  · obtain ⟨n1, m1, k1, c1, c2, c3⟩ := s3
    obtain ⟨n2, k2, cc, d1, d2, d3⟩ := id s4.1
    have h5 : ¬ I 153 5 < 0 := by rw [d2.2.1]; exact nI_pos (by omega)
    have ne : I 0 3 ≠ 0 := by rw [s1]; decide
    refine m_restore (zk := I 153) hCT (fun _ => ⟨c1, c2, c3, h5⟩) (fun g => absurd g ne) (fun _ I1 Q1 b1 n' m' k' hc hF => ⟨_, I1, Q1, rfl, rfl, fun p hp => hF.1 p (by omega), ?_⟩)
    have f := hF.gi
    have e149 : I1 149 = I 149 := f.1 149 (by omega)
    have e150 : I1 150 = I 150 := f.1 150 (by omega)
    have e152 : I1 152 = I 152 := f.1 152 (by omega)
    have e153 : I1 153 = I 153 := f.1 153 (by omega)
    have hQM1 : QM Q1 := hQM.fr f.2.2
    refine r_restore hQM1 ha (by rw [e149]; exact e3) (fun g => absurd g (by rw [e149, s2]; decide)) (fun _ I2 g1 g2 g3 g4 => ?_)
    rw [e153]
    have hRC : RCW I1 I2 a := RCW.of ⟨g1, fun j j3 _ _ => by rw [g2, upd_n _ _ j3], by rw [g2, upd_e], fun p hp => g4 p (by omega) (by omega) (by omega)⟩ ha
    refine ⟨I2, Q1, rfl, rfl, GI.done hQA ha hQM hK hX hXw hSN hTX hST hc f hRC ?_ (s4.mono (by omega)) (by omega) rfl, fun p hp => (g4 p (by omega) (by omega) (by omega)).trans (f.1 p (by omega))⟩
    rw [g3, e153]
    intro q hq
    have := cpy_to (I 153) (I1 150) 0 q hq
    rw [this]
    simp only [Nat.zero_add]
set_option maxRecDepth 100000 in
theorem s_perform (h : GI I Q bd) (hbd : bd + 20 ≤ 1000000) : STEP l L 65 138 [] I Q bd := by
  obtain ⟨τ, b, a, n, m, k, ln, hCT, hQM, hK, e3, hX, hXw, hSN, hTX, hST⟩ := id h
  obtain ⟨⟨hQA, hH, hZ⟩, ⟨hC, hM, hL⟩, hA⟩ := id hCT
  have ha := hA.2.1
  obtain ⟨t1, t2, t3, t4, t5⟩ := id hTX
  have ec : chx (I 154) ln = chx (I 143) ln := by
    funext j
    unfold chx
    by_cases g : j < ln
    · rw [if_pos g, if_pos g]; exact (t4 j g).symm
    · rw [if_neg g, if_neg g]
  generalize hc : chx (I 143) ln = c at ec
  generalize hR : tRN c ln 21 0 0 = R
  have hN : R.1 = none → R.2 ≤ 20 := fun g => by
    have := tRN_20 c (ln := ln) (fun t ht => by rw [← hc]; exact chx_0 _ ht) 21 0 0 (by omega) (by omega) (by rw [hR]; exact g)
    rw [hR] at this
    omega
  have qm : ∀ {I1 Q1}, FP I I1 Q Q1 → QM Q1 := fun f => hQM.fr (f.2 149 (by omega) (by omega) (by omega))
  refine m_perform hCT hbd hX t1 t3 t5 hc hR (fun x hx I1 Q1 hc1 hF h0 => ⟨_, I1, Q1, rfl, rfl, fun p hp => hF.1 p (by omega), ?_⟩) (fun hr i e hp I1 Q1 hc1 hF h0 => ⟨_, I1, Q1, rfl, rfl, fun p hp => hF.1 p (by omega), ?_⟩) (fun hr hp I1 Q1 b1 n1 m1 k1 hc1 hF h0 => ⟨_, I1, Q1, rfl, rfl, fun p hp => hF.1 p (by omega), ?_⟩)
  · have e149 : I1 149 = I 149 := hF.1 149 (by omega)
    have e150 : I1 150 = I 150 := hF.1 150 (by omega)
    have e154 : I1 154 = I 154 := hF.1 154 (by omega)
    refine r_perform (qm hF) ha (by rw [e149]; exact e3) hbd (by rw [e150]; exact hX) (by rw [e149]; exact t2) t3 (by rw [e154]; exact ec) hR hN (fun x2 hx2 I2 hR2 => ?_) (fun hr => by rw [hr] at hx; cases hx) (fun hr => by rw [hr] at hx; cases hx)
    rw [hx] at hx2
    obtain ⟨r1, r2, r3⟩ := hR2
    rw [e150] at r1
    have hQA1 := hc1.1.1
    have hC2 : CT I2 Q1 τ b (I 150) (pw (I 152)) a n m k := by
      obtain ⟨h1, ⟨hC, hM, hL⟩, hA⟩ := hc1
      exact ⟨h1, ⟨hC.fr (hQA1 _ tb1.1).2.2.1 hM.n.2 (fun p p1 p2 => r3 p (by omega)), hM, hL⟩, hA.fr hQA1 h1.2.1 (fun p p1 p2 => r3 p (by omega))⟩
    refine ⟨I2, Q1, by rw [Option.some.inj hx2], rfl, GI.act (bd' := bd + 20) hQA hSN hTX hST hK hC2 r1 (fun i hi => by rw [r3 152 (by omega), hF.1 152 (by omega)]; exact Eq228.rf _) (qm hF) ?_ (hX.mono (by omega)) (fun i hi => (hXw i hi).mono (by omega)) ?_ (fun j j3 j10 j11 j13 j14 => ?_) (fun p hp => ?_) rfl (by omega), fun p hp => (r3 p (by omega)).trans (hF.1 p (by omega))⟩
    · rw [r2 3 (by omega) (by omega) (by omega) (by omega), e149]; exact e3
    · rw [r3 0 (by omega)]; exact h0
    · rw [r2 j j10 j11 j13 j14, e149]
    · rw [r3 p (by omega)]; exact hF.1 p (by omega)
  · have e149 : I1 149 = I 149 := hF.1 149 (by omega)
    have e150 : I1 150 = I 150 := hF.1 150 (by omega)
    have e154 : I1 154 = I 154 := hF.1 154 (by omega)
    refine r_perform (qm hF) ha (by rw [e149]; exact e3) hbd (by rw [e150]; exact hX) (by rw [e149]; exact t2) t3 (by rw [e154]; exact ec) hR hN (fun x2 hx2 => by rw [hr] at hx2; cases hx2) (fun _ i2 e2 hp2 I2 r1 r2 r8 r9 r3 => ?_) (fun _ hp2 => by rw [e150, hp] at hp2; cases hp2)
    rw [e150, hp] at hp2
    cases hp2
    rw [e150] at r1
    have hQA1 := hc1.1.1
    have fr : ∀ p, (p < 149 ∨ p = 152 ∨ p = 153 ∨ p = 154 ∨ 155 < p) → I2 p = I1 p := r3
    have f0 : ∀ j, j ≠ 8 → j ≠ 9 → I2 0 j = I 0 j := fun j j8 j9 => by rw [fr 0 (by omega), h0, upd_n _ _ j9, upd_n _ _ j8]
    have f149 : ∀ j, j ≠ 8 → j ≠ 9 → j ≠ 11 → j ≠ 13 → j ≠ 14 → I2 149 j = I 149 j := fun j j8 j9 j11 j13 j14 => by rw [r2 j j8 j9 j11 j13 j14, e149]
    refine ⟨I2, Q1, rfl, rfl, ⟨τ, b, a, n, m, k, ln, ?_, qm hF, fun j hj => ?_, ?_, ?_, fun i hi => ?_, ?_, ⟨?_, ?_, t3, fun j hj => ?_, fun j => ?_⟩, ?_, ?_⟩, fun p hp => (r3 p (by omega)).trans (hF.1 p (by omega))⟩
    · have e152 : I2 152 = I 152 := (r3 152 (by omega)).trans (hF.1 152 (by omega))
      rw [e152]
      refine CT.cg (z := I 150) (w := pw (I 152)) ?_ r1 (fun i hi => Eq228.rf _)
      obtain ⟨h1, ⟨hC, hM, hL⟩, hA⟩ := hc1
      exact ⟨h1, ⟨hC.fr (hQA1 _ tb1.1).2.2.1 hM.n.2 (fun p p1 p2 => r3 p (by omega)), hM, hL⟩, hA.fr hQA1 h1.2.1 (fun p p1 p2 => r3 p (by omega))⟩
    · rw [fr 1000 (by omega), fr 1001 (by omega), hF.1 1000 (by omega), hF.1 1001 (by omega)]; exact hK j hj
    · rw [f149 3 (by omega) (by omega) (by omega) (by omega) (by omega)]; exact e3
    · exact (hX.mono (by omega)).cg r1
    · rw [r3 152 (by omega), hF.1 152 (by omega)]; exact (hXw i hi).mono (by omega)
    · unfold SN
      rw [f0 3 (by omega) (by omega), f149 5 (by omega) (by omega) (by omega) (by omega) (by omega), fr 153 (by omega), hF.1 153 (by omega)]
      rcases hSN with h | ⟨h1, h2, h3, h4⟩
      · exact Or.inl h
      · exact Or.inr ⟨h1, h2, h3.fr (hQA 41 tb1.2.2).2.2.1 (fun p p1 p2 => (fr p (by omega)).trans (hF.1 p (by omega))), h4.mono (by omega)⟩
    · rw [f0 6 (by omega) (by omega)]; exact t1
    · rw [f149 7 (by omega) (by omega) (by omega) (by omega) (by omega)]; exact t2
    · rw [fr 143 (by omega), fr 154 (by omega), hF.1 143 (by omega), e154]; exact t4 j hj
    · rw [fr 143 (by omega), hF.1 143 (by omega)]; exact t5 j
    · rw [r8, fr 0 (by omega), h0, upd_n _ _ (by omega), upd_e]
    · rw [r9, fr 0 (by omega), h0, upd_e]
  · have e149 : I1 149 = I 149 := hF.1 149 (by omega)
    have e150 : I1 150 = I 150 := hF.1 150 (by omega)
    have e154 : I1 154 = I 154 := hF.1 154 (by omega)
    refine r_perform (qm hF) ha (by rw [e149]; exact e3) hbd (by rw [e150]; exact hX) (by rw [e149]; exact t2) t3 (by rw [e154]; exact ec) hR hN (fun x2 hx2 => by rw [hr] at hx2; cases hx2) (fun _ i2 e2 hp2 => by rw [e150, hp] at hp2; cases hp2) (fun _ hp2 I2 hRC hz => ?_)
    have f : (∀ p, (41 ≤ p ∧ p < 61 ∨ p = 62 ∨ p = 143 ∨ 148 ≤ p) → I1 p = I p) ∧ I1 0 = I 0 ∧ Q1 149 = Q 149 := ⟨hF.1, h0, hF.2 149 (by omega) (by omega) (by omega)⟩
    refine ⟨I2, Q1, rfl, rfl, GI.done hQA ha hQM hK hX hXw hSN hTX hST hc1 f hRC (by rw [hz, e150]; exact Eq228.rf _) ((prO_x c R.2 0 (I 150) bd hX (by have := hN hr; omega)).mono (by have := hN hr; omega)) (by omega) rfl, fun p hp => (hRC.2.2.2 p (by omega)).trans (f.1 p (by omega))⟩
end K3
