/-! one call on both sides: acts -/
section K2
variable {l : Launch} {L : Nat} {I : Nat → Nat → Int32} {Q : Nat → Nat → Option Nat} {bd : Nat}
set_option maxRecDepth 100000 in
theorem s_come (h : GI I Q bd) (hbd : bd + 20 ≤ 1000000) (p : Int32) : STEP l L 57 114 [.int p] I Q bd := by
  obtain ⟨τ, b, a, n, m, k, ln, hCT, hQM, hK, e3, hX, hXw, hSN, hTX, hST⟩ := h
  obtain ⟨⟨hQA, hH, hZ⟩, ⟨hC, hM, hL⟩, hA⟩ := id hCT
  have ha := hA.2.1
  have hpv : PV (I 150) n := by have := hX.2; rw [hM.ixn] at this; exact this
  have rf : ∀ I1, CT I1 Q τ b (I 150) (pw (I 152)) a n m k → FA I I1 Q Q → whyW (I 150) n p < 0 → ∃ rr I1' Q1, some (Value.int (whyW (I 150) n p)) = some (.int rr) ∧ (SC L, I1, Q) = (SC L, I1', Q1) ∧ (∀ p, 1000 ≤ p → I1' p = I p) ∧ Runs l 114 [.ref 149, .int p] (SC L, I1', Q1) (fun v' h' => ∃ I2 Q2, v' = some (.int rr) ∧ h' = (SC L, I2, Q2) ∧ GI I2 Q2 (bd + 20) ∧ ∀ p, 1000 ≤ p → I2 p = I p) := fun I1 hc hF hw => by
    have e149 : I1 149 = I 149 := hF.1 149 (by omega)
    have e150 : I1 150 = I 150 := hF.1 150 (by omega)
    refine ⟨_, I1, Q, rfl, rfl, fun p hp => hF.1 p (by omega), ?_⟩
    refine r_come (n := n) (m := m) (k := k) hQM ha (by rw [e149]; exact e3) (by rw [e150]; exact hM) (by rw [e150]; exact hL) p (fun hw' => ?_) (fun hw' I2 hRC hz => ?_)
    · exact ⟨I1, Q, by rw [e150], rfl, GI.same hQM hK e3 hX hXw hSN hTX hST hc hF (RQ.rf I1) (by omega), fun p hp => hF.1 p (by omega)⟩
    · rw [e150] at hw'
      rw [hw'] at hw
      exact absurd hw (by decide)
  refine m_come hCT p (fun hw I1 hc hF => rf I1 hc hF hw) (fun hw I1 Q1 τ1 b1 n1 m1 k1 hc hF hτ => ?_)
  have fg := hF.gi
  have e149 : I1 149 = I 149 := fg.1 149 (by omega)
  have e150 : I1 150 = I 150 := fg.1 150 (by omega)
  have hQM1 : QM Q1 := hQM.fr fg.2.2
  refine ⟨_, I1, Q1, rfl, rfl, fun p hp => fg.1 p (by omega), ?_⟩
  refine r_come (n := n) (m := m) (k := k) hQM1 ha (by rw [e149]; exact e3) (by rw [e150]; exact hM) (by rw [e150]; exact hL) p (fun hw' => ?_) (fun hw' I2 hRC hz => ?_)
  · rw [e150] at hw'
    rw [hw] at hw'
    exact absurd hw' (by decide)
  · refine ⟨I2, Q1, ?_, rfl, GI.done hQA ha hQM hK hX hXw hSN hTX hST hc fg (RCW.of hRC ha) ?_ ⟨(hX.1.wel hL hw).mono (by omega), by rw [(wel_ok hM hL hw).1.ixn]; exact PV.wel hpv hL hw⟩ (by omega) (hτ 41 (by omega)), fun p hp => (hRC.2.2.2 p (by omega)).trans (fg.1 p (by omega))⟩
    · rfl
    · rw [hz, e150]; exact Eq228.rf _
set_option maxRecDepth 100000 in
theorem s_goHome (h : GI I Q bd) (hbd : bd + 20 ≤ 1000000) (p : Int32) : STEP l L 58 115 [.int p] I Q bd := by
  obtain ⟨τ, b, a, n, m, k, ln, hCT, hQM, hK, e3, hX, hXw, hSN, hTX, hST⟩ := h
  obtain ⟨⟨hQA, hH, hZ⟩, ⟨hC, hM, hL⟩, hA⟩ := id hCT
  have ha := hA.2.1
  have hpv : PV (I 150) n := by have := hX.2; rw [hM.ixn] at this; exact this
  have rf : ∀ I1, CT I1 Q τ b (I 150) (pw (I 152)) a n m k → FA I I1 Q Q → whyH (I 150) n p < 0 → ∃ rr I1' Q1, some (Value.int (whyH (I 150) n p)) = some (.int rr) ∧ (SC L, I1, Q) = (SC L, I1', Q1) ∧ (∀ p, 1000 ≤ p → I1' p = I p) ∧ Runs l 115 [.ref 149, .int p] (SC L, I1', Q1) (fun v' h' => ∃ I2 Q2, v' = some (.int rr) ∧ h' = (SC L, I2, Q2) ∧ GI I2 Q2 (bd + 20) ∧ ∀ p, 1000 ≤ p → I2 p = I p) := fun I1 hc hF hw => by
    have e149 : I1 149 = I 149 := hF.1 149 (by omega)
    have e150 : I1 150 = I 150 := hF.1 150 (by omega)
    refine ⟨_, I1, Q, rfl, rfl, fun p hp => hF.1 p (by omega), ?_⟩
    refine r_goHome (n := n) (m := m) (k := k) hQM ha (by rw [e149]; exact e3) (by rw [e150]; exact hM) (by rw [e150]; exact hL) p (fun hw' => ?_) (fun hw' i2 hf2 hi2 I2 hRC hz => ?_)
    · exact ⟨I1, Q, by rw [e150], rfl, GI.same hQM hK e3 hX hXw hSN hTX hST hc hF (RQ.rf I1) (by omega), fun p hp => hF.1 p (by omega)⟩
    · rw [e150] at hw'
      rw [hw'] at hw
      exact absurd hw (by decide)
  refine m_goHome hCT p (fun hw I1 hc hF => rf I1 hc hF hw) (fun hw i hf hi I1 Q1 b1 n1 m1 k1 hc hF => ?_)
  have fg := hF.gi
  have e149 : I1 149 = I 149 := fg.1 149 (by omega)
  have e150 : I1 150 = I 150 := fg.1 150 (by omega)
  have hQM1 : QM Q1 := hQM.fr fg.2.2
  refine ⟨_, I1, Q1, rfl, rfl, fun p hp => fg.1 p (by omega), ?_⟩
  refine r_goHome (n := n) (m := m) (k := k) hQM1 ha (by rw [e149]; exact e3) (by rw [e150]; exact hM) (by rw [e150]; exact hL) p (fun hw' => ?_) (fun hw' i2 hf2 hi2 I2 hRC hz => ?_)
  · rw [e150] at hw'
    rw [hw] at hw'
    exact absurd hw' (by decide)
  · refine ⟨I2, Q1, ?_, rfl, GI.done hQA ha hQM hK hX hXw hSN hTX hST hc fg (RCW.of hRC ha) ?_ ⟨(hX.1.home hL hi).mono (by omega), by rw [(hM.home hL hi).ixn]; exact PV.home hpv hL hi⟩ (by omega) rfl, fun p hp => (hRC.2.2.2 p (by omega)).trans (fg.1 p (by omega))⟩
    · rw [e150] at hf2 ⊢
      rw [hf] at hf2
      rw [Option.some.inj hf2]
    · rw [e150] at hf2 hz
      rw [hf] at hf2
      rw [hz, Option.some.inj hf2]
      exact Eq228.rf _
set_option maxRecDepth 100000 in
theorem s_set (h : GI I Q bd) (hbd : bd + 20 ≤ 1000000) (wh v : Int32) : STEP l L 59 117 [.int wh, .int v] I Q bd := by
  obtain ⟨τ, b, a, n, m, k, ln, hCT, hQM, hK, e3, hX, hXw, hSN, hTX, hST⟩ := h
  obtain ⟨⟨hQA, hH, hZ⟩, ⟨hC, hM, hL⟩, hA⟩ := id hCT
  have ha := hA.2.1
  have hpv : PV (I 150) n := by have := hX.2; rw [hM.ixn] at this; exact this
  have hX2 : whyS (I 150) wh v = 0 → XW (upd (I 150) (ix wh) v) (bd + 20) := fun hw => by
    obtain ⟨j, hj, ej, hv, -⟩ := whyS_0 hw
    have ei : ix wh = j := by rw [ej]; exact ix_nI (by omega)
    rw [ei]
    exact ⟨(hX.1.set hj hv).mono (by omega), by rw [(hM.set hj hv).ixn]; exact PV.set hpv hj v⟩
  have rf : ∀ I1, CT I1 Q τ b (I 150) (pw (I 152)) a n m k → FA I I1 Q Q → whyS (I 150) wh v < 0 → ∃ rr I1' Q1, some (Value.int (whyS (I 150) wh v)) = some (.int rr) ∧ (SC L, I1, Q) = (SC L, I1', Q1) ∧ (∀ p, 1000 ≤ p → I1' p = I p) ∧ Runs l 117 [.ref 149, .int wh, .int v] (SC L, I1', Q1) (fun v' h' => ∃ I2 Q2, v' = some (.int rr) ∧ h' = (SC L, I2, Q2) ∧ GI I2 Q2 (bd + 20) ∧ ∀ p, 1000 ≤ p → I2 p = I p) := fun I1 hc hF hw => by
    have e149 : I1 149 = I 149 := hF.1 149 (by omega)
    have e150 : I1 150 = I 150 := hF.1 150 (by omega)
    refine ⟨_, I1, Q, rfl, rfl, fun p hp => hF.1 p (by omega), ?_⟩
    refine r_set hQM ha (by rw [e149]; exact e3) wh v (fun hw' => ?_) (fun hw' I2 hRC hz => ?_)
    · exact ⟨I1, Q, by rw [e150], rfl, GI.same hQM hK e3 hX hXw hSN hTX hST hc hF (RQ.rf I1) (by omega), fun p hp => hF.1 p (by omega)⟩
    · rw [e150] at hw'
      rw [hw'] at hw
      exact absurd hw (by decide)
  refine m_set hCT wh v hK (fun hw I1 hc hF => rf I1 hc hF hw) (fun hw I1 Q1 b1 n1 m1 k1 hc hF => ?_)
  have fg := hF.gi
  have e149 : I1 149 = I 149 := fg.1 149 (by omega)
  have e150 : I1 150 = I 150 := fg.1 150 (by omega)
  have hQM1 : QM Q1 := hQM.fr fg.2.2
  refine ⟨_, I1, Q1, rfl, rfl, fun p hp => fg.1 p (by omega), ?_⟩
  refine r_set hQM1 ha (by rw [e149]; exact e3) wh v (fun hw' => ?_) (fun hw' I2 hRC hz => ?_)
  · rw [e150] at hw'
    rw [hw] at hw'
    exact absurd hw' (by decide)
  · refine ⟨I2, Q1, ?_, rfl, GI.done hQA ha hQM hK hX hXw hSN hTX hST hc fg (RCW.of hRC ha) ?_ (hX2 hw) (by omega) rfl, fun p hp => (hRC.2.2.2 p (by omega)).trans (fg.1 p (by omega))⟩
    · rw [e150]
    · rw [hz, e150]; exact Eq228.rf _
set_option maxRecDepth 100000 in
theorem s_arrive (h : GI I Q bd) (hbd : bd + 20 ≤ 1000000) (to : Int32) : STEP l L 60 120 [.int to] I Q bd := by
  obtain ⟨τ, b, a, n, m, k, ln, hCT, hQM, hK, e3, hX, hXw, hSN, hTX, hST⟩ := h
  obtain ⟨⟨hQA, hH, hZ⟩, ⟨hC, hM, hL⟩, hA⟩ := id hCT
  have ha := hA.2.1
  have hpv : PV (I 150) n := by have := hX.2; rw [hM.ixn] at this; exact this
  have hX2 : whyJ (I 150) to = 0 → XW (zJoin (I 150) to) (bd + 20) := fun hw => by
    obtain ⟨p1, p2⟩ := whyJ_0 hM.2.2.2.1 hM.2.2.2.2.1 hw
    exact ⟨(hX.1.join (by omega) hw).mono (by omega), by rw [(hM.join p2 p1).ixn]; exact PV.join hpv hM.2.2.2.1 p2 to⟩
  have rf : ∀ I1, CT I1 Q τ b (I 150) (pw (I 152)) a n m k → FA I I1 Q Q → whyJ (I 150) to < 0 → ∃ rr I1' Q1, some (Value.int (whyJ (I 150) to)) = some (.int rr) ∧ (SC L, I1, Q) = (SC L, I1', Q1) ∧ (∀ p, 1000 ≤ p → I1' p = I p) ∧ Runs l 120 [.ref 149, .int to] (SC L, I1', Q1) (fun v' h' => ∃ I2 Q2, v' = some (.int rr) ∧ h' = (SC L, I2, Q2) ∧ GI I2 Q2 (bd + 20) ∧ ∀ p, 1000 ≤ p → I2 p = I p) := fun I1 hc hF hw => by
    have e149 : I1 149 = I 149 := hF.1 149 (by omega)
    have e150 : I1 150 = I 150 := hF.1 150 (by omega)
    refine ⟨_, I1, Q, rfl, rfl, fun p hp => hF.1 p (by omega), ?_⟩
    refine r_arrive (k := k) hQM ha (by rw [e149]; exact e3) (by rw [e150]; exact hM.2.2.2.1) hM.2.2.2.2.1 to (fun hw' => ?_) (fun hw' I2 hRC hz => ?_)
    · exact ⟨I1, Q, by rw [e150], rfl, GI.same hQM hK e3 hX hXw hSN hTX hST hc hF (RQ.rf I1) (by omega), fun p hp => hF.1 p (by omega)⟩
    · rw [e150] at hw'
      rw [hw'] at hw
      exact absurd hw (by decide)
  refine m_arrive hCT to (fun hw I1 hc hF => rf I1 hc hF hw) (fun hw I1 Q1 b1 n1 m1 k1 hc hF => ?_)
  have fg := hF.gi
  have e149 : I1 149 = I 149 := fg.1 149 (by omega)
  have e150 : I1 150 = I 150 := fg.1 150 (by omega)
  have hQM1 : QM Q1 := hQM.fr fg.2.2
  refine ⟨_, I1, Q1, rfl, rfl, fun p hp => fg.1 p (by omega), ?_⟩
  refine r_arrive (k := k) hQM1 ha (by rw [e149]; exact e3) (by rw [e150]; exact hM.2.2.2.1) hM.2.2.2.2.1 to (fun hw' => ?_) (fun hw' I2 hRC hz => ?_)
  · rw [e150] at hw'
    rw [hw] at hw'
    exact absurd hw' (by decide)
  · refine ⟨I2, Q1, ?_, rfl, GI.done hQA ha hQM hK hX hXw hSN hTX hST hc fg (RCW.of hRC ha) ?_ (hX2 hw) (by omega) rfl, fun p hp => (hRC.2.2.2 p (by omega)).trans (fg.1 p (by omega))⟩
    · rfl
    · rw [hz, e150]; exact Eq228.rf _
set_option maxRecDepth 100000 in
theorem s_call (h : GI I Q bd) (hbd : bd + 20 ≤ 1000000) (f to : Int32) : STEP l L 61 125 [.int f, .int to] I Q bd := by
  obtain ⟨τ, b, a, n, m, k, ln, hCT, hQM, hK, e3, hX, hXw, hSN, hTX, hST⟩ := h
  obtain ⟨⟨hQA, hH, hZ⟩, ⟨hC, hM, hL⟩, hA⟩ := id hCT
  have ha := hA.2.1
  obtain ⟨n0, k0', cc, hM0, hE0, hcc⟩ := hX.1
  have en : n0 = n := by rw [← hM0.ixn, hM.ixn]
  have ek : k0' = k := (nI_eq (by have := hM0.2.2.2.2.1; omega) (by have := hM.2.2.2.2.1; omega)).mp (hM0.2.2.2.1.symm.trans hM.2.2.2.1)
  subst en ek
  have hpv : PV (I 150) n0 := by have := hX.2; rw [hM.ixn] at this; exact this
  have hX2 : whyC (I 150) n0 m f to = 0 → ∀ t, calZ (I 150) n0 m f = some t → t < n0 → XW (zCl (I 150) t f to m) (bd + 20) := fun hw t hf hi => by
    obtain ⟨pf, pt, hne, -⟩ := whyC_0 hL hw
    obtain ⟨-, hcn⟩ := calZ_in hL hf
    obtain ⟨q1, q2, q3⟩ := MV.call hM hL hE0 hi hcn pf pt hne
    exact ⟨⟨_, _, cc, q1, q3.mono (by omega), hcc⟩, by rw [q1.ixn]; exact PV.call hpv hL hi f to⟩
  have rf : ∀ I1, CT I1 Q τ b (I 150) (pw (I 152)) a n0 m k0' → FA I I1 Q Q → whyC (I 150) n0 m f to < 0 → ∃ rr I1' Q1, some (Value.int (whyC (I 150) n0 m f to)) = some (.int rr) ∧ (SC L, I1, Q) = (SC L, I1', Q1) ∧ (∀ p, 1000 ≤ p → I1' p = I p) ∧ Runs l 125 [.ref 149, .int f, .int to] (SC L, I1', Q1) (fun v' h' => ∃ I2 Q2, v' = some (.int rr) ∧ h' = (SC L, I2, Q2) ∧ GI I2 Q2 (bd + 20) ∧ ∀ p, 1000 ≤ p → I2 p = I p) := fun I1 hc hF hw => by
    have e149 : I1 149 = I 149 := hF.1 149 (by omega)
    have e150 : I1 150 = I 150 := hF.1 150 (by omega)
    refine ⟨_, I1, Q, rfl, rfl, fun p hp => hF.1 p (by omega), ?_⟩
    refine r_call (n := n0) (m := m) (k := k0') hQM ha (by rw [e149]; exact e3) (by rw [e150]; exact hM) (by rw [e150]; exact hL) f to (fun hw' => ?_) (fun hw' t2 hf2 hi2 I2 hRC hz => ?_)
    · exact ⟨I1, Q, by rw [e150], rfl, GI.same hQM hK e3 hX hXw hSN hTX hST hc hF (RQ.rf I1) (by omega), fun p hp => hF.1 p (by omega)⟩
    · rw [e150] at hw'
      rw [hw'] at hw
      exact absurd hw (by decide)
  refine m_call hCT f to hE0 hpv (fun hw I1 hc hF => rf I1 hc hF hw) (fun hw t hf hi I1 Q1 b1 n1 m1 k1 hc hF => ?_)
  have fg := hF.gi
  have e149 : I1 149 = I 149 := fg.1 149 (by omega)
  have e150 : I1 150 = I 150 := fg.1 150 (by omega)
  have hQM1 : QM Q1 := hQM.fr fg.2.2
  refine ⟨_, I1, Q1, rfl, rfl, fun p hp => fg.1 p (by omega), ?_⟩
  refine r_call (n := n0) (m := m) (k := k0') hQM1 ha (by rw [e149]; exact e3) (by rw [e150]; exact hM) (by rw [e150]; exact hL) f to (fun hw' => ?_) (fun hw' t2 hf2 hi2 I2 hRC hz => ?_)
  · rw [e150] at hw'
    rw [hw] at hw'
    exact absurd hw' (by decide)
  · refine ⟨I2, Q1, ?_, rfl, GI.done hQA ha hQM hK hX hXw hSN hTX hST hc fg (RCW.of hRC ha) ?_ (hX2 hw t hf hi) (by omega) rfl, fun p hp => (hRC.2.2.2 p (by omega)).trans (fg.1 p (by omega))⟩
    · rw [e150] at hf2 ⊢
      rw [hf] at hf2
      rw [Option.some.inj hf2]
    · rw [e150] at hf2 hz
      rw [hf] at hf2
      rw [hz, Option.some.inj hf2]
      exact Eq228.rf _
set_option maxRecDepth 100000 in
theorem s_pass (h : GI I Q bd) (hbd : bd + 20 ≤ 1000000) (x : Int32) : STEP l L 62 128 [.int x] I Q bd := by
  obtain ⟨τ, b, a, n, m, k, ln, hCT, hQM, hK, e3, hX, hXw, hSN, hTX, hST⟩ := h
  obtain ⟨⟨hQA, hH, hZ⟩, ⟨hC, hM, hL⟩, hA⟩ := id hCT
  have ha := hA.2.1
  obtain ⟨n0, k0', cc, hM0, hE0, hcc⟩ := hX.1
  have en : n0 = n := by rw [← hM0.ixn, hM.ixn]
  have ek : k0' = k := (nI_eq (by have := hM0.2.2.2.2.1; omega) (by have := hM.2.2.2.2.1; omega)).mp (hM0.2.2.2.1.symm.trans hM.2.2.2.1)
  subst en ek
  have hpv : PV (I 150) n0 := by have := hX.2; rw [hM.ixn] at this; exact this
  have hX2 : whyP (I 150) x = 0 → XW (zIt (I 150) (ix x)) (bd + 20) := fun hw => by
    obtain ⟨k', q1, -⟩ := hM.it hE0 (ix x)
    exact ⟨(hX.1.it hw).mono (by omega), by rw [q1.ixn]; exact PV.it hpv hM _⟩
  have rf : ∀ I1, CT I1 Q τ b (I 150) (pw (I 152)) a n0 m k0' → FA I I1 Q Q → whyP (I 150) x < 0 → ∃ rr I1' Q1, some (Value.int (whyP (I 150) x)) = some (.int rr) ∧ (SC L, I1, Q) = (SC L, I1', Q1) ∧ (∀ p, 1000 ≤ p → I1' p = I p) ∧ Runs l 128 [.ref 149, .int x] (SC L, I1', Q1) (fun v' h' => ∃ I2 Q2, v' = some (.int rr) ∧ h' = (SC L, I2, Q2) ∧ GI I2 Q2 (bd + 20) ∧ ∀ p, 1000 ≤ p → I2 p = I p) := fun I1 hc hF hw => by
    have e149 : I1 149 = I 149 := hF.1 149 (by omega)
    have e150 : I1 150 = I 150 := hF.1 150 (by omega)
    refine ⟨_, I1, Q, rfl, rfl, fun p hp => hF.1 p (by omega), ?_⟩
    refine r_pass (n := n0) (k := k0') hQM ha (by rw [e149]; exact e3) (by rw [e150]; exact hM) (c := cc) (by rw [e150]; exact hE0.2.1) hcc x (fun hw' => ?_) (fun hw' I2 hRC hz => ?_)
    · exact ⟨I1, Q, by rw [e150], rfl, GI.same hQM hK e3 hX hXw hSN hTX hST hc hF (RQ.rf I1) (by omega), fun p hp => hF.1 p (by omega)⟩
    · rw [e150] at hw'
      rw [hw'] at hw
      exact absurd hw (by decide)
  refine m_pass hCT x (fun hw => pass_nn hM0 hE0.2.1 hcc hw) (fun hw I1 hc hF => rf I1 hc hF hw) (fun hw I1 Q1 b1 n1 m1 k1 hc hF => ?_)
  have fg := hF.gi
  have e149 : I1 149 = I 149 := fg.1 149 (by omega)
  have e150 : I1 150 = I 150 := fg.1 150 (by omega)
  have hQM1 : QM Q1 := hQM.fr fg.2.2
  refine ⟨_, I1, Q1, rfl, rfl, fun p hp => fg.1 p (by omega), ?_⟩
  refine r_pass (n := n0) (k := k0') hQM1 ha (by rw [e149]; exact e3) (by rw [e150]; exact hM) (c := cc) (by rw [e150]; exact hE0.2.1) hcc x (fun hw' => ?_) (fun hw' I2 hRC hz => ?_)
  · rw [e150] at hw'
    rw [hw] at hw'
    exact absurd hw' (by decide)
  · refine ⟨I2, Q1, ?_, rfl, GI.done hQA ha hQM hK hX hXw hSN hTX hST hc fg (RCW.of hRC ha) ?_ (hX2 hw) (by omega) rfl, fun p hp => (hRC.2.2.2 p (by omega)).trans (fg.1 p (by omega))⟩
    · rw [e150]
    · rw [hz, e150]; exact Eq228.rf _
end K2
