/-! orders carried out: the class, all of them -/
/-- a fault is not far behind the text's end -/
theorem tRN_lt (c : Nat → Int32) (ln : Nat) : ∀ f j s x, (tRN c ln f j s).1 = some x → x ≤ s + 12 * f := by
  intro f
  induction f with
  | zero =>
    intro j s x h
    cases h
    omega
  | succ f ih =>
    intro j s x h
    have ob := ordN_b c s
    simp only [tRN] at h
    split at h
    · cases h; omega
    · split at h
      · cases h
      · split at h
        · have := ih _ _ _ h
          omega
        · cases h; omega
section J2
variable {l : Launch} {L : Nat} {I : Nat → Nat → Int32} {Q : Nat → Nat → Option Nat} {P : Option Value → PH → Prop} {τ : Nat → Nat → Nat} {b : Nat → Nat} {z : Nat → Int32} {w : Nat → Nat → Int32} {a n m k ln : Nat}
def FP (I I' : Nat → Nat → Int32) (Q Q' : Nat → Nat → Option Nat) : Prop := (∀ p, (41 ≤ p ∧ p < 61 ∨ p = 62 ∨ p = 143 ∨ 148 ≤ p) → I' p = I p) ∧ ∀ p, p ≠ 2 → p ≠ 62 → p ≠ 144 → Q' p = Q p
theorem FP.tr {I I' I'' : Nat → Nat → Int32} {Q Q' Q'' : Nat → Nat → Option Nat} (h : FP I I' Q Q') (h' : FP I' I'' Q' Q'') : FP I I'' Q Q'' := ⟨fun p hp => (h'.1 p hp).trans (h.1 p hp), fun p h1 h2 h3 => (h'.2 p h1 h2 h3).trans (h.2 p h1 h2 h3)⟩
theorem FP.town {I I' : Nat → Nat → Int32} {B : Nat} (h : Fr I I' B) (hB : B = 1 ∨ B = 21) (Q : Nat → Nat → Option Nat) : FP I I' Q Q := ⟨fun p hp => h p (by omega), fun _ _ _ _ => rfl⟩
theorem FP.of {I I' : Nat → Nat → Int32} {Q Q' : Nat → Nat → Option Nat} (h : FA I I' Q Q') : FP I I' Q Q' := ⟨fun p hp => h.1 p (by omega), fun p h1 h2 _ => h.2 p h1 h2⟩
theorem CT.reader {I' : Nat → Nat → Int32} (h : CT I Q τ b z w a n m k) (hF : FO I I') : CT I' (uR Q 144 (va_up (Q 144) 4 (some 143))) τ b z w a n m k := by
  obtain ⟨⟨hQA, hH, hZ⟩, ⟨hC, hM, hL⟩, hA⟩ := h
  refine ⟨⟨fun B hB => ?_, ?_, ?_⟩, ⟨hC.fr (hQA _ tb1.1).2.2.1 hM.n.2 (fun p p1 p2 => hF p (by omega)), hM, hL⟩, hA.fr hQA hH (fun p p1 p2 => hF p (by omega))⟩
  · obtain ⟨x, y⟩ := hQA B hB
    have hb := tbl hB
    refine ⟨?_, ?_, y.2⟩
    · unfold QT0
      rw [uR_n _ _ (by omega), uR_n _ _ (by omega)]
      exact x
    · intro i hi
      rw [uR_n _ _ (by omega)]
      exact y.1 i hi
  · unfold HQ
    rw [uR_n _ _ (by omega), uR_n _ _ (by omega)]
    exact hH
  · unfold QZ
    rw [uR_n _ _ (by omega), uR_s, vup_n _ _ (by omega), vup_n _ _ (by omega), vup_n _ _ (by omega)]
    exact hZ
theorem FP.reader {I' : Nat → Nat → Int32} (hF : FO I I') (Q : Nat → Nat → Option Nat) : FP I I' Q (uR Q 144 (va_up (Q 144) 4 (some 143))) := ⟨fun p hp => hF p (by omega), fun p _ _ h3 => uR_n _ _ h3⟩
theorem ON.fr {I' : Nat → Nat → Int32} {c : Nat → Int32} {N : Nat} (h : ON I c N) (e : ∀ p, 144 ≤ p → p < 148 → I' p = I p) : ON I' c N := by
  unfold ON
  rw [e 144 (by omega) (by omega), e 145 (by omega) (by omega), e 146 (by omega) (by omega), e 147 (by omega) (by omega)]
  exact h
set_option maxRecDepth 100000 in
theorem p_loop {c : Nat → Int32} {N bd : Nat} {a1 : Option Value} (hN : N ≤ 20) (hbd : bd + 20 ≤ 1000000) (h : CT I Q τ b z w a n m k) (hsp : CA I 21 (τ 21) z n m k) (hON : ON I c N) (h2 : ∀ i e, (prO c N 0 z).1 = some (i, e) → ∀ I', CT I' Q τ b z w a n m k → FP I I' Q Q → I' 0 = upd (upd (I 0) 8 (nI i)) 9 e → P (some (.int (-4))) (SC L, I', Q)) (h3 : (prO c N 0 z).1 = none → ∀ I' Q' b' n' m' k', CT I' Q' τ b' (prO c N 0 z).2 (wSt w a z) (aSt a) n' m' k' → FP I I' Q Q' → I' 0 = I 0 → P (some (.int (nI N))) (SC L, I', Q')) : ∀ d i (z0 : Nat → Int32) n0 m0 q0 I0 a3 a4, i + d = N → CA I0 1 (τ 1) z0 n0 m0 q0 → MV z0 n0 q0 → Ln z0 n0 m0 → XW z0 (bd + i) → Fr I I0 1 → prO c d i z0 = prO c N 0 z → Sy l 64 (149, 1788) 39 [some (.ref 0), a1, some (.int (nI i)), a3, a4] [] (SC L, I0, Q) P := by
  obtain ⟨⟨hQA, hH, hZ⟩, ⟨hC, hM, hL⟩, hA⟩ := id h
  intro d
  induction d with
  | zero =>
    intro i z0 n0 m0 q0 I0 a3 a4 hi hC0 hM0 hL0 hX0 hF hR
    have : i = N := by omega
    subst this
    simp only [prO] at hR
    have on := hON.fr (I' := I0) (fun p p1 p2 => hF p (by omega))
    rw [← hR] at h3
    refine wk ((fn0_ok l)) ok_64 10 (fun pc => pc == 50 || pc == 169) ?_
    simp only [fn0, kk_64, Option.toList_some, Option.toList_none, ex, catS, vC, isMk, sym, popN, goC, callOK, swL, List.map_cons, List.map_nil, List.replicate_zero, List.replicate_succ, List.append_nil, List.nil_append, List.cons_append, List.getElem?_cons_zero, List.getElem?_cons_succ, List.set_cons_zero, List.set_cons_succ, List.length_cons, List.length_nil, List.head?_cons, Nat.reduceAdd, Nat.reduceLT, Nat.reduceLeDiff, Nat.reduceBEq, Nat.reduceEqDiff, Nat.succ_ne_zero, Nat.zero_lt_succ, Nat.le_refl, sc_rows, kc_lit, nc_lit, wlk_rows, uR_s, uR_uR, true_and, and_true, true_or, or_true, false_or, or_false, and_false, false_and, or_self, and_self, if_true, if_false, Bool.false_eq_true, Bool.or_false, Bool.or_true, Bool.false_or, Bool.true_or, not_true_eq_false, not_false_eq_true, forall_const, true_implies, false_implies, implies_true, reduceIte, reduceCtorEq, k0 L, kO L, hZ.1, on.1, leT (Nat.le_refl i) (show i < 2147483648 by omega)]
    refine wk ((fn0_ok l)) ok_64 20 (fun pc => false) ?_
    simp only [fn0, kk_64, Option.toList_some, Option.toList_none, ex, catS, vC, isMk, sym, popN, goC, callOK, swL, List.map_cons, List.map_nil, List.replicate_zero, List.replicate_succ, List.append_nil, List.nil_append, List.cons_append, List.getElem?_cons_zero, List.getElem?_cons_succ, List.set_cons_zero, List.set_cons_succ, List.length_cons, List.length_nil, List.head?_cons, Nat.reduceAdd, Nat.reduceLT, Nat.reduceLeDiff, Nat.reduceBEq, Nat.reduceEqDiff, Nat.succ_ne_zero, Nat.zero_lt_succ, Nat.le_refl, sc_rows, kc_lit, nc_lit, wlk_rows, uR_s, uR_uR, true_and, and_true, true_or, or_true, false_or, or_false, and_false, false_and, or_self, and_self, if_true, if_false, Bool.false_eq_true, Bool.or_false, Bool.or_true, Bool.false_or, Bool.true_or, not_true_eq_false, not_false_eq_true, forall_const, true_implies, false_implies, implies_true, reduceIte, reduceCtorEq, k0 L, kO L, hZ.1, on.1]
    refine c_recPos (nI_pos (show i < 2147483648 by omega)) hQA hH hZ (hsp.fr (hQA _ tb1.2.1).2.2.1 hM.n.2 (fun p p1 p2 => hF p (by omega))) hM hL (hA.fr hQA hH (fun p p1 p2 => hF p (by omega))) ⟨hC0, hM0, hL0⟩ (fun I3 Q3 b3 hc3 hF3 => ?_)
    refine wk ((fn0_ok l)) ok_64 20 (fun pc => false) ?_
    simp only [fn0, kk_64, Option.toList_some, Option.toList_none, ex, catS, vC, isMk, sym, popN, goC, callOK, swL, List.map_cons, List.map_nil, List.replicate_zero, List.replicate_succ, List.append_nil, List.nil_append, List.cons_append, List.getElem?_cons_zero, List.getElem?_cons_succ, List.set_cons_zero, List.set_cons_succ, List.length_cons, List.length_nil, List.head?_cons, Nat.reduceAdd, Nat.reduceLT, Nat.reduceLeDiff, Nat.reduceBEq, Nat.reduceEqDiff, Nat.succ_ne_zero, Nat.zero_lt_succ, Nat.le_refl, sc_rows, kc_lit, nc_lit, wlk_rows, uR_s, uR_uR, true_and, and_true, true_or, or_true, false_or, or_false, and_false, false_and, or_self, and_self, if_true, if_false, Bool.false_eq_true, Bool.or_false, Bool.or_true, Bool.false_or, Bool.true_or, not_true_eq_false, not_false_eq_true, forall_const, true_implies, false_implies, implies_true, reduceIte, reduceCtorEq]
    exact h3 rfl I3 Q3 b3 _ _ _ hc3 ((FP.town hF (Or.inl rfl) Q).tr (FP.of hF3)) ((hF3.1 0 (by omega)).trans (hF 0 (by omega)))
  | succ d ih =>
    intro i z0 n0 m0 q0 I0 a3 a4 hi hC0 hM0 hL0 hX0 hF hR
    simp only [prO] at hR
    have on := hON.fr (I' := I0) (fun p p1 p2 => hF p (by omega))
    refine wk ((fn0_ok l)) ok_64 10 (fun pc => pc == 50 || pc == 169) ?_
    simp only [fn0, kk_64, Option.toList_some, Option.toList_none, ex, catS, vC, isMk, sym, popN, goC, callOK, swL, List.map_cons, List.map_nil, List.replicate_zero, List.replicate_succ, List.append_nil, List.nil_append, List.cons_append, List.getElem?_cons_zero, List.getElem?_cons_succ, List.set_cons_zero, List.set_cons_succ, List.length_cons, List.length_nil, List.head?_cons, Nat.reduceAdd, Nat.reduceLT, Nat.reduceLeDiff, Nat.reduceBEq, Nat.reduceEqDiff, Nat.succ_ne_zero, Nat.zero_lt_succ, Nat.le_refl, sc_rows, kc_lit, nc_lit, wlk_rows, uR_s, uR_uR, true_and, and_true, true_or, or_true, false_or, or_false, and_false, false_and, or_self, and_self, if_true, if_false, Bool.false_eq_true, Bool.or_false, Bool.or_true, Bool.false_or, Bool.true_or, not_true_eq_false, not_false_eq_true, forall_const, true_implies, false_implies, implies_true, reduceIte, reduceCtorEq, k0 L, kO L, hZ.1, on.1, leF (show i < N by omega) (show N < 2147483648 by omega)]
    refine p_step (c := c) (N := N) hQA hZ hC0 hM0 hL0 hX0 on (by omega) hN (fun hw a3 => ?_) (fun hw I' n' m' k' a3 v4 q1 q2 q3 q4 => ?_)
    · rw [if_pos hw] at hR
      have hsp0 : CA I0 21 (τ 21) z n m k := hsp.fr (hQA _ tb1.2.1).2.2.1 hM.n.2 (fun p p1 p2 => hF p (by omega))
      refine wk ((fn0_ok l)) ok_64 10 (fun pc => false) ?_
      simp only [fn0, kk_64, Option.toList_some, Option.toList_none, ex, catS, vC, isMk, sym, popN, goC, callOK, swL, List.map_cons, List.map_nil, List.replicate_zero, List.replicate_succ, List.append_nil, List.nil_append, List.cons_append, List.getElem?_cons_zero, List.getElem?_cons_succ, List.set_cons_zero, List.set_cons_succ, List.length_cons, List.length_nil, List.head?_cons, Nat.reduceAdd, Nat.reduceLT, Nat.reduceLeDiff, Nat.reduceBEq, Nat.reduceEqDiff, Nat.succ_ne_zero, Nat.zero_lt_succ, Nat.le_refl, sc_rows, kc_lit, nc_lit, wlk_rows, uR_s, uR_uR, true_and, and_true, true_or, or_true, false_or, or_false, and_false, false_and, or_self, and_self, if_true, if_false, Bool.false_eq_true, Bool.or_false, Bool.or_true, Bool.false_or, Bool.true_or, not_true_eq_false, not_false_eq_true, forall_const, true_implies, false_implies, implies_true, reduceIte, reduceCtorEq, k0 L, hZ.1]
      refine c_copyTown tb1.1 tb1.2.1 (by omega) (hQA _ tb1.1).1 (hQA _ tb1.2.1).1 (hQA _ tb1.1).2 (hQA _ tb1.2.1).2 hsp0 (fun i hi => (hM.2.1 i hi).1) hM.n.2 hL.2.2.2.2.2.2.2 hM.2.2.2.2.1 (fun I2 hC2 hF2 => ?_)
      have e0 : I2 0 = I 0 := (hF2 0 (by omega)).trans (hF 0 (by omega))
      have fr : ∀ p, 1 ≤ p → uR I2 0 (upd (upd (I 0) 8 (nI i)) 9 (whyO z0 (ordN c (stO c i)).2.2)) p = I2 p := fun p hp => uR_n _ _ (by omega)
      refine wk ((fn0_ok l)) ok_64 20 (fun pc => false) ?_
      simp only [fn0, kk_64, Option.toList_some, Option.toList_none, ex, catS, vC, isMk, sym, popN, goC, callOK, swL, List.map_cons, List.map_nil, List.replicate_zero, List.replicate_succ, List.append_nil, List.nil_append, List.cons_append, List.getElem?_cons_zero, List.getElem?_cons_succ, List.set_cons_zero, List.set_cons_succ, List.length_cons, List.length_nil, List.head?_cons, Nat.reduceAdd, Nat.reduceLT, Nat.reduceLeDiff, Nat.reduceBEq, Nat.reduceEqDiff, Nat.succ_ne_zero, Nat.zero_lt_succ, Nat.le_refl, sc_rows, kc_lit, nc_lit, wlk_rows, uR_s, uR_uR, true_and, and_true, true_or, or_true, false_or, or_false, and_false, false_and, or_self, and_self, if_true, if_false, Bool.false_eq_true, Bool.or_false, Bool.or_true, Bool.false_or, Bool.true_or, not_true_eq_false, not_false_eq_true, forall_const, true_implies, false_implies, implies_true, reduceIte, reduceCtorEq, k0 L, e0, upd_e]
      refine h2 i _ (by rw [← hR]) _ ⟨⟨hQA, hH, hZ⟩, ⟨hC2.fr (hQA _ tb1.1).2.2.1 hM.n.2 (fun p p1 p2 => fr p (by omega)), hM, hL⟩, (hA.fr hQA hH (fun p p1 p2 => (hF2 p (by omega)).trans (hF p (by omega)))).fr hQA hH (fun p p1 p2 => fr p (by omega))⟩ ⟨fun p hp => ?_, fun _ _ _ _ => rfl⟩ (uR_s _ _ _)
      rw [fr p (by omega), hF2 p (by omega), hF p (by omega)]
    · rw [if_neg (by rw [hw]; decide)] at hR
      exact ih (i + 1) _ n' m' k' I' a3 v4 (by omega) q1 q2 q3 (hX0.act (by omega) hw) (hF.tr q4) hR
set_option maxRecDepth 100000 in
theorem m_perform (h : CT I Q τ b z w a n m k) {bd : Nat} (hbd : bd + 20 ≤ 1000000) (hX : XW z bd) (hl : I 0 6 = nI ln) (hl2 : ln ≤ 60) (hch : ∀ j, vp_nar .char (I 143 j) = I 143 j) {c : Nat → Int32} {R : Option Nat × Nat} (hc : chx (I 143) ln = c) (hR : tRN c ln 21 0 0 = R) (h1 : ∀ x, R.1 = some x → ∀ I' Q', CT I' Q' τ b z w a n m k → FP I I' Q Q' → I' 0 = I 0 → P (some (.int (-100 - nI x))) (SC L, I', Q')) (h2 : R.1 = none → ∀ i e, (prO c R.2 0 z).1 = some (i, e) → ∀ I' Q', CT I' Q' τ b z w a n m k → FP I I' Q Q' → I' 0 = upd (upd (I 0) 8 (nI i)) 9 e → P (some (.int (-4))) (SC L, I', Q')) (h3 : R.1 = none → (prO c R.2 0 z).1 = none → ∀ I' Q' b' n' m' k', CT I' Q' τ b' (prO c R.2 0 z).2 (wSt w a z) (aSt a) n' m' k' → FP I I' Q Q' → I' 0 = I 0 → P (some (.int (nI R.2))) (SC L, I', Q')) : Runs l 64 [.ref 0] (SC L, I, Q) P := by
  obtain ⟨⟨hQA, hH, hZ⟩, -, -⟩ := id h
  refine run0 (n := 4) mok_64 ⟨rfl, rfl⟩ rfl ?_
  refine wk ((fn0_ok l)) ok_64 20 (fun pc => false) ?_
  simp only [fn0, kk_64, Option.toList_some, Option.toList_none, ex, catS, vC, isMk, sym, popN, goC, callOK, swL, List.map_cons, List.map_nil, List.replicate_zero, List.replicate_succ, List.append_nil, List.nil_append, List.cons_append, List.getElem?_cons_zero, List.getElem?_cons_succ, List.set_cons_zero, List.set_cons_succ, List.length_cons, List.length_nil, List.head?_cons, Nat.reduceAdd, Nat.reduceLT, Nat.reduceLeDiff, Nat.reduceBEq, Nat.reduceEqDiff, Nat.succ_ne_zero, Nat.zero_lt_succ, Nat.le_refl, sc_rows, kc_lit, nc_lit, wlk_rows, uR_s, uR_uR, true_and, and_true, true_or, or_true, false_or, or_false, and_false, false_and, or_self, and_self, if_true, if_false, Bool.false_eq_true, Bool.or_false, Bool.or_true, Bool.false_or, Bool.true_or, not_true_eq_false, not_false_eq_true, forall_const, true_implies, false_implies, implies_true, reduceIte, reduceCtorEq, k0 L, kO L, hZ.1, hl]
  refine c_read hZ.2 hl2 hch (fun I1 hF1 hon => ?_)
  rw [hc, hR] at hon ⊢
  have ct1 := h.reader hF1
  have fp1 := FP.reader hF1 Q
  have e01 : I1 0 = I 0 := hF1 0 (by omega)
  cases hr : R.1 with
  | some x =>
    have ef : fltI R = nI x := by unfold fltI; rw [hr]
    have n1 : (fltI R = -1) = False := by
      have hx : x < 2147483648 := by have := tRN_lt c ln 21 0 0 x (by rw [hR]; exact hr); omega
      rw [ef]
      exact eq_false (fun q => by have := nI_pos hx; rw [q] at this; exact this (by decide))
    have := h1 x hr I1 _ ct1 fp1 e01
    refine wk ((fn0_ok l)) ok_64 20 (fun pc => pc == 26) ?_
    simp only [fn0, kk_64, Option.toList_some, Option.toList_none, ex, catS, vC, isMk, sym, popN, goC, callOK, swL, List.map_cons, List.map_nil, List.replicate_zero, List.replicate_succ, List.append_nil, List.nil_append, List.cons_append, List.getElem?_cons_zero, List.getElem?_cons_succ, List.set_cons_zero, List.set_cons_succ, List.length_cons, List.length_nil, List.head?_cons, Nat.reduceAdd, Nat.reduceLT, Nat.reduceLeDiff, Nat.reduceBEq, Nat.reduceEqDiff, Nat.succ_ne_zero, Nat.zero_lt_succ, Nat.le_refl, sc_rows, kc_lit, nc_lit, wlk_rows, uR_s, uR_uR, true_and, and_true, true_or, or_true, false_or, or_false, and_false, false_and, or_self, and_self, if_true, if_false, Bool.false_eq_true, Bool.or_false, Bool.or_true, Bool.false_or, Bool.true_or, not_true_eq_false, not_false_eq_true, forall_const, true_implies, false_implies, implies_true, reduceIte, reduceCtorEq, n1]
    rw [ef]
    exact this
  | none =>
    have ef : fltI R = -1 := by unfold fltI; rw [hr]
    obtain ⟨on, hN⟩ := hon hr
    have hZ1 := ct1.1.2.2
    rw [ef]
    refine wk ((fn0_ok l)) ok_64 20 (fun pc => pc == 21) ?_
    simp only [fn0, kk_64, Option.toList_some, Option.toList_none, ex, catS, vC, isMk, sym, popN, goC, callOK, swL, List.map_cons, List.map_nil, List.replicate_zero, List.replicate_succ, List.append_nil, List.nil_append, List.cons_append, List.getElem?_cons_zero, List.getElem?_cons_succ, List.set_cons_zero, List.set_cons_succ, List.length_cons, List.length_nil, List.head?_cons, Nat.reduceAdd, Nat.reduceLT, Nat.reduceLeDiff, Nat.reduceBEq, Nat.reduceEqDiff, Nat.succ_ne_zero, Nat.zero_lt_succ, Nat.le_refl, sc_rows, kc_lit, nc_lit, wlk_rows, uR_s, uR_uR, true_and, and_true, true_or, or_true, false_or, or_false, and_false, false_and, or_self, and_self, if_true, if_false, Bool.false_eq_true, Bool.or_false, Bool.or_true, Bool.false_or, Bool.true_or, not_true_eq_false, not_false_eq_true, forall_const, true_implies, false_implies, implies_true, reduceIte, reduceCtorEq, k0 L, hZ1.1]
    refine c_spare (Or.inl rfl) ct1 (fun I2 hc2 hs2 hF2 => ?_)
    have fp2 := fp1.tr (FP.town hF2 (Or.inr rfl) _)
    have e02 : I2 0 = I 0 := (hF2 0 (by omega)).trans e01
    refine wk ((fn0_ok l)) ok_64 20 (fun pc => pc == 39) ?_
    simp only [fn0, kk_64, Option.toList_some, Option.toList_none, ex, catS, vC, isMk, sym, popN, goC, callOK, swL, List.map_cons, List.map_nil, List.replicate_zero, List.replicate_succ, List.append_nil, List.nil_append, List.cons_append, List.getElem?_cons_zero, List.getElem?_cons_succ, List.set_cons_zero, List.set_cons_succ, List.length_cons, List.length_nil, List.head?_cons, Nat.reduceAdd, Nat.reduceLT, Nat.reduceLeDiff, Nat.reduceBEq, Nat.reduceEqDiff, Nat.succ_ne_zero, Nat.zero_lt_succ, Nat.le_refl, sc_rows, kc_lit, nc_lit, wlk_rows, uR_s, uR_uR, true_and, and_true, true_or, or_true, false_or, or_false, and_false, false_and, or_self, and_self, if_true, if_false, Bool.false_eq_true, Bool.or_false, Bool.or_true, Bool.false_or, Bool.true_or, not_true_eq_false, not_false_eq_true, forall_const, true_implies, false_implies, implies_true, reduceIte, reduceCtorEq]
    refine p_loop (c := c) (N := R.2) (bd := bd) hN hbd hc2 hs2 (on.fr (fun p p1 p2 => hF2 p (by omega))) (fun i e hp I' q1 q2 q3 => h2 hr i e hp I' _ q1 (fp2.tr q2) (by rw [q3, e02])) (fun hp I' Q' b' n' m' k' q1 q2 q3 => h3 hr hp I' Q' b' n' m' k' q1 (fp2.tr q2) (q3.trans e02)) R.2 0 z n m k I2 none none (by omega) hc2.2.1.1 hc2.2.1.2.1 hc2.2.1.2.2 hX (Fr.rf I2 1) rfl
end J2

