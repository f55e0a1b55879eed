/-! the class: taking a state back; the reference: copying a state -/
section D6
variable {l : Launch} {L : Nat} {I : Nat → Nat → Int32} {Q : Nat → Nat → Option Nat} {P : Option Value → PH → Prop}
set_option maxRecDepth 100000 in
theorem c_take {b : Nat → Nat} {τ : Nat → Nat → Nat} {w : Nat → Nat → Int32} {a C : Nat} (hQ : QA Q τ) (hH : HQ Q b) (hA : HS I b τ w (a + 1)) (hTC : C = 1 ∨ C = 21 ∨ C = 41) (h1 : ∀ I', TH I' C (τ C) (w a) → HS I' b τ w a → (∀ p, p ≠ 61 → (p < C ∨ C + 20 ≤ p) → I' p = I p) → P none (SC L, I', Q)) : Runs l 2 [.ref 61, .ref C] (SC L, I, Q) P := by
  obtain ⟨hq0, hq1, hq2⟩ := hH
  obtain ⟨e1, ha, hw⟩ := hA
  have hCB : TB C := by rcases hTC with rfl | rfl | rfl <;> unfold TB <;> omega
  have hC61 : C + 20 ≤ 61 := by omega
  have hbt : ∀ i, i < 4 → TB (b i) := fun i hi => (hq1 i hi).2.tb
  have ba := (hq1 a (by omega)).2.bd
  have hz0 : TH (uR I 61 (upd (I 61) 1 (nI a))) (b a) (τ (b a)) (w a) := (hw a (by omega)).fr (hQ _ (hbt a (by omega))).2.2.1 (fun p h1 h2 => uR_n _ _ (by omega))
  obtain ⟨n, m, k, hC, hM, hL⟩ := hz0
  have hW : ∀ i, i < n → TxW (w a) i := fun i hi => (hM.2.1 i hi).1
  refine run0 (n := 0) mok_2 ⟨rfl, rfl⟩ rfl ?_
  have e0 : (nI (a + 1) = 0) = False := by rw [show (0 : Int32) = nI 0 from rfl]; exact eqF (by omega) (by omega) (by omega)
  refine wk ((fn0_ok l)) ok_2 40 (fun pc => false) ?_
  simp only [fn0, kk_2, Option.toList_some, Option.toList_none, ex, catS, vC, isMk, sym, popN, goC, callOK, swL, List.map_cons, List.map_nil, List.replicate_zero, List.replicate_succ, List.append_nil, List.nil_append, List.cons_append, List.getElem?_cons_zero, List.getElem?_cons_succ, List.set_cons_zero, List.set_cons_succ, List.length_cons, List.length_nil, List.head?_cons, Nat.reduceAdd, Nat.reduceLT, Nat.reduceLeDiff, Nat.reduceBEq, Nat.reduceEqDiff, Nat.succ_ne_zero, Nat.zero_lt_succ, Nat.le_refl, sc_rows, kc_lit, nc_lit, wlk_rows, uR_s, uR_uR, true_and, and_true, true_or, or_true, false_or, or_false, and_false, false_and, or_self, and_self, if_true, if_false, Bool.false_eq_true, Bool.or_false, Bool.or_true, Bool.false_or, Bool.true_or, not_true_eq_false, not_false_eq_true, forall_const, true_implies, false_implies, implies_true, reduceIte, reduceCtorEq, kH L, e1, e0, hq0, (nI_dn (show 0 < a + 1 by omega)).2, Nat.add_sub_cancel, upd_e, ixp (show a < 4 by omega) (by omega), (hq1 a (by omega)).1, tbk (hbt a (by omega)), tbx (hbt a (by omega)), tbk hCB, tbx hCB]
  refine c_copyTown hCB (hbt a (by omega)) (by omega) (hQ _ hCB).1 (hQ _ (hbt a (by omega))).1 (hQ _ hCB).2 (hQ _ (hbt a (by omega))).2 hC hW hM.n.2 hL.2.2.2.2.2.2.2 hM.2.2.2.2.1 (fun I' hC2 hF => ?_)
  refine wk ((fn0_ok l)) ok_2 40 (fun pc => false) ?_
  simp only [fn0, kk_2, Option.toList_some, Option.toList_none, ex, catS, vC, isMk, sym, popN, goC, callOK, swL, List.map_cons, List.map_nil, List.replicate_zero, List.replicate_succ, List.append_nil, List.nil_append, List.cons_append, List.getElem?_cons_zero, List.getElem?_cons_succ, List.set_cons_zero, List.set_cons_succ, List.length_cons, List.length_nil, List.head?_cons, Nat.reduceAdd, Nat.reduceLT, Nat.reduceLeDiff, Nat.reduceBEq, Nat.reduceEqDiff, Nat.succ_ne_zero, Nat.zero_lt_succ, Nat.le_refl, sc_rows, kc_lit, nc_lit, wlk_rows, uR_s, uR_uR, true_and, and_true, true_or, or_true, false_or, or_false, and_false, false_and, or_self, and_self, if_true, if_false, Bool.false_eq_true, Bool.or_false, Bool.or_true, Bool.false_or, Bool.true_or, not_true_eq_false, not_false_eq_true, forall_const, true_implies, false_implies, implies_true, reduceIte, reduceCtorEq]
  refine h1 I' ⟨n, m, k, hC2, hM, hL⟩ ⟨?_, by omega, fun i hi => ?_⟩ (fun p hp h2 => ?_)
  · rw [hF 61 (by omega), uR_s, upd_e]
  · have bi := (hq1 i (by omega)).2.bd
    refine (hw i (by omega)).fr (hQ _ (hbt i (by omega))).2.2.1 (fun p h1 h2 => ?_)
    rw [hF p (by omega), uR_n _ _ (by omega)]
  · rw [hF p h2, uR_n _ _ hp]
set_option maxRecDepth 100000 in
theorem c_take0 {b : Nat → Nat} {τ : Nat → Nat → Nat} {w : Nat → Nat → Int32} {C : Nat} (hA : HS I b τ w 0) (h1 : P none (SC L, I, Q)) : Runs l 2 [.ref 61, .ref C] (SC L, I, Q) P := by
  have e1 : I 61 1 = 0 := hA.1
  refine run0 (n := 0) mok_2 ⟨rfl, rfl⟩ rfl ?_
  refine wk ((fn0_ok l)) ok_2 40 (fun pc => false) ?_
  simp only [fn0, kk_2, Option.toList_some, Option.toList_none, ex, catS, vC, isMk, sym, popN, goC, callOK, swL, List.map_cons, List.map_nil, List.replicate_zero, List.replicate_succ, List.append_nil, List.nil_append, List.cons_append, List.getElem?_cons_zero, List.getElem?_cons_succ, List.set_cons_zero, List.set_cons_succ, List.length_cons, List.length_nil, List.head?_cons, Nat.reduceAdd, Nat.reduceLT, Nat.reduceLeDiff, Nat.reduceBEq, Nat.reduceEqDiff, Nat.succ_ne_zero, Nat.zero_lt_succ, Nat.le_refl, sc_rows, kc_lit, nc_lit, wlk_rows, uR_s, uR_uR, true_and, and_true, true_or, or_true, false_or, or_false, and_false, false_and, or_self, and_self, if_true, if_false, Bool.false_eq_true, Bool.or_false, Bool.or_true, Bool.false_or, Bool.true_or, not_true_eq_false, not_false_eq_true, forall_const, true_implies, false_implies, implies_true, reduceIte, reduceCtorEq, kH L, e1]
  exact h1
theorem va_cpy_0 (f g : Nat → Int32) (s d : Nat) : va_cpy f g s d 0 = g := by
  funext j
  simp only [va_cpy]
  rw [if_neg (by omega)]
theorem va_cpy_step (f g : Nat → Int32) (s d n : Nat) : upd (va_cpy f g s d n) (d + n) (f (s + n)) = va_cpy f g s d (n + 1) := by
  funext j
  simp only [upd, va_cpy]
  by_cases e : j = d + n
  · rw [if_pos e, if_pos (by omega), show s + (j - d) = s + n by omega]
  · rw [if_neg e]
    by_cases h : d ≤ j ∧ j < d + n
    · rw [if_pos h, if_pos (by omega)]
    · rw [if_neg h, if_neg (by omega)]
end D6

