/-! the class: taking a state back; the reference: copying a state -/
section D6
variable {l : Launch} {L : Nat} {I : Nat → Nat → Int32} {Q : Nat → Nat → Option Nat} {P : Option Value → PH → Prop}
set_option maxRecDepth 100000 in
theorem c_take {b : Nat → Nat} {τ : Nat → Nat → Nat} {w : Nat → Nat → Int32} {a C : Nat} (hQ : QA Q τ) (hH : HQ Q b) (hA : HS I b τ w (a + 1)) (hTC : C = 1 ∨ C = 21 ∨ C = 41) (h1 : ∀ I', TH I' C (τ C) (w a) → HS I' b τ w a → (∀ p, p ≠ 61 → (p < C ∨ C + 20 ≤ p) → I' p = I p) → P none (SC L, I', Q)) : Runs l 2 [.ref 61, .ref C] (SC L, I, Q) P := by
  obtain ⟨hq0, hq1, hq2⟩ := hH
  obtain ⟨e1, ha, hw⟩ := hA
  have hCB : TB C := by rcases hTC with rfl | rfl | rfl <;> unfold TB <;> omega
  have hC61 : C + 20 ≤ 61 := by omega
  have hbt : ∀ i, i < 4 → TB (b i) := fun i hi => (hq1 i hi).2.tb
  have ba := (hq1 a (by omega)).2.bd
  have hz0 : TH (uR I 61 (upd (I 61) 1 (nI a))) (b a) (τ (b a)) (w a) := (hw a (by omega)).fr (hQ _ (hbt a (by omega))).2.2.1 (fun p h1 h2 => uR_n _ _ (by omega))
  obtain ⟨n, m, k, hC, hM, hL⟩ := hz0
  have hW : ∀ i, i < n → TxW (w a) i := fun i hi => (hM.2.1 i hi).1
  refine run0 (n := 0) mok_2 ⟨rfl, rfl⟩ rfl ?_
  have e0 : (nI (a + 1) = 0) = False := by rw [show (0 : Int32) = nI 0 from rfl]; exact eqF (by omega) (by omega) (by omega)
  refine wk ((fn0_ok l)) ok_2 40 (fun pc => false) ?_
  simp only [fn0, kk_2, Option.toList_some, Option.toList_none, ex, sym, popN, goC, callOK, swL, List.map_cons, List.map_nil, List.replicate_zero, List.replicate_succ, List.append_nil, List.nil_append, List.cons_append, List.getElem?_cons_zero, List.getElem?_cons_succ, List.set_cons_zero, List.set_cons_succ, List.length_cons, List.length_nil, List.head?_cons, Nat.reduceAdd, Nat.reduceLT, Nat.reduceLeDiff, Nat.reduceBEq, Nat.reduceEqDiff, Nat.succ_ne_zero, Nat.zero_lt_succ, Nat.le_refl, sc_rows, kc_lit, nc_lit, wlk_rows, uR_s, uR_uR, true_and, and_true, true_or, or_true, false_or, or_false, and_false, false_and, or_self, and_self, if_true, if_false, Bool.false_eq_true, Bool.or_false, Bool.or_true, Bool.false_or, Bool.true_or, not_true_eq_false, not_false_eq_true, forall_const, true_implies, false_implies, implies_true, reduceIte, reduceCtorEq, kH L, e1, e0, hq0, (nI_dn (show 0 < a + 1 by omega)).2, Nat.add_sub_cancel, upd_e, ixp (show a < 4 by omega) (by omega), (hq1 a (by omega)).1, tbk (hbt a (by omega)), tbx (hbt a (by omega)), tbk hCB, tbx hCB]
  refine c_copyTown hCB (hbt a (by omega)) (by omega) (hQ _ hCB).1 (hQ _ (hbt a (by omega))).1 (hQ _ hCB).2 (hQ _ (hbt a (by omega))).2 hC hW hM.n.2 hL.2.2.2.2.2.2.2 hM.2.2.2.2.1 (fun I' hC2 hF => ?_)
  refine wk ((fn0_ok l)) ok_2 40 (fun pc => false) ?_
  simp only [fn0, kk_2, Option.toList_some, Option.toList_none, ex, sym, popN, goC, callOK, swL, List.map_cons, List.map_nil, List.replicate_zero, List.replicate_succ, List.append_nil, List.nil_append, List.cons_append, List.getElem?_cons_zero, List.getElem?_cons_succ, List.set_cons_zero, List.set_cons_succ, List.length_cons, List.length_nil, List.head?_cons, Nat.reduceAdd, Nat.reduceLT, Nat.reduceLeDiff, Nat.reduceBEq, Nat.reduceEqDiff, Nat.succ_ne_zero, Nat.zero_lt_succ, Nat.le_refl, sc_rows, kc_lit, nc_lit, wlk_rows, uR_s, uR_uR, true_and, and_true, true_or, or_true, false_or, or_false, and_false, false_and, or_self, and_self, if_true, if_false, Bool.false_eq_true, Bool.or_false, Bool.or_true, Bool.false_or, Bool.true_or, not_true_eq_false, not_false_eq_true, forall_const, true_implies, false_implies, implies_true, reduceIte, reduceCtorEq]
  refine h1 I' ⟨n, m, k, hC2, hM, hL⟩ ⟨?_, by omega, fun i hi => ?_⟩ (fun p hp h2 => ?_)
  · rw [hF 61 (by omega), uR_s, upd_e]
  · have bi := (hq1 i (by omega)).2.bd
    refine (hw i (by omega)).fr (hQ _ (hbt i (by omega))).2.2.1 (fun p h1 h2 => ?_)
    rw [hF p (by omega), uR_n _ _ (by omega)]
  · rw [hF p h2, uR_n _ _ hp]
set_option maxRecDepth 100000 in
theorem c_take0 {b : Nat → Nat} {τ : Nat → Nat → Nat} {w : Nat → Nat → Int32} {C : Nat} (hA : HS I b τ w 0) (h1 : P none (SC L, I, Q)) : Runs l 2 [.ref 61, .ref C] (SC L, I, Q) P := by
  have e1 : I 61 1 = 0 := hA.1
  refine run0 (n := 0) mok_2 ⟨rfl, rfl⟩ rfl ?_
  refine wk ((fn0_ok l)) ok_2 40 (fun pc => false) ?_
  simp only [fn0, kk_2, Option.toList_some, Option.toList_none, ex, sym, popN, goC, callOK, swL, List.map_cons, List.map_nil, List.replicate_zero, List.replicate_succ, List.append_nil, List.nil_append, List.cons_append, List.getElem?_cons_zero, List.getElem?_cons_succ, List.set_cons_zero, List.set_cons_succ, List.length_cons, List.length_nil, List.head?_cons, Nat.reduceAdd, Nat.reduceLT, Nat.reduceLeDiff, Nat.reduceBEq, Nat.reduceEqDiff, Nat.succ_ne_zero, Nat.zero_lt_succ, Nat.le_refl, sc_rows, kc_lit, nc_lit, wlk_rows, uR_s, uR_uR, true_and, and_true, true_or, or_true, false_or, or_false, and_false, false_and, or_self, and_self, if_true, if_false, Bool.false_eq_true, Bool.or_false, Bool.or_true, Bool.false_or, Bool.true_or, not_true_eq_false, not_false_eq_true, forall_const, true_implies, false_implies, implies_true, reduceIte, reduceCtorEq, kH L, e1]
  exact h1
theorem va_cpy_0 (f g : Nat → Int32) (s d : Nat) : va_cpy f g s d 0 = g := by
  funext j
  simp only [va_cpy]
  rw [if_neg (by omega)]
theorem va_cpy_step (f g : Nat → Int32) (s d n : Nat) : upd (va_cpy f g s d n) (d + n) (f (s + n)) = va_cpy f g s d (n + 1) := by
  funext j
  simp only [upd, va_cpy]
  by_cases e : j = d + n
  · rw [if_pos e, if_pos (by omega), show s + (j - d) = s + n by omega]
  · rw [if_neg e]
    by_cases h : d ≤ j ∧ j < d + n
    · rw [if_pos h, if_pos (by omega)]
    · rw [if_neg h, if_neg (by omega)]
set_option maxRecDepth 100000 in
theorem r_copyState {p q s d : Nat} (hp : KC p = 7 ∧ p < 156) (hq : KC q = 7 ∧ q < 156) (hne : p ≠ q) (hs : s + 228 ≤ NC L p) (hd : d + 228 ≤ NC L q) (hs2 : NC L p < 1000) (hd2 : NC L q < 1000) (h1 : P none (SC L, uR I q (va_cpy (I p) (I q) s d 228), Q)) : Runs l 90 [.ref p, .int (nI s), .ref q, .int (nI d)] (SC L, I, Q) P := by
  have loop : ∀ c i, i + c = 228 → Sy l 90 (156, 3525) 3 [some (.ref p), some (.int (nI s)), some (.ref q), some (.int (nI d)), some (.int (nI i))] [] (SC L, uR I q (va_cpy (I p) (I q) s d i), Q) P := by
    intro c
    induction c with
    | zero =>
      intro i hi
      have : i = 228 := by omega
      subst this
      refine wk ((fn0_ok l)) ok_90 30 (fun pc => pc == 3) ?_
      simp only [fn0, kk_90, Option.toList_some, Option.toList_none, ex, sym, popN, goC, callOK, swL, List.map_cons, List.map_nil, List.replicate_zero, List.replicate_succ, List.append_nil, List.nil_append, List.cons_append, List.getElem?_cons_zero, List.getElem?_cons_succ, List.set_cons_zero, List.set_cons_succ, List.length_cons, List.length_nil, List.head?_cons, Nat.reduceAdd, Nat.reduceLT, Nat.reduceLeDiff, Nat.reduceBEq, Nat.reduceEqDiff, Nat.succ_ne_zero, Nat.zero_lt_succ, Nat.le_refl, sc_rows, kc_lit, nc_lit, wlk_rows, uR_s, uR_uR, true_and, and_true, true_or, or_true, false_or, or_false, and_false, false_and, or_self, and_self, if_true, if_false, Bool.false_eq_true, Bool.or_false, Bool.or_true, Bool.false_or, Bool.true_or, not_true_eq_false, not_false_eq_true, forall_const, true_implies, false_implies, implies_true, reduceIte, reduceCtorEq, show nI 228 = (228 : Int32) from rfl, Int32.le_refl]
      exact h1
    | succ c ih =>
      intro i hi
      have := ih (i + 1) (by omega)
      rw [← va_cpy_step] at this
      have e228 : ((228 : Int32) ≤ nI i) = False := by rw [show (228 : Int32) = nI 228 from rfl]; exact leF (by omega) (by omega)
      have eu : ∀ g : Nat → Int32, uR I q g p = I p := fun g => uR_n _ _ hne
      refine wk ((fn0_ok l)) ok_90 30 (fun pc => pc == 3) ?_
      simp only [fn0, kk_90, Option.toList_some, Option.toList_none, ex, sym, popN, goC, callOK, swL, List.map_cons, List.map_nil, List.replicate_zero, List.replicate_succ, List.append_nil, List.nil_append, List.cons_append, List.getElem?_cons_zero, List.getElem?_cons_succ, List.set_cons_zero, List.set_cons_succ, List.length_cons, List.length_nil, List.head?_cons, Nat.reduceAdd, Nat.reduceLT, Nat.reduceLeDiff, Nat.reduceBEq, Nat.reduceEqDiff, Nat.succ_ne_zero, Nat.zero_lt_succ, Nat.le_refl, sc_rows, kc_lit, nc_lit, wlk_rows, uR_s, uR_uR, true_and, and_true, true_or, or_true, false_or, or_false, and_false, false_and, or_self, and_self, if_true, if_false, Bool.false_eq_true, Bool.or_false, Bool.or_true, Bool.false_or, Bool.true_or, not_true_eq_false, not_false_eq_true, forall_const, true_implies, false_implies, implies_true, reduceIte, reduceCtorEq, hp, hq, e228, nI_add, eu, ixp (show s + i < NC L p by omega) (by omega), ixp (show d + i < NC L q by omega) (by omega), nI_up]
      exact this
  refine run0 (n := 1) mok_90 ⟨rfl, rfl⟩ rfl ?_
  refine wk ((fn0_ok l)) ok_90 30 (fun pc => pc == 3) ?_
  simp only [fn0, kk_90, Option.toList_some, Option.toList_none, ex, sym, popN, goC, callOK, swL, List.map_cons, List.map_nil, List.replicate_zero, List.replicate_succ, List.append_nil, List.nil_append, List.cons_append, List.getElem?_cons_zero, List.getElem?_cons_succ, List.set_cons_zero, List.set_cons_succ, List.length_cons, List.length_nil, List.head?_cons, Nat.reduceAdd, Nat.reduceLT, Nat.reduceLeDiff, Nat.reduceBEq, Nat.reduceEqDiff, Nat.succ_ne_zero, Nat.zero_lt_succ, Nat.le_refl, sc_rows, kc_lit, nc_lit, wlk_rows, uR_s, uR_uR, true_and, and_true, true_or, or_true, false_or, or_false, and_false, false_and, or_self, and_self, if_true, if_false, Bool.false_eq_true, Bool.or_false, Bool.or_true, Bool.false_or, Bool.true_or, not_true_eq_false, not_false_eq_true, forall_const, true_implies, false_implies, implies_true, reduceIte, reduceCtorEq]
  have := loop 228 0 (by omega)
  rw [va_cpy_0, uR_self] at this
  exact this
end D6
