/-! the law: a case -/
section L9
variable {l : Launch} {L : Nat} {I : Nat → Nat → Int32} {Q : Nat → Nat → Option Nat} {P : Option Value → PH → Prop} {i bd : Nat}
set_option maxRecDepth 100000 in
theorem law_c0 (g : GI I Q bd) (hbd : bd + 20 ≤ 1000000) (hL : L ≤ 2048) (hi : i + 4 ≤ L) (next : ∀ I2 Q2, GI I2 Q2 (bd + 20) → (∀ p, 1000 ≤ p → I2 p = I p) → LB l L I2 Q2 P i 718) : LB l L I Q P i 144 := by
  unfold LB at *
  have i1 : vp_in (nI (i + 1)) L ∧ (nI (i + 1)).toNatClampNeg = i + 1 := ixp (by omega) (by omega)
  refine wk ((fn0_ok l)) ok_151 10 (fun pc => false) ?_
  simp only [fn0, kk_151, Option.toList_some, Option.toList_none, ex, sym, popN, goC, callOK, swL, List.map_cons, List.map_nil, List.replicate_zero, List.replicate_succ, List.append_nil, List.nil_append, List.cons_append, List.getElem?_cons_zero, List.getElem?_cons_succ, List.set_cons_zero, List.set_cons_succ, List.length_cons, List.length_nil, List.head?_cons, Nat.reduceAdd, Nat.reduceLT, Nat.reduceLeDiff, Nat.reduceBEq, Nat.reduceEqDiff, Nat.succ_ne_zero, Nat.zero_lt_succ, Nat.le_refl, sc_rows, kc_lit, nc_lit, wlk_rows, uR_s, uR_uR, true_and, and_true, true_or, or_true, false_or, or_false, and_false, false_and, or_self, and_self, if_true, if_false, Bool.false_eq_true, Bool.or_false, Bool.or_true, Bool.false_or, Bool.true_or, not_true_eq_false, not_false_eq_true, forall_const, true_implies, false_implies, implies_true, reduceIte, reduceCtorEq, kS L, nI_up, i1]
  refine Runs.mono (s_come g hbd _) (fun v h q => ?_)
  obtain ⟨x, I1, Q1, rfl, rfl, f1, r⟩ := q
  have e3 : I1 1003 = I 1003 := f1 1003 (by omega)
  refine wk ((fn0_ok l)) ok_151 10 (fun pc => false) ?_
  simp only [fn0, kk_151, Option.toList_some, Option.toList_none, ex, sym, popN, goC, callOK, swL, List.map_cons, List.map_nil, List.replicate_zero, List.replicate_succ, List.append_nil, List.nil_append, List.cons_append, List.getElem?_cons_zero, List.getElem?_cons_succ, List.set_cons_zero, List.set_cons_succ, List.length_cons, List.length_nil, List.head?_cons, Nat.reduceAdd, Nat.reduceLT, Nat.reduceLeDiff, Nat.reduceBEq, Nat.reduceEqDiff, Nat.succ_ne_zero, Nat.zero_lt_succ, Nat.le_refl, sc_rows, kc_lit, nc_lit, wlk_rows, uR_s, uR_uR, true_and, and_true, true_or, or_true, false_or, or_false, and_false, false_and, or_self, and_self, if_true, if_false, Bool.false_eq_true, Bool.or_false, Bool.or_true, Bool.false_or, Bool.true_or, not_true_eq_false, not_false_eq_true, forall_const, true_implies, false_implies, implies_true, reduceIte, reduceCtorEq, kS L, nI_up, i1, e3]
  refine Runs.mono r (fun v h q => ?_)
  obtain ⟨I2, Q2, rfl, rfl, g2, f2⟩ := q
  refine wk ((fn0_ok l)) ok_151 10 (fun pc => pc == 718 || pc == 165) ?_
  simp only [fn0, kk_151, Option.toList_some, Option.toList_none, ex, sym, popN, goC, callOK, swL, List.map_cons, List.map_nil, List.replicate_zero, List.replicate_succ, List.append_nil, List.nil_append, List.cons_append, List.getElem?_cons_zero, List.getElem?_cons_succ, List.set_cons_zero, List.set_cons_succ, List.length_cons, List.length_nil, List.head?_cons, Nat.reduceAdd, Nat.reduceLT, Nat.reduceLeDiff, Nat.reduceBEq, Nat.reduceEqDiff, Nat.succ_ne_zero, Nat.zero_lt_succ, Nat.le_refl, sc_rows, kc_lit, nc_lit, wlk_rows, uR_s, uR_uR, true_and, and_true, true_or, or_true, false_or, or_false, and_false, false_and, or_self, and_self, if_true, if_false, Bool.false_eq_true, Bool.or_false, Bool.or_true, Bool.false_or, Bool.true_or, not_true_eq_false, not_false_eq_true, forall_const, true_implies, false_implies, implies_true, reduceIte, reduceCtorEq]
  exact next I2 Q2 g2 f2
end L9
