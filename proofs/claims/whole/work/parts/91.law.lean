/-! the law: the loop -/
section L7
variable {l : Launch} {L : Nat} {I : Nat → Nat → Int32} {Q : Nat → Nat → Option Nat} {P : Option Value → PH → Prop} {bd : Nat}
theorem kS (L : Nat) : KC 1003 = 11 ∧ NC L 1003 = L := ⟨rfl, rfl⟩
theorem len4 {L i : Nat} (hL : L ≤ 2048) (hi : i ≤ 2048) : (nI L - 4 < nI i) = (L < i + 4) := by
  have a := nI_toInt (n := L) (by omega)
  have b := nI_toInt (n := i) (by omega)
  simp only [eq_iff_iff, Int32.lt_iff_toInt_lt, Int32.toInt_sub, a, b]
  rw [show (4 : Int32).toInt = 4 from rfl]
  rw [Int.bmod_eq_of_le (by omega) (by omega)]
  omega
set_option maxRecDepth 100000 in
theorem law_body {i : Nat} (hL : L ≤ 2048) (hi : i + 4 ≤ L) {v : Int32} (hv : I 1003 i &&& 31 = v) : Sy l 151 (156, 3525) 18 [some (.ref 1003), some (.ref 0), some (.ref 149), some (.int (nI i))] [] (SC L, I, Q) P := by
  have e4 : (nI L - 4 < nI i) = False := by rw [len4 hL (by omega)]; exact eq_false (by omega)
  have ii : vp_in (nI i) L ∧ (nI i).toNatClampNeg = i := ixp (by omega) (by omega)
  refine wk ((fn0_ok l)) ok_151 20 (fun pc => pc == 144 || pc == 167 || pc == 190 || pc == 724) ?_
  simp only [fn0, kk_151, Option.toList_some, Option.toList_none, ex, sym, popN, goC, callOK, swL, List.map_cons, List.map_nil, List.replicate_zero, List.replicate_succ, List.append_nil, List.nil_append, List.cons_append, List.getElem?_cons_zero, List.getElem?_cons_succ, List.set_cons_zero, List.set_cons_succ, List.length_cons, List.length_nil, List.head?_cons, Nat.reduceAdd, Nat.reduceLT, Nat.reduceLeDiff, Nat.reduceBEq, Nat.reduceEqDiff, Nat.succ_ne_zero, Nat.zero_lt_succ, Nat.le_refl, sc_rows, kc_lit, nc_lit, wlk_rows, uR_s, uR_uR, true_and, and_true, true_or, or_true, false_or, or_false, and_false, false_and, or_self, and_self, if_true, if_false, Bool.false_eq_true, Bool.or_false, Bool.or_true, Bool.false_or, Bool.true_or, not_true_eq_false, not_false_eq_true, forall_const, true_implies, false_implies, implies_true, reduceIte, reduceCtorEq, kS L, e4, ii, hv]
  done
end L7
