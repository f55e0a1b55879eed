/-! the law: its loop -/
section L10
variable {l : Launch} {L : Nat} {P : Option Value → PH → Prop}
theorem nI_up4 (k : Nat) : nI k + 4 = nI (k + 4) := by rw [show (4 : Int32) = nI 4 from rfl, nI_add]
set_option maxRecDepth 100000 in
theorem law_next {I : Nat → Nat → Int32} {Q : Nat → Nat → Option Nat} {i : Nat} (h : LB l L I Q P (i + 4) 18) : LB l L I Q P i 718 := by
  unfold LB at *
  refine wk ((fn0_ok l)) ok_151 5 (fun pc => pc == 18) ?_
  simp only [fn0, kk_151, Option.toList_some, Option.toList_none, ex, sym, popN, goC, callOK, swL, List.map_cons, List.map_nil, List.replicate_zero, List.replicate_succ, List.append_nil, List.nil_append, List.cons_append, List.getElem?_cons_zero, List.getElem?_cons_succ, List.set_cons_zero, List.set_cons_succ, List.length_cons, List.length_nil, List.head?_cons, Nat.reduceAdd, Nat.reduceLT, Nat.reduceLeDiff, Nat.reduceBEq, Nat.reduceEqDiff, Nat.succ_ne_zero, Nat.zero_lt_succ, Nat.le_refl, sc_rows, kc_lit, nc_lit, wlk_rows, uR_s, uR_uR, true_and, and_true, true_or, or_true, false_or, or_false, and_false, false_and, or_self, and_self, if_true, if_false, Bool.false_eq_true, Bool.or_false, Bool.or_true, Bool.false_or, Bool.true_or, not_true_eq_false, not_false_eq_true, forall_const, true_implies, false_implies, implies_true, reduceIte, reduceCtorEq, nI_up4]
  exact h
set_option maxRecDepth 100000 in
theorem law_out (hL : L ≤ 2048) {I : Nat → Nat → Int32} {Q : Nat → Nat → Option Nat} {i : Nat} (hi : i ≤ L) (ho : L < i + 4) (hP : P (some (.int 1)) (SC L, I, Q)) : LB l L I Q P i 18 := by
  unfold LB
  have e4 : (nI L - 4 < nI i) = True := by rw [len4 hL (by omega)]; exact eq_true (by omega)
  have el : Int32.ofNat L = nI L := rfl
  refine wk ((fn0_ok l)) ok_151 12 (fun pc => pc == 26) ?_
  simp only [fn0, kk_151, Option.toList_some, Option.toList_none, ex, sym, popN, goC, callOK, swL, List.map_cons, List.map_nil, List.replicate_zero, List.replicate_succ, List.append_nil, List.nil_append, List.cons_append, List.getElem?_cons_zero, List.getElem?_cons_succ, List.set_cons_zero, List.set_cons_succ, List.length_cons, List.length_nil, List.head?_cons, Nat.reduceAdd, Nat.reduceLT, Nat.reduceLeDiff, Nat.reduceBEq, Nat.reduceEqDiff, Nat.succ_ne_zero, Nat.zero_lt_succ, Nat.le_refl, sc_rows, kc_lit, nc_lit, wlk_rows, uR_s, uR_uR, true_and, and_true, true_or, or_true, false_or, or_false, and_false, false_and, or_self, and_self, if_true, if_false, Bool.false_eq_true, Bool.or_false, Bool.or_true, Bool.false_or, Bool.true_or, not_true_eq_false, not_false_eq_true, forall_const, true_implies, false_implies, implies_true, reduceIte, reduceCtorEq, kS L, el, e4]
  exact hP
theorem law_loop (hL : L ≤ 2048) (hP : ∀ I Q, P (some (.int 1)) (SC L, I, Q)) : ∀ (n i bd : Nat) (I : Nat → Nat → Int32) (Q : Nat → Nat → Option Nat), L < i + 4 * n + 4 → i ≤ L → bd + 20 * n ≤ 1000000 → GI I Q bd → LB l L I Q P i 18 := by
  intro n
  induction n with
  | zero => intro i bd I Q h1 h2 h3 g; exact law_out hL h2 (by omega) (hP I Q)
  | succ n ih =>
    intro i bd I Q h1 h2 h3 g
    by_cases h : i + 4 ≤ L
    · have hbd : bd + 20 ≤ 1000000 := by omega
      have nx : ∀ I2 Q2, GI I2 Q2 (bd + 20) → LB l L I2 Q2 P i 718 := fun I2 Q2 g2 => law_next (ih (i + 4) (bd + 20) I2 Q2 (by omega) h (by omega) g2)
      exact law_sw hL h (law_c0 g hbd hL h (fun I2 Q2 g2 _ => nx I2 Q2 g2)) (law_c1 g hbd hL h (fun I2 Q2 g2 _ => nx I2 Q2 g2)) (law_c2 g hbd hL h (fun I2 Q2 g2 _ => nx I2 Q2 g2)) (law_c3 g hbd hL h (fun I2 Q2 g2 _ => nx I2 Q2 g2)) (law_c4 g hbd hL h (fun I2 Q2 g2 _ => nx I2 Q2 g2)) (law_c5 g hbd hL h (fun I2 Q2 g2 _ => nx I2 Q2 g2)) (law_c6 g hbd hL h (fun I2 Q2 g2 _ => nx I2 Q2 g2)) (law_c7 g hbd hL h (fun I2 Q2 g2 _ => nx I2 Q2 g2)) (law_c8 g hbd hL h (fun I2 Q2 g2 _ => nx I2 Q2 g2)) (law_c9 g hbd hL h (fun I2 Q2 g2 _ => nx I2 Q2 g2)) (law_c10 g hbd hL h (fun I2 Q2 g2 _ => nx I2 Q2 g2)) (law_c11 g hbd hL h (fun I2 Q2 g2 _ => nx I2 Q2 g2)) (law_c12 g hbd hL h (fun I2 Q2 g2 _ => nx I2 Q2 g2)) (law_c13 g hbd hL h (fun I2 Q2 g2 _ => nx I2 Q2 g2)) (law_c14 g hbd hL h (fun I2 Q2 g2 _ => nx I2 Q2 g2)) (law_c15 g hbd hL h (fun I2 Q2 g2 _ => nx I2 Q2 g2)) (law_c16 g hbd hL h (fun I2 Q2 g2 _ => nx I2 Q2 g2)) (law_c17 g hbd hL h (fun I2 Q2 g2 _ => nx I2 Q2 g2)) (law_c18 g hbd hL h (fun I2 Q2 g2 _ => nx I2 Q2 g2)) (law_c19 g hbd hL h (fun I2 Q2 g2 _ => nx I2 Q2 g2)) (law_c20 g hbd hL h (fun I2 Q2 g2 _ => nx I2 Q2 g2)) (law_c21 g hbd hL h (fun I2 Q2 g2 _ => nx I2 Q2 g2)) (law_c22 g hbd hL h (fun I2 Q2 g2 _ => nx I2 Q2 g2)) (law_c23 g hbd hL h (fun I2 Q2 g2 _ => nx I2 Q2 g2)) (nx I Q (g.mono (by omega)))
    · exact law_out hL h2 (by omega) (hP I Q)
end L10
