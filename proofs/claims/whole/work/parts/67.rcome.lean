/-! a taxi that comes: the reference -/
section F2
variable {l : Launch} {L : Nat} {I : Nat → Nat → Int32} {Q : Nat → Nat → Option Nat} {P : Option Value → PH → Prop} {z : Nat → Int32} {n m k : Nat}
/-- a block on its way: the first k of block a are block a - 1's already -/
def shK (z : Nat → Int32) (a n k : Nat) : Nat → Int32 := fun j => if 72 + 13 * (a + 1) ≤ j ∧ j < 72 + 13 * (a + 1) + k then z (j - 13) else shI z (a + 1) n j
theorem shK_0 (z : Nat → Int32) (a n : Nat) : shK z a n 0 = shI z (a + 1) n := by
  funext j
  simp only [shK]
  rw [if_neg (by omega)]
theorem shK_13 (z : Nat → Int32) {a n : Nat} (h : a < n) : shK z a n 13 = shI z a n := by
  funext j
  simp only [shK, shI]
  by_cases h1 : 72 + 13 * (a + 1) ≤ j ∧ j < 72 + 13 * (a + 1) + 13
  · rw [if_pos h1, if_pos (by omega)]
  · rw [if_neg h1]
    by_cases h2 : 72 + 13 * (a + 1 + 1) ≤ j ∧ j < 72 + 13 * (n + 1)
    · rw [if_pos h2, if_pos (by omega)]
    · rw [if_neg h2, if_neg (by omega)]
theorem shK_step (z : Nat → Int32) {a n k : Nat} (hk : k < 13) : upd (shK z a n k) (tp (a + 1) k) (shK z a n k (tp a k)) = shK z a n (k + 1) := by
  have e : shK z a n k (tp a k) = z (tp a k) := by
    simp only [shK, shI, tp]
    rw [if_neg (by omega), if_neg (by omega)]
  rw [e]
  funext j
  simp only [upd, shK, tp]
  by_cases h : j = 72 + 13 * (a + 1) + k
  · rw [if_pos h, if_pos (by omega)]
    exact congrArg z (by omega)
  · rw [if_neg h]
    by_cases h1 : 72 + 13 * (a + 1) ≤ j ∧ j < 72 + 13 * (a + 1) + k
    · rw [if_pos h1, if_pos (by omega)]
    · rw [if_neg h1, if_neg (by omega)]
theorem shI_n (z : Nat → Int32) (n : Nat) : shI z n n = z := by
  funext j
  simp only [shI]
  rw [if_neg (by omega)]
theorem zIn0_0 (z : Nat → Int32) (p : Int32) (q n : Nat) : zIn0 z p q n 0 = shI z q n := by
  funext j
  simp only [zIn0]
  rw [if_neg (by omega)]
theorem zIn0_step (z : Nat → Int32) (p : Int32) {q n k : Nat} (hk : k < 13) (v : Int32) (hv : v = if k = 0 then p else 0) : upd (zIn0 z p q n k) (tp q k) v = zIn0 z p q n (k + 1) := by
  funext j
  simp only [upd, zIn0, tp]
  by_cases h : j = 72 + 13 * q + k
  · rw [if_pos h, if_pos (by omega), hv]
    by_cases h0 : k = 0
    · rw [if_pos h0, if_pos (by omega)]
    · rw [if_neg h0, if_neg (by omega)]
  · rw [if_neg h]
    by_cases h1 : 72 + 13 * q ≤ j ∧ j < 72 + 13 * q + k
    · rw [if_pos h1, if_pos (show 72 + 13 * q ≤ j ∧ j < 72 + 13 * q + (k + 1) by omega)]
    · rw [if_neg h1, if_neg (by omega)]
set_option maxRecDepth 100000 in
theorem come_end (hQ : QM Q) {i : Nat} {p : Int32} {a3 : Option Value} (hX : LnX z n m i) (hi : i < n) (h1 : P (some (.int (nI m))) (SC L, uR I 150 (zWe1 z i m), Q)) : Sy l 114 (156, 3525) 168 [some (.ref 149), some (.int p), some (.int (nI i)), a3] [] (SC L, uR I 150 z, Q) P := by
  have hn := hX.2.1
  have hm : m < 12 := by have := hX.lt hi; omega
  refine wk (fn3_ok l L) ok_114 40 (fun pc => false) ?_
  simp only [fn3, kk_114, Option.toList_some, Option.toList_none, ex, sym, popN, goC, callOK, swL, List.map_cons, List.map_nil, List.replicate_zero, List.replicate_succ, List.append_nil, List.nil_append, List.cons_append, List.getElem?_cons_zero, List.getElem?_cons_succ, List.set_cons_zero, List.set_cons_succ, List.length_cons, List.length_nil, List.head?_cons, Nat.reduceAdd, Nat.reduceLT, Nat.reduceLeDiff, Nat.reduceBEq, Nat.reduceEqDiff, Nat.succ_ne_zero, Nat.zero_lt_succ, Nat.le_refl, sc_rows, kc_lit, nc_lit, wlk_rows, uR_s, uR_uR, true_and, and_true, true_or, or_true, false_or, or_false, and_false, false_and, or_self, and_self, if_true, if_false, Bool.false_eq_true, Bool.or_false, Bool.or_true, Bool.false_or, Bool.true_or, not_true_eq_false, not_false_eq_true, forall_const, true_implies, false_implies, implies_true, reduceIte, reduceCtorEq, hQ, hQ.1, smI (show i < 2147483648 by omega), show i < 12 by omega, upd_tpS, hX.2.2.1, fA_in, fA_size, fA_of, fA_lay, fA_tally, fA_waits, MOKh_eq, setZ_eq, ix_lit, in_lit, lt_lit, cl_lit, nz_lit, fn1, fn2, fA_stays, fA_tired, fA_begin, fA_fare, fA_place, fA_may]
  refine rz_standAt hQ (by rw [upd_tpS _ _ _ _ (by omega)]; exact hX.2.2.1) hm (by omega) (Nat.le_refl m) ?_
  have e12 : zStand (upd z (tp i 3) 0) i m m 12 = nI (m + 1) := zStand_12 _
  refine wk (fn3_ok l L) ok_114 40 (fun pc => false) ?_
  simp only [fn3, kk_114, Option.toList_some, Option.toList_none, ex, sym, popN, goC, callOK, swL, List.map_cons, List.map_nil, List.replicate_zero, List.replicate_succ, List.append_nil, List.nil_append, List.cons_append, List.getElem?_cons_zero, List.getElem?_cons_succ, List.set_cons_zero, List.set_cons_succ, List.length_cons, List.length_nil, List.head?_cons, Nat.reduceAdd, Nat.reduceLT, Nat.reduceLeDiff, Nat.reduceBEq, Nat.reduceEqDiff, Nat.succ_ne_zero, Nat.zero_lt_succ, Nat.le_refl, sc_rows, kc_lit, nc_lit, wlk_rows, uR_s, uR_uR, true_and, and_true, true_or, or_true, false_or, or_false, and_false, false_and, or_self, and_self, if_true, if_false, Bool.false_eq_true, Bool.or_false, Bool.or_true, Bool.false_or, Bool.true_or, not_true_eq_false, not_false_eq_true, forall_const, true_implies, false_implies, implies_true, reduceIte, reduceCtorEq, hQ, hQ.1, e12, (nI_dn (show 0 < m + 1 by omega)).2, Nat.add_sub_cancel, fA_in, fA_size, fA_of, fA_lay, fA_tally, fA_waits, MOKh_eq, setZ_eq, ix_lit, in_lit, lt_lit, cl_lit, nz_lit, fn1, fn2, fA_stays, fA_tired, fA_begin, fA_fare, fA_place, fA_may]
  exact h1
set_option maxRecDepth 100000 in
theorem come_ins (hQ : QM Q) (hL : Ln z n m) (hn : n < 12) {p : Int32} {a3 : Option Value} (h1 : ∀ a3, Sy l 114 (156, 3525) 168 [some (.ref 149), some (.int p), some (.int (nI (insAt z p n))), a3] [] (SC L, uR I 150 (zIns z p n), Q) P) : Sy l 114 (156, 3525) 70 [some (.ref 149), some (.int p), some (.int (-5)), a3] [] (SC L, uR I 150 z, Q) P := by
  have hqn := insAt_le z p n
  have e13 : nI 13 = (13 : Int32) := rfl
  have loop3 : ∀ d j, j + d = 13 → Sy l 114 (156, 3525) 130 [some (.ref 149), some (.int p), some (.int (nI (insAt z p n))), some (.int (nI j))] [] (SC L, uR I 150 (zIn0 z p (insAt z p n) n j), Q) P := by
    intro d
    induction d with
    | zero =>
      intro j hj
      have : j = 13 := by omega
      subst this
      have e11 : zIn0 z p (insAt z p n) n 13 11 = nI n := by
        simp only [zIn0, shI]
        rw [if_neg (by omega), if_neg (by omega)]
        exact hL.1
      refine wk (fn3_ok l L) ok_114 40 (fun pc => pc == 168 || pc == 136) ?_
      simp only [fn3, kk_114, Option.toList_some, Option.toList_none, ex, sym, popN, goC, callOK, swL, List.map_cons, List.map_nil, List.replicate_zero, List.replicate_succ, List.append_nil, List.nil_append, List.cons_append, List.getElem?_cons_zero, List.getElem?_cons_succ, List.set_cons_zero, List.set_cons_succ, List.length_cons, List.length_nil, List.head?_cons, Nat.reduceAdd, Nat.reduceLT, Nat.reduceLeDiff, Nat.reduceBEq, Nat.reduceEqDiff, Nat.succ_ne_zero, Nat.zero_lt_succ, Nat.le_refl, sc_rows, kc_lit, nc_lit, wlk_rows, uR_s, uR_uR, true_and, and_true, true_or, or_true, false_or, or_false, and_false, false_and, or_self, and_self, if_true, if_false, Bool.false_eq_true, Bool.or_false, Bool.or_true, Bool.false_or, Bool.true_or, not_true_eq_false, not_false_eq_true, forall_const, true_implies, false_implies, implies_true, reduceIte, reduceCtorEq, hQ.1, e13, Int32.le_refl, e11, nI_up, fA_in, fA_size, fA_of, fA_lay, fA_tally, fA_waits, MOKh_eq, setZ_eq, ix_lit, in_lit, lt_lit, cl_lit, nz_lit, fn1, fn2, fA_stays, fA_tired, fA_begin, fA_fare, fA_place, fA_may]
      exact h1 _
    | succ d ih =>
      intro j hj
      have l13 : ((13 : Int32) ≤ nI j) = False := by rw [← e13]; exact leF (by omega) (by omega)
      by_cases h0 : j = 0
      · subst h0
        have := ih 1 (by omega)
        rw [← zIn0_step z p (show 0 < 13 by omega) p (by rw [if_pos rfl])] at this
        refine wk (fn3_ok l L) ok_114 40 (fun pc => pc == 130 || pc == 157) ?_
        simp only [fn3, kk_114, Option.toList_some, Option.toList_none, ex, sym, popN, goC, callOK, swL, List.map_cons, List.map_nil, List.replicate_zero, List.replicate_succ, List.append_nil, List.nil_append, List.cons_append, List.getElem?_cons_zero, List.getElem?_cons_succ, List.set_cons_zero, List.set_cons_succ, List.length_cons, List.length_nil, List.head?_cons, Nat.reduceAdd, Nat.reduceLT, Nat.reduceLeDiff, Nat.reduceBEq, Nat.reduceEqDiff, Nat.succ_ne_zero, Nat.zero_lt_succ, Nat.le_refl, sc_rows, kc_lit, nc_lit, wlk_rows, uR_s, uR_uR, true_and, and_true, true_or, or_true, false_or, or_false, and_false, false_and, or_self, and_self, if_true, if_false, Bool.false_eq_true, Bool.or_false, Bool.or_true, Bool.false_or, Bool.true_or, not_true_eq_false, not_false_eq_true, forall_const, true_implies, false_implies, implies_true, reduceIte, reduceCtorEq, hQ, hQ.1, show nI 0 = (0 : Int32) from rfl, show ((13 : Int32) ≤ 0) = False by decide, smI (show insAt z p n < 2147483648 by omega), show insAt z p n < 12 by omega, show (0 : Int32) + 1 = nI 1 by decide, fA_in, fA_size, fA_of, fA_lay, fA_tally, fA_waits, MOKh_eq, setZ_eq, ix_lit, in_lit, lt_lit, cl_lit, nz_lit, fn1, fn2, fA_stays, fA_tired, fA_begin, fA_fare, fA_place, fA_may]
        exact this
      · have := ih (j + 1) (by omega)
        rw [← zIn0_step z p (show j < 13 by omega) 0 (by rw [if_neg h0])] at this
        have ej : (nI j = 0) = False := by rw [show (0 : Int32) = nI 0 from rfl]; exact eqF h0 (by omega) (by omega)
        refine wk (fn3_ok l L) ok_114 40 (fun pc => pc == 130 || pc == 157) ?_
        simp only [fn3, kk_114, Option.toList_some, Option.toList_none, ex, sym, popN, goC, callOK, swL, List.map_cons, List.map_nil, List.replicate_zero, List.replicate_succ, List.append_nil, List.nil_append, List.cons_append, List.getElem?_cons_zero, List.getElem?_cons_succ, List.set_cons_zero, List.set_cons_succ, List.length_cons, List.length_nil, List.head?_cons, Nat.reduceAdd, Nat.reduceLT, Nat.reduceLeDiff, Nat.reduceBEq, Nat.reduceEqDiff, Nat.succ_ne_zero, Nat.zero_lt_succ, Nat.le_refl, sc_rows, kc_lit, nc_lit, wlk_rows, uR_s, uR_uR, true_and, and_true, true_or, or_true, false_or, or_false, and_false, false_and, or_self, and_self, if_true, if_false, Bool.false_eq_true, Bool.or_false, Bool.or_true, Bool.false_or, Bool.true_or, not_true_eq_false, not_false_eq_true, forall_const, true_implies, false_implies, implies_true, reduceIte, reduceCtorEq, hQ, hQ.1, l13, ej, smI (show insAt z p n < 2147483648 by omega), show insAt z p n < 12 by omega, smI (show j < 2147483648 by omega), show j < 13 by omega, nI_up, fA_in, fA_size, fA_of, fA_lay, fA_tally, fA_waits, MOKh_eq, setZ_eq, ix_lit, in_lit, lt_lit, cl_lit, nz_lit, fn1, fn2, fA_stays, fA_tired, fA_begin, fA_fare, fA_place, fA_may]
        exact this
  have loop2 : ∀ a, a < n → ∀ d j, j + d = 13 → (Sy l 114 (156, 3525) 78 [some (.ref 149), some (.int p), some (.int (nI a)), some (.int 13)] [] (SC L, uR I 150 (shI z a n), Q) P) → Sy l 114 (156, 3525) 96 [some (.ref 149), some (.int p), some (.int (nI (a + 1))), some (.int (nI j))] [] (SC L, uR I 150 (shK z a n j), Q) P := by
    intro a ha d
    induction d with
    | zero =>
      intro j hj h
      have : j = 13 := by omega
      subst this
      rw [← shK_13 z ha] at h
      refine wk (fn3_ok l L) ok_114 40 (fun pc => pc == 78 || pc == 102) ?_
      simp only [fn3, kk_114, Option.toList_some, Option.toList_none, ex, sym, popN, goC, callOK, swL, List.map_cons, List.map_nil, List.replicate_zero, List.replicate_succ, List.append_nil, List.nil_append, List.cons_append, List.getElem?_cons_zero, List.getElem?_cons_succ, List.set_cons_zero, List.set_cons_succ, List.length_cons, List.length_nil, List.head?_cons, Nat.reduceAdd, Nat.reduceLT, Nat.reduceLeDiff, Nat.reduceBEq, Nat.reduceEqDiff, Nat.succ_ne_zero, Nat.zero_lt_succ, Nat.le_refl, sc_rows, kc_lit, nc_lit, wlk_rows, uR_s, uR_uR, true_and, and_true, true_or, or_true, false_or, or_false, and_false, false_and, or_self, and_self, if_true, if_false, Bool.false_eq_true, Bool.or_false, Bool.or_true, Bool.false_or, Bool.true_or, not_true_eq_false, not_false_eq_true, forall_const, true_implies, false_implies, implies_true, reduceIte, reduceCtorEq, e13, Int32.le_refl, (nI_dn (show 0 < a + 1 by omega)).1, Nat.add_sub_cancel, fA_in, fA_size, fA_of, fA_lay, fA_tally, fA_waits, MOKh_eq, setZ_eq, ix_lit, in_lit, lt_lit, cl_lit, nz_lit, fn1, fn2, fA_stays, fA_tired, fA_begin, fA_fare, fA_place, fA_may]
      exact h
    | succ d ih =>
      intro j hj h
      have l13 : ((13 : Int32) ≤ nI j) = False := by rw [← e13]; exact leF (by omega) (by omega)
      have := ih (j + 1) (by omega) h
      rw [← shK_step z (show j < 13 by omega)] at this
      refine wk (fn3_ok l L) ok_114 40 (fun pc => pc == 96 || pc == 122) ?_
      simp only [fn3, kk_114, Option.toList_some, Option.toList_none, ex, sym, popN, goC, callOK, swL, List.map_cons, List.map_nil, List.replicate_zero, List.replicate_succ, List.append_nil, List.nil_append, List.cons_append, List.getElem?_cons_zero, List.getElem?_cons_succ, List.set_cons_zero, List.set_cons_succ, List.length_cons, List.length_nil, List.head?_cons, Nat.reduceAdd, Nat.reduceLT, Nat.reduceLeDiff, Nat.reduceBEq, Nat.reduceEqDiff, Nat.succ_ne_zero, Nat.zero_lt_succ, Nat.le_refl, sc_rows, kc_lit, nc_lit, wlk_rows, uR_s, uR_uR, true_and, and_true, true_or, or_true, false_or, or_false, and_false, false_and, or_self, and_self, if_true, if_false, Bool.false_eq_true, Bool.or_false, Bool.or_true, Bool.false_or, Bool.true_or, not_true_eq_false, not_false_eq_true, forall_const, true_implies, false_implies, implies_true, reduceIte, reduceCtorEq, hQ, hQ.1, l13, (nI_dn (show 0 < a + 1 by omega)).2, Nat.add_sub_cancel, smI (show a < 2147483648 by omega), smI (show a + 1 < 2147483648 by omega), show a < 12 by omega, show a + 1 < 12 by omega, smI (show j < 2147483648 by omega), show j < 13 by omega, nI_up, fA_in, fA_size, fA_of, fA_lay, fA_tally, fA_waits, MOKh_eq, setZ_eq, ix_lit, in_lit, lt_lit, cl_lit, nz_lit, fn1, fn2, fA_stays, fA_tired, fA_begin, fA_fare, fA_place, fA_may]
      exact this
  have toZ : ∀ a3, Sy l 114 (156, 3525) 128 [some (.ref 149), some (.int p), some (.int (nI (insAt z p n))), a3] [] (SC L, uR I 150 (shI z (insAt z p n) n), Q) P := by
    intro a3
    have := loop3 13 0 (by omega)
    rw [zIn0_0] at this
    refine wk (fn3_ok l L) ok_114 40 (fun pc => pc == 130) ?_
    simp only [fn3, kk_114, Option.toList_some, Option.toList_none, ex, sym, popN, goC, callOK, swL, List.map_cons, List.map_nil, List.replicate_zero, List.replicate_succ, List.append_nil, List.nil_append, List.cons_append, List.getElem?_cons_zero, List.getElem?_cons_succ, List.set_cons_zero, List.set_cons_succ, List.length_cons, List.length_nil, List.head?_cons, Nat.reduceAdd, Nat.reduceLT, Nat.reduceLeDiff, Nat.reduceBEq, Nat.reduceEqDiff, Nat.succ_ne_zero, Nat.zero_lt_succ, Nat.le_refl, sc_rows, kc_lit, nc_lit, wlk_rows, uR_s, uR_uR, true_and, and_true, true_or, or_true, false_or, or_false, and_false, false_and, or_self, and_self, if_true, if_false, Bool.false_eq_true, Bool.or_false, Bool.or_true, Bool.false_or, Bool.true_or, not_true_eq_false, not_false_eq_true, forall_const, true_implies, false_implies, implies_true, reduceIte, reduceCtorEq, fA_in, fA_size, fA_of, fA_lay, fA_tally, fA_waits, MOKh_eq, setZ_eq, ix_lit, in_lit, lt_lit, cl_lit, nz_lit, fn1, fn2, fA_stays, fA_tired, fA_begin, fA_fare, fA_place, fA_may]
    exact this
  have loop1 : ∀ a a3, a ≤ n → insAt z p a = insAt z p n → Sy l 114 (156, 3525) 78 [some (.ref 149), some (.int p), some (.int (nI a)), a3] [] (SC L, uR I 150 (shI z a n), Q) P := by
    intro a
    induction a with
    | zero =>
      intro a3 _ hi
      have e0 : insAt z p n = 0 := hi.symm
      have := toZ a3
      rw [e0] at this
      refine wk (fn3_ok l L) ok_114 40 (fun pc => pc == 128) ?_
      simp only [fn3, kk_114, Option.toList_some, Option.toList_none, ex, sym, popN, goC, callOK, swL, List.map_cons, List.map_nil, List.replicate_zero, List.replicate_succ, List.append_nil, List.nil_append, List.cons_append, List.getElem?_cons_zero, List.getElem?_cons_succ, List.set_cons_zero, List.set_cons_succ, List.length_cons, List.length_nil, List.head?_cons, Nat.reduceAdd, Nat.reduceLT, Nat.reduceLeDiff, Nat.reduceBEq, Nat.reduceEqDiff, Nat.succ_ne_zero, Nat.zero_lt_succ, Nat.le_refl, sc_rows, kc_lit, nc_lit, wlk_rows, uR_s, uR_uR, true_and, and_true, true_or, or_true, false_or, or_false, and_false, false_and, or_self, and_self, if_true, if_false, Bool.false_eq_true, Bool.or_false, Bool.or_true, Bool.false_or, Bool.true_or, not_true_eq_false, not_false_eq_true, forall_const, true_implies, false_implies, implies_true, reduceIte, reduceCtorEq, show (nI 0 ≤ 0) = True by decide, fA_in, fA_size, fA_of, fA_lay, fA_tally, fA_waits, MOKh_eq, setZ_eq, ix_lit, in_lit, lt_lit, cl_lit, nz_lit, fn1, fn2, fA_stays, fA_tired, fA_begin, fA_fare, fA_place, fA_may]
      exact this
    | succ a ih =>
      intro a3 ha hi
      simp only [insAt] at hi
      have l0 : (nI (a + 1) ≤ 0) = False := by rw [show (0 : Int32) = nI 0 from rfl]; exact leF (by omega) (by omega)
      have ea : shI z (a + 1) n (tp a 0) = z (tp a 0) := by
        simp only [shI, tp]
        rw [if_neg (by omega)]
      by_cases g : p < z (tp a 0)
      · rw [if_pos g] at hi
        have h := loop2 a (by omega) 13 0 (by omega) (ih _ (by omega) hi)
        rw [shK_0] at h
        refine wk (fn3_ok l L) ok_114 40 (fun pc => pc == 96 || pc == 128) ?_
        simp only [fn3, kk_114, Option.toList_some, Option.toList_none, ex, sym, popN, goC, callOK, swL, List.map_cons, List.map_nil, List.replicate_zero, List.replicate_succ, List.append_nil, List.nil_append, List.cons_append, List.getElem?_cons_zero, List.getElem?_cons_succ, List.set_cons_zero, List.set_cons_succ, List.length_cons, List.length_nil, List.head?_cons, Nat.reduceAdd, Nat.reduceLT, Nat.reduceLeDiff, Nat.reduceBEq, Nat.reduceEqDiff, Nat.succ_ne_zero, Nat.zero_lt_succ, Nat.le_refl, sc_rows, kc_lit, nc_lit, wlk_rows, uR_s, uR_uR, true_and, and_true, true_or, or_true, false_or, or_false, and_false, false_and, or_self, and_self, if_true, if_false, Bool.false_eq_true, Bool.or_false, Bool.or_true, Bool.false_or, Bool.true_or, not_true_eq_false, not_false_eq_true, forall_const, true_implies, false_implies, implies_true, reduceIte, reduceCtorEq, hQ, hQ.1, l0, (nI_dn (show 0 < a + 1 by omega)).2, Nat.add_sub_cancel, smI (show a < 2147483648 by omega), show a < 12 by omega, ea, eq_false (Int32.not_le.mpr g), fA_in, fA_size, fA_of, fA_lay, fA_tally, fA_waits, MOKh_eq, setZ_eq, ix_lit, in_lit, lt_lit, cl_lit, nz_lit, fn1, fn2, fA_stays, fA_tired, fA_begin, fA_fare, fA_place, fA_may]
        exact h
      · rw [if_neg g] at hi
        have h := toZ a3
        rw [← hi] at h
        refine wk (fn3_ok l L) ok_114 40 (fun pc => pc == 96 || pc == 128) ?_
        simp only [fn3, kk_114, Option.toList_some, Option.toList_none, ex, sym, popN, goC, callOK, swL, List.map_cons, List.map_nil, List.replicate_zero, List.replicate_succ, List.append_nil, List.nil_append, List.cons_append, List.getElem?_cons_zero, List.getElem?_cons_succ, List.set_cons_zero, List.set_cons_succ, List.length_cons, List.length_nil, List.head?_cons, Nat.reduceAdd, Nat.reduceLT, Nat.reduceLeDiff, Nat.reduceBEq, Nat.reduceEqDiff, Nat.succ_ne_zero, Nat.zero_lt_succ, Nat.le_refl, sc_rows, kc_lit, nc_lit, wlk_rows, uR_s, uR_uR, true_and, and_true, true_or, or_true, false_or, or_false, and_false, false_and, or_self, and_self, if_true, if_false, Bool.false_eq_true, Bool.or_false, Bool.or_true, Bool.false_or, Bool.true_or, not_true_eq_false, not_false_eq_true, forall_const, true_implies, false_implies, implies_true, reduceIte, reduceCtorEq, hQ, hQ.1, l0, (nI_dn (show 0 < a + 1 by omega)).2, Nat.add_sub_cancel, smI (show a < 2147483648 by omega), show a < 12 by omega, ea, Int32.not_lt.mp g, fA_in, fA_size, fA_of, fA_lay, fA_tally, fA_waits, MOKh_eq, setZ_eq, ix_lit, in_lit, lt_lit, cl_lit, nz_lit, fn1, fn2, fA_stays, fA_tired, fA_begin, fA_fare, fA_place, fA_may]
        exact h
  refine wk (fn3_ok l L) ok_114 40 (fun pc => pc == 78) ?_
  simp only [fn3, kk_114, Option.toList_some, Option.toList_none, ex, sym, popN, goC, callOK, swL, List.map_cons, List.map_nil, List.replicate_zero, List.replicate_succ, List.append_nil, List.nil_append, List.cons_append, List.getElem?_cons_zero, List.getElem?_cons_succ, List.set_cons_zero, List.set_cons_succ, List.length_cons, List.length_nil, List.head?_cons, Nat.reduceAdd, Nat.reduceLT, Nat.reduceLeDiff, Nat.reduceBEq, Nat.reduceEqDiff, Nat.succ_ne_zero, Nat.zero_lt_succ, Nat.le_refl, sc_rows, kc_lit, nc_lit, wlk_rows, uR_s, uR_uR, true_and, and_true, true_or, or_true, false_or, or_false, and_false, false_and, or_self, and_self, if_true, if_false, Bool.false_eq_true, Bool.or_false, Bool.or_true, Bool.false_or, Bool.true_or, not_true_eq_false, not_false_eq_true, forall_const, true_implies, false_implies, implies_true, reduceIte, reduceCtorEq, hQ.1, hL.1, fA_in, fA_size, fA_of, fA_lay, fA_tally, fA_waits, MOKh_eq, setZ_eq, ix_lit, in_lit, lt_lit, cl_lit, nz_lit, fn1, fn2, fA_stays, fA_tired, fA_begin, fA_fare, fA_place, fA_may]
  have := loop1 n a3 (Nat.le_refl n) rfl
  rw [shI_n] at this
  exact this
set_option maxRecDepth 100000 in
theorem r_come (hQ : QM Q) {a : Nat} (ha : a ≤ 4) (e1 : I 149 3 = nI a) (hM : MV (I 150) n k) (hL : Ln (I 150) n m) (p : Int32) (h1 : whyW (I 150) n p < 0 → P (some (.int (whyW (I 150) n p))) (SC L, I, Q)) (h2 : whyW (I 150) n p = 0 → ∀ I', RC I I' a → I' 150 = zWel (I 150) n m p → P (some (.int (nI m))) (SC L, I', Q)) : Runs l 114 [.ref 149, .int p] (SC L, I, Q) P := by
  have hn := hL.2.1
  refine run0 (n := 2) mok_114 ⟨rfl, rfl⟩ rfl ?_
  unfold whyW at h1 h2
  by_cases g : 0 ≤ p ∧ p ≤ 999
  · rw [if_neg (fun q => q g)] at h1 h2
    refine wk (fn3_ok l L) ok_114 40 (fun pc => false) ?_
    simp only [fn3, kk_114, Option.toList_some, Option.toList_none, ex, sym, popN, goC, callOK, swL, List.map_cons, List.map_nil, List.replicate_zero, List.replicate_succ, List.append_nil, List.nil_append, List.cons_append, List.getElem?_cons_zero, List.getElem?_cons_succ, List.set_cons_zero, List.set_cons_succ, List.length_cons, List.length_nil, List.head?_cons, Nat.reduceAdd, Nat.reduceLT, Nat.reduceLeDiff, Nat.reduceBEq, Nat.reduceEqDiff, Nat.succ_ne_zero, Nat.zero_lt_succ, Nat.le_refl, sc_rows, kc_lit, nc_lit, wlk_rows, uR_s, uR_uR, true_and, and_true, true_or, or_true, false_or, or_false, and_false, false_and, or_self, and_self, if_true, if_false, Bool.false_eq_true, Bool.or_false, Bool.or_true, Bool.false_or, Bool.true_or, not_true_eq_false, not_false_eq_true, forall_const, true_implies, false_implies, implies_true, reduceIte, reduceCtorEq, hQ.1, b2_t g, nz_lit, fA_in, fA_size, fA_of, fA_lay, fA_tally, fA_waits, MOKh_eq, setZ_eq, ix_lit, in_lit, lt_lit, cl_lit, nz_lit, fn1, fn2, fA_stays, fA_tired, fA_begin, fA_fare, fA_place, fA_may]
    refine r_taxiWith hQ hL.1 hn p (fun i hi he => ?_) (fun hno => ?_)
    · have hf := ftz_u hL hi he
      unfold zWel at h2
      rw [hf] at h1 h2
      simp only at h1 h2
      by_cases g5 : I 150 (tp i 1) = 5
      · rw [if_pos g5] at h2
        refine wk (fn3_ok l L) ok_114 40 (fun pc => pc == 39) ?_
        simp only [fn3, kk_114, Option.toList_some, Option.toList_none, ex, sym, popN, goC, callOK, swL, List.map_cons, List.map_nil, List.replicate_zero, List.replicate_succ, List.append_nil, List.nil_append, List.cons_append, List.getElem?_cons_zero, List.getElem?_cons_succ, List.set_cons_zero, List.set_cons_succ, List.length_cons, List.length_nil, List.head?_cons, Nat.reduceAdd, Nat.reduceLT, Nat.reduceLeDiff, Nat.reduceBEq, Nat.reduceEqDiff, Nat.succ_ne_zero, Nat.zero_lt_succ, Nat.le_refl, sc_rows, kc_lit, nc_lit, wlk_rows, uR_s, uR_uR, true_and, and_true, true_or, or_true, false_or, or_false, and_false, false_and, or_self, and_self, if_true, if_false, Bool.false_eq_true, Bool.or_false, Bool.or_true, Bool.false_or, Bool.true_or, not_true_eq_false, not_false_eq_true, forall_const, true_implies, false_implies, implies_true, reduceIte, reduceCtorEq, hQ, hQ.1, n5F (show i < 2147483648 by omega), smI (show i < 2147483648 by omega), show i < 12 by omega, g5, fA_in, fA_size, fA_of, fA_lay, fA_tally, fA_waits, MOKh_eq, setZ_eq, ix_lit, in_lit, lt_lit, cl_lit, nz_lit, fn1, fn2, fA_stays, fA_tired, fA_begin, fA_fare, fA_place, fA_may]
        refine wk (fn3_ok l L) ok_114 40 (fun pc => false) ?_
        simp only [fn3, kk_114, Option.toList_some, Option.toList_none, ex, sym, popN, goC, callOK, swL, List.map_cons, List.map_nil, List.replicate_zero, List.replicate_succ, List.append_nil, List.nil_append, List.cons_append, List.getElem?_cons_zero, List.getElem?_cons_succ, List.set_cons_zero, List.set_cons_succ, List.length_cons, List.length_nil, List.head?_cons, Nat.reduceAdd, Nat.reduceLT, Nat.reduceLeDiff, Nat.reduceBEq, Nat.reduceEqDiff, Nat.succ_ne_zero, Nat.zero_lt_succ, Nat.le_refl, sc_rows, kc_lit, nc_lit, wlk_rows, uR_s, uR_uR, true_and, and_true, true_or, or_true, false_or, or_false, and_false, false_and, or_self, and_self, if_true, if_false, Bool.false_eq_true, Bool.or_false, Bool.or_true, Bool.false_or, Bool.true_or, not_true_eq_false, not_false_eq_true, forall_const, true_implies, false_implies, implies_true, reduceIte, reduceCtorEq, hQ, hQ.1, n5F (show i < 2147483648 by omega), smI (show i < 2147483648 by omega), show i < 12 by omega, g5, fA_in, fA_size, fA_of, fA_lay, fA_tally, fA_waits, MOKh_eq, setZ_eq, ix_lit, in_lit, lt_lit, cl_lit, nz_lit, fn1, fn2, fA_stays, fA_tired, fA_begin, fA_fare, fA_place, fA_may]
        refine r_record hQ ha e1 (fun I' a1 a2 a3 => ?_)
        have e150 : I' 150 = I 150 := a3 150 (by omega) (by omega)
        rw [show I' = uR I' 150 (I 150) by rw [← e150, uR_self]]
        refine wk (fn3_ok l L) ok_114 40 (fun pc => pc == 70 || pc == 168) ?_
        simp only [fn3, kk_114, Option.toList_some, Option.toList_none, ex, sym, popN, goC, callOK, swL, List.map_cons, List.map_nil, List.replicate_zero, List.replicate_succ, List.append_nil, List.nil_append, List.cons_append, List.getElem?_cons_zero, List.getElem?_cons_succ, List.set_cons_zero, List.set_cons_succ, List.length_cons, List.length_nil, List.head?_cons, Nat.reduceAdd, Nat.reduceLT, Nat.reduceLeDiff, Nat.reduceBEq, Nat.reduceEqDiff, Nat.succ_ne_zero, Nat.zero_lt_succ, Nat.le_refl, sc_rows, kc_lit, nc_lit, wlk_rows, uR_s, uR_uR, true_and, and_true, true_or, or_true, false_or, or_false, and_false, false_and, or_self, and_self, if_true, if_false, Bool.false_eq_true, Bool.or_false, Bool.or_true, Bool.false_or, Bool.true_or, not_true_eq_false, not_false_eq_true, forall_const, true_implies, false_implies, implies_true, reduceIte, reduceCtorEq, n5F (show i < 2147483648 by omega), fA_in, fA_size, fA_of, fA_lay, fA_tally, fA_waits, MOKh_eq, setZ_eq, ix_lit, in_lit, lt_lit, cl_lit, nz_lit, fn1, fn2, fA_stays, fA_tired, fA_begin, fA_fare, fA_place, fA_may]
        have hd : ¬ I 150 (tp i 1) = 0 := by rw [g5]; decide
        exact come_end hQ (LnX.out hL hi hd) hi (h2 rfl _ ((RC.of a1 a2 a3).z _) (uR_s _ _ _))
      · rw [if_neg g5] at h1
        refine wk (fn3_ok l L) ok_114 40 (fun pc => pc == 39) ?_
        simp only [fn3, kk_114, Option.toList_some, Option.toList_none, ex, sym, popN, goC, callOK, swL, List.map_cons, List.map_nil, List.replicate_zero, List.replicate_succ, List.append_nil, List.nil_append, List.cons_append, List.getElem?_cons_zero, List.getElem?_cons_succ, List.set_cons_zero, List.set_cons_succ, List.length_cons, List.length_nil, List.head?_cons, Nat.reduceAdd, Nat.reduceLT, Nat.reduceLeDiff, Nat.reduceBEq, Nat.reduceEqDiff, Nat.succ_ne_zero, Nat.zero_lt_succ, Nat.le_refl, sc_rows, kc_lit, nc_lit, wlk_rows, uR_s, uR_uR, true_and, and_true, true_or, or_true, false_or, or_false, and_false, false_and, or_self, and_self, if_true, if_false, Bool.false_eq_true, Bool.or_false, Bool.or_true, Bool.false_or, Bool.true_or, not_true_eq_false, not_false_eq_true, forall_const, true_implies, false_implies, implies_true, reduceIte, reduceCtorEq, hQ, hQ.1, n5F (show i < 2147483648 by omega), smI (show i < 2147483648 by omega), show i < 12 by omega, eq_false g5, fA_in, fA_size, fA_of, fA_lay, fA_tally, fA_waits, MOKh_eq, setZ_eq, ix_lit, in_lit, lt_lit, cl_lit, nz_lit, fn1, fn2, fA_stays, fA_tired, fA_begin, fA_fare, fA_place, fA_may]
        exact h1 (by decide)
    · have hf : ftz (I 150) p n = none := by
        cases h : ftz (I 150) p n with
        | none => rfl
        | some j => exact absurd (ftz_s h).2 (hno j (ftz_s h).1)
      unfold zWel at h2
      rw [hf] at h1 h2
      simp only at h1 h2
      by_cases g12 : n = 12
      · subst g12
        rw [if_pos rfl] at h1
        refine wk (fn3_ok l L) ok_114 40 (fun pc => false) ?_
        simp only [fn3, kk_114, Option.toList_some, Option.toList_none, ex, sym, popN, goC, callOK, swL, List.map_cons, List.map_nil, List.replicate_zero, List.replicate_succ, List.append_nil, List.nil_append, List.cons_append, List.getElem?_cons_zero, List.getElem?_cons_succ, List.set_cons_zero, List.set_cons_succ, List.length_cons, List.length_nil, List.head?_cons, Nat.reduceAdd, Nat.reduceLT, Nat.reduceLeDiff, Nat.reduceBEq, Nat.reduceEqDiff, Nat.succ_ne_zero, Nat.zero_lt_succ, Nat.le_refl, sc_rows, kc_lit, nc_lit, wlk_rows, uR_s, uR_uR, true_and, and_true, true_or, or_true, false_or, or_false, and_false, false_and, or_self, and_self, if_true, if_false, Bool.false_eq_true, Bool.or_false, Bool.or_true, Bool.false_or, Bool.true_or, not_true_eq_false, not_false_eq_true, forall_const, true_implies, false_implies, implies_true, reduceIte, reduceCtorEq, hQ, hQ.1, hL.1, show nI 12 = (12 : Int32) from rfl, fA_in, fA_size, fA_of, fA_lay, fA_tally, fA_waits, MOKh_eq, setZ_eq, ix_lit, in_lit, lt_lit, cl_lit, nz_lit, fn1, fn2, fA_stays, fA_tired, fA_begin, fA_fare, fA_place, fA_may]
        exact h1 (by decide)
      · rw [if_neg g12] at h2
        have e12 : (nI n = 12) = False := by rw [show (12 : Int32) = nI 12 from rfl]; exact eqF g12 (by omega) (by omega)
        refine wk (fn3_ok l L) ok_114 40 (fun pc => false) ?_
        simp only [fn3, kk_114, Option.toList_some, Option.toList_none, ex, sym, popN, goC, callOK, swL, List.map_cons, List.map_nil, List.replicate_zero, List.replicate_succ, List.append_nil, List.nil_append, List.cons_append, List.getElem?_cons_zero, List.getElem?_cons_succ, List.set_cons_zero, List.set_cons_succ, List.length_cons, List.length_nil, List.head?_cons, Nat.reduceAdd, Nat.reduceLT, Nat.reduceLeDiff, Nat.reduceBEq, Nat.reduceEqDiff, Nat.succ_ne_zero, Nat.zero_lt_succ, Nat.le_refl, sc_rows, kc_lit, nc_lit, wlk_rows, uR_s, uR_uR, true_and, and_true, true_or, or_true, false_or, or_false, and_false, false_and, or_self, and_self, if_true, if_false, Bool.false_eq_true, Bool.or_false, Bool.or_true, Bool.false_or, Bool.true_or, not_true_eq_false, not_false_eq_true, forall_const, true_implies, false_implies, implies_true, reduceIte, reduceCtorEq, hQ, hQ.1, hL.1, e12, fA_in, fA_size, fA_of, fA_lay, fA_tally, fA_waits, MOKh_eq, setZ_eq, ix_lit, in_lit, lt_lit, cl_lit, nz_lit, fn1, fn2, fA_stays, fA_tired, fA_begin, fA_fare, fA_place, fA_may]
        refine r_record hQ ha e1 (fun I' a1 a2 a3 => ?_)
        have e150 : I' 150 = I 150 := a3 150 (by omega) (by omega)
        rw [show I' = uR I' 150 (I 150) by rw [← e150, uR_self]]
        refine wk (fn3_ok l L) ok_114 40 (fun pc => pc == 70 || pc == 168) ?_
        simp only [fn3, kk_114, Option.toList_some, Option.toList_none, ex, sym, popN, goC, callOK, swL, List.map_cons, List.map_nil, List.replicate_zero, List.replicate_succ, List.append_nil, List.nil_append, List.cons_append, List.getElem?_cons_zero, List.getElem?_cons_succ, List.set_cons_zero, List.set_cons_succ, List.length_cons, List.length_nil, List.head?_cons, Nat.reduceAdd, Nat.reduceLT, Nat.reduceLeDiff, Nat.reduceBEq, Nat.reduceEqDiff, Nat.succ_ne_zero, Nat.zero_lt_succ, Nat.le_refl, sc_rows, kc_lit, nc_lit, wlk_rows, uR_s, uR_uR, true_and, and_true, true_or, or_true, false_or, or_false, and_false, false_and, or_self, and_self, if_true, if_false, Bool.false_eq_true, Bool.or_false, Bool.or_true, Bool.false_or, Bool.true_or, not_true_eq_false, not_false_eq_true, forall_const, true_implies, false_implies, implies_true, reduceIte, reduceCtorEq, fA_in, fA_size, fA_of, fA_lay, fA_tally, fA_waits, MOKh_eq, setZ_eq, ix_lit, in_lit, lt_lit, cl_lit, nz_lit, fn1, fn2, fA_stays, fA_tired, fA_begin, fA_fare, fA_place, fA_may]
        have hX := LnX.ins hL (show n < 12 by omega) hno
        refine come_ins hQ hL (by omega) (fun a3' => ?_)
        exact come_end hQ hX (by have := insAt_le (I 150) p n; omega) (h2 rfl _ ((RC.of a1 a2 a3).z _) (uR_s _ _ _))
  · rw [if_pos g] at h1
    refine wk (fn3_ok l L) ok_114 40 (fun pc => false) ?_
    simp only [fn3, kk_114, Option.toList_some, Option.toList_none, ex, sym, popN, goC, callOK, swL, List.map_cons, List.map_nil, List.replicate_zero, List.replicate_succ, List.append_nil, List.nil_append, List.cons_append, List.getElem?_cons_zero, List.getElem?_cons_succ, List.set_cons_zero, List.set_cons_succ, List.length_cons, List.length_nil, List.head?_cons, Nat.reduceAdd, Nat.reduceLT, Nat.reduceLeDiff, Nat.reduceBEq, Nat.reduceEqDiff, Nat.succ_ne_zero, Nat.zero_lt_succ, Nat.le_refl, sc_rows, kc_lit, nc_lit, wlk_rows, uR_s, uR_uR, true_and, and_true, true_or, or_true, false_or, or_false, and_false, false_and, or_self, and_self, if_true, if_false, Bool.false_eq_true, Bool.or_false, Bool.or_true, Bool.false_or, Bool.true_or, not_true_eq_false, not_false_eq_true, forall_const, true_implies, false_implies, implies_true, reduceIte, reduceCtorEq, b2_f g, fA_in, fA_size, fA_of, fA_lay, fA_tally, fA_waits, MOKh_eq, setZ_eq, ix_lit, in_lit, lt_lit, cl_lit, nz_lit, fn1, fn2, fA_stays, fA_tired, fA_begin, fA_fare, fA_place, fA_may]
    exact h1 (by decide)
end F2
