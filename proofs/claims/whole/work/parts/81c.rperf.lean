/-! orders carried out: the reference -/
section J3
variable {l : Launch} {L : Nat} {I : Nat → Nat → Int32} {Q : Nat → Nat → Option Nat} {P : Option Value → PH → Prop} {a n m k ln : Nat} {z y : Nat → Int32}
theorem TO.ix {f : Nat → Int32} {c : Nat → Int32} {N i : Nat} (h : TO f c N) (hi : i < N) : f (3 * i) = (ordN c (stO c i)).2.2.1 ∧ f (3 * i + 1) = nI (ordN c (stO c i)).2.2.2.1 ∧ ((ordN c (stO c i)).2.2.1 = 99 → f (3 * i + 2) = nI (ordN c (stO c i)).2.2.2.2) := h i hi
theorem x155 (I : Nat → Nat → Int32) (y z : Nat → Int32) : uR (uR I 149 y) 150 z 155 = I 155 ∧ uR (uR I 149 y) 150 z 149 = y ∧ uR (uR I 149 y) 150 z 150 = z ∧ uR (uR I 149 y) 150 z 151 = I 151 := by
  refine ⟨?_, ?_, uR_s _ _ _, ?_⟩
  · rw [uR_n _ _ (by omega), uR_n _ _ (by omega)]
  · rw [uR_n _ _ (by omega), uR_s]
  · rw [uR_n _ _ (by omega), uR_n _ _ (by omega)]
set_option maxRecDepth 100000 in
theorem r_whyO (hQ : QM Q) {c : Nat → Int32} {N i : Nat} (hT : TO (I 155) c N) (hi : i < N) (hN : N ≤ 21) (hM : MV z n k) (hL : Ln z n m) (h1 : P (some (.int (whyO z (ordN c (stO c i)).2.2))) (SC L, uR (uR I 149 y) 150 z, Q)) : Runs l 136 [.ref 149, .int (nI i)] (SC L, uR (uR I 149 y) 150 z, Q) P := by
  obtain ⟨o1, o2, o3⟩ := hT i hi
  generalize (ordN c (stO c i)).2.2 = o at o1 o2 o3 h1
  obtain ⟨sg, v, u⟩ := o
  dsimp only at o1 o2 o3
  obtain ⟨x5, x9, x0, -⟩ := x155 I y z
  have k3 : (3 : Int32) * nI i = nI (3 * i) := (nI_add27 i).2.2
  have i0 : vp_in (nI (3 * i)) 66 ∧ (nI (3 * i)).toNatClampNeg = 3 * i := ixp (by omega) (by omega)
  have i1 : vp_in (nI (3 * i + 1)) 66 ∧ (nI (3 * i + 1)).toNatClampNeg = 3 * i + 1 := ixp (by omega) (by omega)
  have i2 : vp_in (nI (3 * i + 2)) 66 ∧ (nI (3 * i + 2)).toNatClampNeg = 3 * i + 2 := ixp (by omega) (by omega)
  have n2 : nI (3 * i) + 2 = nI (3 * i + 2) := nI_add _ 2
  unfold whyO at h1
  rw [hM.ixn, hL.ixm] at h1
  dsimp only at h1
  refine run0 (n := 2) mok_136 ⟨rfl, rfl⟩ rfl ?_
  by_cases g1 : sg = 119
  · subst g1
    rw [if_pos rfl] at h1
    refine wk ((fn0_ok l)) ok_136 30 (fun pc => pc == 34) ?_
    simp only [fn0, kk_136, Option.toList_some, Option.toList_none, ex, sym, popN, goC, callOK, swL, List.map_cons, List.map_nil, List.replicate_zero, List.replicate_succ, List.append_nil, List.nil_append, List.cons_append, List.getElem?_cons_zero, List.getElem?_cons_succ, List.set_cons_zero, List.set_cons_succ, List.length_cons, List.length_nil, List.head?_cons, Nat.reduceAdd, Nat.reduceLT, Nat.reduceLeDiff, Nat.reduceBEq, Nat.reduceEqDiff, Nat.succ_ne_zero, Nat.zero_lt_succ, Nat.le_refl, sc_rows, kc_lit, nc_lit, wlk_rows, uR_s, uR_uR, true_and, and_true, true_or, or_true, false_or, or_false, and_false, false_and, or_self, and_self, if_true, if_false, Bool.false_eq_true, Bool.or_false, Bool.or_true, Bool.false_or, Bool.true_or, not_true_eq_false, not_false_eq_true, forall_const, true_implies, false_implies, implies_true, reduceIte, reduceCtorEq, kT L, hQ.2.2.2.2.2, x5, k3, i0, i1, nI_up, o1, o2]
    refine rz_whyJ (I := uR I 149 y) hQ _ ?_
    refine wk ((fn0_ok l)) ok_136 10 (fun pc => false) ?_
    simp only [fn0, kk_136, Option.toList_some, Option.toList_none, ex, sym, popN, goC, callOK, swL, List.map_cons, List.map_nil, List.replicate_zero, List.replicate_succ, List.append_nil, List.nil_append, List.cons_append, List.getElem?_cons_zero, List.getElem?_cons_succ, List.set_cons_zero, List.set_cons_succ, List.length_cons, List.length_nil, List.head?_cons, Nat.reduceAdd, Nat.reduceLT, Nat.reduceLeDiff, Nat.reduceBEq, Nat.reduceEqDiff, Nat.succ_ne_zero, Nat.zero_lt_succ, Nat.le_refl, sc_rows, kc_lit, nc_lit, wlk_rows, uR_s, uR_uR, true_and, and_true, true_or, or_true, false_or, or_false, and_false, false_and, or_self, and_self, if_true, if_false, Bool.false_eq_true, Bool.or_false, Bool.or_true, Bool.false_or, Bool.true_or, not_true_eq_false, not_false_eq_true, forall_const, true_implies, false_implies, implies_true, reduceIte, reduceCtorEq]
    exact h1
  · rw [if_neg g1] at h1
    by_cases g2 : sg = 99
    · subst g2
      rw [if_pos rfl] at h1
      have o3' := o3 rfl
      refine wk ((fn0_ok l)) ok_136 40 (fun pc => pc == 26 || pc == 58) ?_
      simp only [fn0, kk_136, Option.toList_some, Option.toList_none, ex, sym, popN, goC, callOK, swL, List.map_cons, List.map_nil, List.replicate_zero, List.replicate_succ, List.append_nil, List.nil_append, List.cons_append, List.getElem?_cons_zero, List.getElem?_cons_succ, List.set_cons_zero, List.set_cons_succ, List.length_cons, List.length_nil, List.head?_cons, Nat.reduceAdd, Nat.reduceLT, Nat.reduceLeDiff, Nat.reduceBEq, Nat.reduceEqDiff, Nat.succ_ne_zero, Nat.zero_lt_succ, Nat.le_refl, sc_rows, kc_lit, nc_lit, wlk_rows, uR_s, uR_uR, true_and, and_true, true_or, or_true, false_or, or_false, and_false, false_and, or_self, and_self, if_true, if_false, Bool.false_eq_true, Bool.or_false, Bool.or_true, Bool.false_or, Bool.true_or, not_true_eq_false, not_false_eq_true, forall_const, true_implies, false_implies, implies_true, reduceIte, reduceCtorEq, kT L, hQ.2.2.2.2.2, x5, k3, i0, i1, i2, n2, nI_up, o1, o2, o3', eq_false g1]
      refine rz_whyC (I := uR I 149 y) hQ hL _ _ ?_
      refine wk ((fn0_ok l)) ok_136 10 (fun pc => false) ?_
      simp only [fn0, kk_136, Option.toList_some, Option.toList_none, ex, sym, popN, goC, callOK, swL, List.map_cons, List.map_nil, List.replicate_zero, List.replicate_succ, List.append_nil, List.nil_append, List.cons_append, List.getElem?_cons_zero, List.getElem?_cons_succ, List.set_cons_zero, List.set_cons_succ, List.length_cons, List.length_nil, List.head?_cons, Nat.reduceAdd, Nat.reduceLT, Nat.reduceLeDiff, Nat.reduceBEq, Nat.reduceEqDiff, Nat.succ_ne_zero, Nat.zero_lt_succ, Nat.le_refl, sc_rows, kc_lit, nc_lit, wlk_rows, uR_s, uR_uR, true_and, and_true, true_or, or_true, false_or, or_false, and_false, false_and, or_self, and_self, if_true, if_false, Bool.false_eq_true, Bool.or_false, Bool.or_true, Bool.false_or, Bool.true_or, not_true_eq_false, not_false_eq_true, forall_const, true_implies, false_implies, implies_true, reduceIte, reduceCtorEq]
      exact h1
    · rw [if_neg g2] at h1
      refine wk ((fn0_ok l)) ok_136 40 (fun pc => pc == 26 || pc == 40) ?_
      simp only [fn0, kk_136, Option.toList_some, Option.toList_none, ex, sym, popN, goC, callOK, swL, List.map_cons, List.map_nil, List.replicate_zero, List.replicate_succ, List.append_nil, List.nil_append, List.cons_append, List.getElem?_cons_zero, List.getElem?_cons_succ, List.set_cons_zero, List.set_cons_succ, List.length_cons, List.length_nil, List.head?_cons, Nat.reduceAdd, Nat.reduceLT, Nat.reduceLeDiff, Nat.reduceBEq, Nat.reduceEqDiff, Nat.succ_ne_zero, Nat.zero_lt_succ, Nat.le_refl, sc_rows, kc_lit, nc_lit, wlk_rows, uR_s, uR_uR, true_and, and_true, true_or, or_true, false_or, or_false, and_false, false_and, or_self, and_self, if_true, if_false, Bool.false_eq_true, Bool.or_false, Bool.or_true, Bool.false_or, Bool.true_or, not_true_eq_false, not_false_eq_true, forall_const, true_implies, false_implies, implies_true, reduceIte, reduceCtorEq, kT L, hQ.2.2.2.2.2, x5, k3, i0, i1, nI_up, o1, o2, eq_false g1, eq_false g2]
      refine rz_whyP (I := uR I 149 y) hQ _ ?_
      refine wk ((fn0_ok l)) ok_136 10 (fun pc => false) ?_
      simp only [fn0, kk_136, Option.toList_some, Option.toList_none, ex, sym, popN, goC, callOK, swL, List.map_cons, List.map_nil, List.replicate_zero, List.replicate_succ, List.append_nil, List.nil_append, List.cons_append, List.getElem?_cons_zero, List.getElem?_cons_succ, List.set_cons_zero, List.set_cons_succ, List.length_cons, List.length_nil, List.head?_cons, Nat.reduceAdd, Nat.reduceLT, Nat.reduceLeDiff, Nat.reduceBEq, Nat.reduceEqDiff, Nat.succ_ne_zero, Nat.zero_lt_succ, Nat.le_refl, sc_rows, kc_lit, nc_lit, wlk_rows, uR_s, uR_uR, true_and, and_true, true_or, or_true, false_or, or_false, and_false, false_and, or_self, and_self, if_true, if_false, Bool.false_eq_true, Bool.or_false, Bool.or_true, Bool.false_or, Bool.true_or, not_true_eq_false, not_false_eq_true, forall_const, true_implies, false_implies, implies_true, reduceIte, reduceCtorEq]
      exact h1
set_option maxRecDepth 100000 in
theorem r_doO (hQ : QM Q) {c : Nat → Int32} {N i : Nat} (hT : TO (I 155) c N) (hi : i < N) (hN : N ≤ 21) (hM : MV z n k) (hL : Ln z n m) {cc : Nat} (h5 : z 5 = nI cc) (hcc : cc ≤ 99999) (hw : whyO z (ordN c (stO c i)).2.2 = 0) (h1 : ∀ y', (∀ j, j ≠ 11 → y' j = y j) → P none (SC L, uR (uR I 149 y') 150 (actO z (ordN c (stO c i)).2.2), Q)) : Runs l 137 [.ref 149, .int (nI i)] (SC L, uR (uR I 149 y) 150 z, Q) P := by
  obtain ⟨o1, o2, o3⟩ := hT i hi
  generalize (ordN c (stO c i)).2.2 = o at o1 o2 o3 h1 hw
  obtain ⟨sg, v, u⟩ := o
  dsimp only at o1 o2 o3
  obtain ⟨x5, x9, x0, -⟩ := x155 I y z
  have k3 : (3 : Int32) * nI i = nI (3 * i) := (nI_add27 i).2.2
  have i0 : vp_in (nI (3 * i)) 66 ∧ (nI (3 * i)).toNatClampNeg = 3 * i := ixp (by omega) (by omega)
  have i1 : vp_in (nI (3 * i + 1)) 66 ∧ (nI (3 * i + 1)).toNatClampNeg = 3 * i + 1 := ixp (by omega) (by omega)
  have i2 : vp_in (nI (3 * i + 2)) 66 ∧ (nI (3 * i + 2)).toNatClampNeg = 3 * i + 2 := ixp (by omega) (by omega)
  have n2 : nI (3 * i) + 2 = nI (3 * i + 2) := nI_add _ 2
  unfold whyO at hw
  unfold actO at h1
  rw [hM.ixn, hL.ixm] at h1 hw
  dsimp only at h1 hw
  refine run0 (n := 1) mok_137 ⟨rfl, rfl⟩ rfl ?_
  by_cases g1 : sg = 119
  · subst g1
    rw [if_pos rfl] at h1 hw
    refine wk ((fn0_ok l)) ok_137 30 (fun pc => pc == 53 || pc == 72) ?_
    simp only [fn0, kk_137, Option.toList_some, Option.toList_none, ex, sym, popN, goC, callOK, swL, List.map_cons, List.map_nil, List.replicate_zero, List.replicate_succ, List.append_nil, List.nil_append, List.cons_append, List.getElem?_cons_zero, List.getElem?_cons_succ, List.set_cons_zero, List.set_cons_succ, List.length_cons, List.length_nil, List.head?_cons, Nat.reduceAdd, Nat.reduceLT, Nat.reduceLeDiff, Nat.reduceBEq, Nat.reduceEqDiff, Nat.succ_ne_zero, Nat.zero_lt_succ, Nat.le_refl, sc_rows, kc_lit, nc_lit, wlk_rows, uR_s, uR_uR, true_and, and_true, true_or, or_true, false_or, or_false, and_false, false_and, or_self, and_self, if_true, if_false, Bool.false_eq_true, Bool.or_false, Bool.or_true, Bool.false_or, Bool.true_or, not_true_eq_false, not_false_eq_true, forall_const, true_implies, false_implies, implies_true, reduceIte, reduceCtorEq, kT L, hQ.2.2.2.2.2, x5, k3, i0, i1, nI_up, o1, o2, show ((119 : Int32) = 99) = False by decide]
    refine rz_arriveNow (I := uR I 149 y) hQ hM.2.2.2.1 (whyJ_0 hM.2.2.2.1 hM.2.2.2.2.1 hw).2 _ ?_
    refine wk ((fn0_ok l)) ok_137 10 (fun pc => false) ?_
    simp only [fn0, kk_137, Option.toList_some, Option.toList_none, ex, sym, popN, goC, callOK, swL, List.map_cons, List.map_nil, List.replicate_zero, List.replicate_succ, List.append_nil, List.nil_append, List.cons_append, List.getElem?_cons_zero, List.getElem?_cons_succ, List.set_cons_zero, List.set_cons_succ, List.length_cons, List.length_nil, List.head?_cons, Nat.reduceAdd, Nat.reduceLT, Nat.reduceLeDiff, Nat.reduceBEq, Nat.reduceEqDiff, Nat.succ_ne_zero, Nat.zero_lt_succ, Nat.le_refl, sc_rows, kc_lit, nc_lit, wlk_rows, uR_s, uR_uR, true_and, and_true, true_or, or_true, false_or, or_false, and_false, false_and, or_self, and_self, if_true, if_false, Bool.false_eq_true, Bool.or_false, Bool.or_true, Bool.false_or, Bool.true_or, not_true_eq_false, not_false_eq_true, forall_const, true_implies, false_implies, implies_true, reduceIte, reduceCtorEq]
    exact h1 y (fun _ _ => rfl)
  · rw [if_neg g1] at h1 hw
    by_cases g2 : sg = 99
    · subst g2
      rw [if_pos rfl] at h1 hw
      have o3' := o3 rfl
      obtain ⟨-, -, -, t, hcal, ht, hcn⟩ := whyC_0 hL hw
      rw [hcal] at h1
      dsimp only at h1
      refine wk ((fn0_ok l)) ok_137 40 (fun pc => pc == 44 || pc == 72) ?_
      simp only [fn0, kk_137, Option.toList_some, Option.toList_none, ex, sym, popN, goC, callOK, swL, List.map_cons, List.map_nil, List.replicate_zero, List.replicate_succ, List.append_nil, List.nil_append, List.cons_append, List.getElem?_cons_zero, List.getElem?_cons_succ, List.set_cons_zero, List.set_cons_succ, List.length_cons, List.length_nil, List.head?_cons, Nat.reduceAdd, Nat.reduceLT, Nat.reduceLeDiff, Nat.reduceBEq, Nat.reduceEqDiff, Nat.succ_ne_zero, Nat.zero_lt_succ, Nat.le_refl, sc_rows, kc_lit, nc_lit, wlk_rows, uR_s, uR_uR, true_and, and_true, true_or, or_true, false_or, or_false, and_false, false_and, or_self, and_self, if_true, if_false, Bool.false_eq_true, Bool.or_false, Bool.or_true, Bool.false_or, Bool.true_or, not_true_eq_false, not_false_eq_true, forall_const, true_implies, false_implies, implies_true, reduceIte, reduceCtorEq, kT L, hQ.2.2.2.2.2, x5, k3, i0, i1, i2, n2, nI_up, o1, o2, o3']
      refine rz_callNow (I := uR I 149 y) hQ hM hL _ hcal ?_
      refine wk ((fn0_ok l)) ok_137 10 (fun pc => false) ?_
      simp only [fn0, kk_137, Option.toList_some, Option.toList_none, ex, sym, popN, goC, callOK, swL, List.map_cons, List.map_nil, List.replicate_zero, List.replicate_succ, List.append_nil, List.nil_append, List.cons_append, List.getElem?_cons_zero, List.getElem?_cons_succ, List.set_cons_zero, List.set_cons_succ, List.length_cons, List.length_nil, List.head?_cons, Nat.reduceAdd, Nat.reduceLT, Nat.reduceLeDiff, Nat.reduceBEq, Nat.reduceEqDiff, Nat.succ_ne_zero, Nat.zero_lt_succ, Nat.le_refl, sc_rows, kc_lit, nc_lit, wlk_rows, uR_s, uR_uR, true_and, and_true, true_or, or_true, false_or, or_false, and_false, false_and, or_self, and_self, if_true, if_false, Bool.false_eq_true, Bool.or_false, Bool.or_true, Bool.false_or, Bool.true_or, not_true_eq_false, not_false_eq_true, forall_const, true_implies, false_implies, implies_true, reduceIte, reduceCtorEq]
      exact h1 y (fun _ _ => rfl)
    · rw [if_neg g2] at h1 hw
      obtain ⟨N', q1, q2, q3, -⟩ := whyP_0 h5 hcc hw
      have ev : ix (nI v) = N' := by rw [q3]; exact ix_nI (by omega)
      rw [ev] at h1
      refine wk ((fn0_ok l)) ok_137 40 (fun pc => pc == 44 || pc == 53) ?_
      simp only [fn0, kk_137, Option.toList_some, Option.toList_none, ex, sym, popN, goC, callOK, swL, List.map_cons, List.map_nil, List.replicate_zero, List.replicate_succ, List.append_nil, List.nil_append, List.cons_append, List.getElem?_cons_zero, List.getElem?_cons_succ, List.set_cons_zero, List.set_cons_succ, List.length_cons, List.length_nil, List.head?_cons, Nat.reduceAdd, Nat.reduceLT, Nat.reduceLeDiff, Nat.reduceBEq, Nat.reduceEqDiff, Nat.succ_ne_zero, Nat.zero_lt_succ, Nat.le_refl, sc_rows, kc_lit, nc_lit, wlk_rows, uR_s, uR_uR, true_and, and_true, true_or, or_true, false_or, or_false, and_false, false_and, or_self, and_self, if_true, if_false, Bool.false_eq_true, Bool.or_false, Bool.or_true, Bool.false_or, Bool.true_or, not_true_eq_false, not_false_eq_true, forall_const, true_implies, false_implies, implies_true, reduceIte, reduceCtorEq, kT L, hQ.2.2.2.2.2, x5, k3, i0, i1, nI_up, o1, o2, eq_false g1, eq_false g2]
      rw [q3]
      refine rz_passNow hQ hM q2 (fun y' hy => ?_)
      refine wk ((fn0_ok l)) ok_137 10 (fun pc => false) ?_
      simp only [fn0, kk_137, Option.toList_some, Option.toList_none, ex, sym, popN, goC, callOK, swL, List.map_cons, List.map_nil, List.replicate_zero, List.replicate_succ, List.append_nil, List.nil_append, List.cons_append, List.getElem?_cons_zero, List.getElem?_cons_succ, List.set_cons_zero, List.set_cons_succ, List.length_cons, List.length_nil, List.head?_cons, Nat.reduceAdd, Nat.reduceLT, Nat.reduceLeDiff, Nat.reduceBEq, Nat.reduceEqDiff, Nat.succ_ne_zero, Nat.zero_lt_succ, Nat.le_refl, sc_rows, kc_lit, nc_lit, wlk_rows, uR_s, uR_uR, true_and, and_true, true_or, or_true, false_or, or_false, and_false, false_and, or_self, and_self, if_true, if_false, Bool.false_eq_true, Bool.or_false, Bool.or_true, Bool.false_or, Bool.true_or, not_true_eq_false, not_false_eq_true, forall_const, true_implies, false_implies, implies_true, reduceIte, reduceCtorEq]
      exact h1 y' hy
/-- the reference has recorded its state of before -/
def RCW (I I' : Nat → Nat → Int32) (a : Nat) : Prop := (∀ i, i < aSt a → Eq228 (wSt (pw (I 152)) a (I 150) i) (pw (I' 152) i)) ∧ (∀ j, j ≠ 3 → j ≠ 10 → j ≠ 11 → j ≠ 13 → j ≠ 14 → I' 149 j = I 149 j) ∧ I' 149 3 = nI (aSt a) ∧ ∀ p, (p < 149 ∨ p = 153 ∨ p = 154 ∨ 155 < p) → I' p = I p
theorem wSt_cg {w : Nat → Nat → Int32} {a : Nat} {z z' : Nat → Int32} (e : Eq228 z z') : ∀ i, Eq228 (wSt w a z i) (wSt w a z' i) := by
  intro i
  unfold wSt
  split
  · dsimp only
    split
    · exact e
    · exact Eq228.rf _
  · dsimp only
    split
    · exact e
    · exact Eq228.rf _
theorem RCW.of {I' : Nat → Nat → Int32} (h : RC I I' a) (ha : a ≤ 4) : RCW I I' a := by
  obtain ⟨h1, h2, h3, h4⟩ := h
  refine ⟨fun i hi => ?_, fun j a b c _ _ => h2 j a b c, h3, h4⟩
  rw [h1]
  exact pw_rec _ _ ha i hi
set_option maxRecDepth 100000 in
theorem r_perfLoop (hQ : QM Q) {c : Nat → Int32} {N bd : Nat} {z : Nat → Int32} (hT : TO (I 155) c N) (hN : N ≤ 20) (hbd : bd + 20 ≤ 1000000) {P : Option Value → PH → Prop} (h2 : ∀ i e, (prO c N 0 z).1 = some (i, e) → ∀ y' z', (∀ j, j ≠ 8 → j ≠ 9 → j ≠ 11 → y' j = y j) → y' 8 = nI i → y' 9 = e → P (some (.int (-4))) (SC L, uR (uR I 149 y') 150 (va_cpy (I 151) z' 0 0 228), Q)) (h3 : (prO c N 0 z).1 = none → ∀ y', (∀ j, j ≠ 11 → y' j = y j) → Sy l 138 (156, 3525) 85 [some (.ref 149), some (.int (nI N)), some (.int 0)] [] (SC L, uR (uR I 149 y') 150 (prO c N 0 z).2, Q) P ∧ Sy l 138 (156, 3525) 85 [some (.ref 149), some (.int (nI N)), none] [] (SC L, uR (uR I 149 y') 150 (prO c N 0 z).2, Q) P) (h13 : y 13 = nI N) : ∀ d i (z0 : Nat → Int32) y0 a2, i + d = N → (a2 = none ∨ a2 = some (.int 0)) → XW z0 (bd + i) → (∀ j, j ≠ 11 → y0 j = y j) → prO c d i z0 = prO c N 0 z → Sy l 138 (156, 3525) 30 [some (.ref 149), some (.int (nI i)), a2] [] (SC L, uR (uR I 149 y0) 150 z0, Q) P := by
  intro d
  induction d with
  | zero =>
    intro i z0 y0 a2 hi ha hX hy hR
    have : i = N := by omega
    subst this
    simp only [prO] at hR
    have e13 : y0 13 = nI i := (hy 13 (by omega)).trans h13
    have := h3 (by rw [← hR]) y0 hy
    rw [← hR] at this
    rcases ha with rfl | rfl
    · refine wk ((fn0_ok l)) ok_138 10 (fun pc => pc == 38 || pc == 85) ?_
      simp only [fn0, kk_138, Option.toList_some, Option.toList_none, ex, sym, popN, goC, callOK, swL, List.map_cons, List.map_nil, List.replicate_zero, List.replicate_succ, List.append_nil, List.nil_append, List.cons_append, List.getElem?_cons_zero, List.getElem?_cons_succ, List.set_cons_zero, List.set_cons_succ, List.length_cons, List.length_nil, List.head?_cons, Nat.reduceAdd, Nat.reduceLT, Nat.reduceLeDiff, Nat.reduceBEq, Nat.reduceEqDiff, Nat.succ_ne_zero, Nat.zero_lt_succ, Nat.le_refl, sc_rows, kc_lit, nc_lit, wlk_rows, uR_s, uR_uR, true_and, and_true, true_or, or_true, false_or, or_false, and_false, false_and, or_self, and_self, if_true, if_false, Bool.false_eq_true, Bool.or_false, Bool.or_true, Bool.false_or, Bool.true_or, not_true_eq_false, not_false_eq_true, forall_const, true_implies, false_implies, implies_true, reduceIte, reduceCtorEq, kT L, (x155 I y0 z0).2.1, e13, leT (Nat.le_refl i) (show i < 2147483648 by omega)]
      exact this.2
    · refine wk ((fn0_ok l)) ok_138 10 (fun pc => pc == 38 || pc == 85) ?_
      simp only [fn0, kk_138, Option.toList_some, Option.toList_none, ex, sym, popN, goC, callOK, swL, List.map_cons, List.map_nil, List.replicate_zero, List.replicate_succ, List.append_nil, List.nil_append, List.cons_append, List.getElem?_cons_zero, List.getElem?_cons_succ, List.set_cons_zero, List.set_cons_succ, List.length_cons, List.length_nil, List.head?_cons, Nat.reduceAdd, Nat.reduceLT, Nat.reduceLeDiff, Nat.reduceBEq, Nat.reduceEqDiff, Nat.succ_ne_zero, Nat.zero_lt_succ, Nat.le_refl, sc_rows, kc_lit, nc_lit, wlk_rows, uR_s, uR_uR, true_and, and_true, true_or, or_true, false_or, or_false, and_false, false_and, or_self, and_self, if_true, if_false, Bool.false_eq_true, Bool.or_false, Bool.or_true, Bool.false_or, Bool.true_or, not_true_eq_false, not_false_eq_true, forall_const, true_implies, false_implies, implies_true, reduceIte, reduceCtorEq, kT L, (x155 I y0 z0).2.1, e13, leT (Nat.le_refl i) (show i < 2147483648 by omega)]
      exact this.1
  | succ d ih =>
    intro i z0 y0 a2 hi ha hX hy hR
    obtain ⟨n0, k0', cc, hM, hE, hcc⟩ := hX.1
    obtain ⟨⟨m0, hL⟩, -⟩ := id hM
    simp only [prO] at hR
    have e13 : y0 13 = nI N := (hy 13 (by omega)).trans h13
    refine wk ((fn0_ok l)) ok_138 10 (fun pc => pc == 85) ?_
    simp only [fn0, kk_138, Option.toList_some, Option.toList_none, ex, sym, popN, goC, callOK, swL, List.map_cons, List.map_nil, List.replicate_zero, List.replicate_succ, List.append_nil, List.nil_append, List.cons_append, List.getElem?_cons_zero, List.getElem?_cons_succ, List.set_cons_zero, List.set_cons_succ, List.length_cons, List.length_nil, List.head?_cons, Nat.reduceAdd, Nat.reduceLT, Nat.reduceLeDiff, Nat.reduceBEq, Nat.reduceEqDiff, Nat.succ_ne_zero, Nat.zero_lt_succ, Nat.le_refl, sc_rows, kc_lit, nc_lit, wlk_rows, uR_s, uR_uR, true_and, and_true, true_or, or_true, false_or, or_false, and_false, false_and, or_self, and_self, if_true, if_false, Bool.false_eq_true, Bool.or_false, Bool.or_true, Bool.false_or, Bool.true_or, not_true_eq_false, not_false_eq_true, forall_const, true_implies, false_implies, implies_true, reduceIte, reduceCtorEq, kT L, (x155 I y0 z0).2.1, e13, leF (show i < N by omega) (show N < 2147483648 by omega)]
    refine r_whyO hQ hT (show i < N by omega) (by omega) hM hL ?_
    rcases whyO_c z0 (ordN c (stO c i)).2.2 with hw | hw
    · rw [if_pos hw] at hR
      refine wk ((fn0_ok l)) ok_138 20 (fun pc => pc == 74) ?_
      simp only [fn0, kk_138, Option.toList_some, Option.toList_none, ex, sym, popN, goC, callOK, swL, List.map_cons, List.map_nil, List.replicate_zero, List.replicate_succ, List.append_nil, List.nil_append, List.cons_append, List.getElem?_cons_zero, List.getElem?_cons_succ, List.set_cons_zero, List.set_cons_succ, List.length_cons, List.length_nil, List.head?_cons, Nat.reduceAdd, Nat.reduceLT, Nat.reduceLeDiff, Nat.reduceBEq, Nat.reduceEqDiff, Nat.succ_ne_zero, Nat.zero_lt_succ, Nat.le_refl, sc_rows, kc_lit, nc_lit, wlk_rows, uR_s, uR_uR, true_and, and_true, true_or, or_true, false_or, or_false, and_false, false_and, or_self, and_self, if_true, if_false, Bool.false_eq_true, Bool.or_false, Bool.or_true, Bool.false_or, Bool.true_or, not_true_eq_false, not_false_eq_true, forall_const, true_implies, false_implies, implies_true, reduceIte, reduceCtorEq, kT L, rq L, hQ.1, hQ.2.1, neg_ge hw]
      refine r_copyState (p := 151) (q := 150) (s := 0) (d := 0) ⟨rfl, by omega⟩ ⟨rfl, by omega⟩ (by omega) (by rw [(rq L).2.2.2.2.2.2.1]; omega) (by rw [(rq L).2.2.2.2.2.1]; omega) (by rw [(rq L).2.2.2.2.2.2.1]; omega) (by rw [(rq L).2.2.2.2.2.1]; omega) ?_
      rw [(x155 I y0 z0).2.2.2, (x155 I y0 z0).2.2.1, uR_uR]
      have := h2 i _ (by rw [← hR]) (upd (upd y0 8 (nI i)) 9 (whyO z0 (ordN c (stO c i)).2.2)) z0 (fun j q1 q2 q3 => by rw [upd_n _ _ q2, upd_n _ _ q1]; exact hy j q3) (by rw [upd_n _ _ (by omega), upd_e]) (upd_e _ _ _)
      refine wk ((fn0_ok l)) ok_138 20 (fun pc => false) ?_
      simp only [fn0, kk_138, Option.toList_some, Option.toList_none, ex, sym, popN, goC, callOK, swL, List.map_cons, List.map_nil, List.replicate_zero, List.replicate_succ, List.append_nil, List.nil_append, List.cons_append, List.getElem?_cons_zero, List.getElem?_cons_succ, List.set_cons_zero, List.set_cons_succ, List.length_cons, List.length_nil, List.head?_cons, Nat.reduceAdd, Nat.reduceLT, Nat.reduceLeDiff, Nat.reduceBEq, Nat.reduceEqDiff, Nat.succ_ne_zero, Nat.zero_lt_succ, Nat.le_refl, sc_rows, kc_lit, nc_lit, wlk_rows, uR_s, uR_uR, true_and, and_true, true_or, or_true, false_or, or_false, and_false, false_and, or_self, and_self, if_true, if_false, Bool.false_eq_true, Bool.or_false, Bool.or_true, Bool.false_or, Bool.true_or, not_true_eq_false, not_false_eq_true, forall_const, true_implies, false_implies, implies_true, reduceIte, reduceCtorEq, kT L, uR_149, uR_r149]
      exact this
    · rw [if_neg (by rw [hw]; decide)] at hR
      rw [hw]
      refine wk ((fn0_ok l)) ok_138 20 (fun pc => pc == 48) ?_
      simp only [fn0, kk_138, Option.toList_some, Option.toList_none, ex, sym, popN, goC, callOK, swL, List.map_cons, List.map_nil, List.replicate_zero, List.replicate_succ, List.append_nil, List.nil_append, List.cons_append, List.getElem?_cons_zero, List.getElem?_cons_succ, List.set_cons_zero, List.set_cons_succ, List.length_cons, List.length_nil, List.head?_cons, Nat.reduceAdd, Nat.reduceLT, Nat.reduceLeDiff, Nat.reduceBEq, Nat.reduceEqDiff, Nat.succ_ne_zero, Nat.zero_lt_succ, Nat.le_refl, sc_rows, kc_lit, nc_lit, wlk_rows, uR_s, uR_uR, true_and, and_true, true_or, or_true, false_or, or_false, and_false, false_and, or_self, and_self, if_true, if_false, Bool.false_eq_true, Bool.or_false, Bool.or_true, Bool.false_or, Bool.true_or, not_true_eq_false, not_false_eq_true, forall_const, true_implies, false_implies, implies_true, reduceIte, reduceCtorEq, Int32.le_refl]
      refine r_doO hQ hT (show i < N by omega) (by omega) hM hL hE.2.1 hcc hw (fun y' hy' => ?_)
      refine wk ((fn0_ok l)) ok_138 10 (fun pc => pc == 30) ?_
      simp only [fn0, kk_138, Option.toList_some, Option.toList_none, ex, sym, popN, goC, callOK, swL, List.map_cons, List.map_nil, List.replicate_zero, List.replicate_succ, List.append_nil, List.nil_append, List.cons_append, List.getElem?_cons_zero, List.getElem?_cons_succ, List.set_cons_zero, List.set_cons_succ, List.length_cons, List.length_nil, List.head?_cons, Nat.reduceAdd, Nat.reduceLT, Nat.reduceLeDiff, Nat.reduceBEq, Nat.reduceEqDiff, Nat.succ_ne_zero, Nat.zero_lt_succ, Nat.le_refl, sc_rows, kc_lit, nc_lit, wlk_rows, uR_s, uR_uR, true_and, and_true, true_or, or_true, false_or, or_false, and_false, false_and, or_self, and_self, if_true, if_false, Bool.false_eq_true, Bool.or_false, Bool.or_true, Bool.false_or, Bool.true_or, not_true_eq_false, not_false_eq_true, forall_const, true_implies, false_implies, implies_true, reduceIte, reduceCtorEq, nI_up]
      exact ih (i + 1) _ y' _ (by omega) (Or.inr rfl) (hX.act (by omega) hw) (fun j hj => (hy' j hj).trans (hy j hj)) hR
set_option maxRecDepth 100000 in
theorem r_perform (hQ : QM Q) (ha : a ≤ 4) (e3 : I 149 3 = nI a) {bd : Nat} (hbd : bd + 20 ≤ 1000000) (hX : XW (I 150) bd) (e7 : I 149 7 = nI ln) (hl : ln ≤ 60) {c : Nat → Int32} {R : Option Nat × Nat} (hc : chx (I 154) ln = c) (hR : tRN c ln 21 0 0 = R) (hN : R.1 = none → R.2 ≤ 20) (h1 : ∀ x, R.1 = some x → ∀ I', RQ I I' → P (some (.int (-100 - nI x))) (SC L, I', Q)) (h2 : R.1 = none → ∀ i e, (prO c R.2 0 (I 150)).1 = some (i, e) → ∀ I', Eq228 (I 150) (I' 150) → (∀ j, j ≠ 8 → j ≠ 9 → j ≠ 11 → j ≠ 13 → j ≠ 14 → I' 149 j = I 149 j) → I' 149 8 = nI i → I' 149 9 = e → (∀ p, (p < 149 ∨ p = 152 ∨ p = 153 ∨ p = 154 ∨ 155 < p) → I' p = I p) → P (some (.int (-4))) (SC L, I', Q)) (h3 : R.1 = none → (prO c R.2 0 (I 150)).1 = none → ∀ I', RCW I I' a → I' 150 = (prO c R.2 0 (I 150)).2 → P (some (.int (nI R.2))) (SC L, I', Q)) : Runs l 138 [.ref 149] (SC L, I, Q) P := by
  refine run0 (n := 2) mok_138 ⟨rfl, rfl⟩ rfl ?_
  refine wk ((fn0_ok l)) ok_138 10 (fun pc => false) ?_
  simp only [fn0, kk_138, Option.toList_some, Option.toList_none, ex, sym, popN, goC, callOK, swL, List.map_cons, List.map_nil, List.replicate_zero, List.replicate_succ, List.append_nil, List.nil_append, List.cons_append, List.getElem?_cons_zero, List.getElem?_cons_succ, List.set_cons_zero, List.set_cons_succ, List.length_cons, List.length_nil, List.head?_cons, Nat.reduceAdd, Nat.reduceLT, Nat.reduceLeDiff, Nat.reduceBEq, Nat.reduceEqDiff, Nat.succ_ne_zero, Nat.zero_lt_succ, Nat.le_refl, sc_rows, kc_lit, nc_lit, wlk_rows, uR_s, uR_uR, true_and, and_true, true_or, or_true, false_or, or_false, and_false, false_and, or_self, and_self, if_true, if_false, Bool.false_eq_true, Bool.or_false, Bool.or_true, Bool.false_or, Bool.true_or, not_true_eq_false, not_false_eq_true, forall_const, true_implies, false_implies, implies_true, reduceIte, reduceCtorEq]
  refine r_readText hQ e7 hl (fun I1 f1 q1 q2 => ?_)
  rw [hc, hR] at q1 q2 ⊢
  cases hr : R.1 with
  | some x =>
    have e14 := q1 x hr
    have := h1 x hr I1 ⟨by rw [f1.1 150 (by omega) (by omega)]; exact Eq228.rf _, fun j a b c d => f1.2 j c d, fun p hp => f1.1 p (by omega) (by omega)⟩
    have eb : b2 (some x = (none : Option Nat)) = 0 := b2_f (by simp)
    refine wk ((fn0_ok l)) ok_138 10 (fun pc => pc == 15) ?_
    simp only [fn0, kk_138, Option.toList_some, Option.toList_none, ex, sym, popN, goC, callOK, swL, List.map_cons, List.map_nil, List.replicate_zero, List.replicate_succ, List.append_nil, List.nil_append, List.cons_append, List.getElem?_cons_zero, List.getElem?_cons_succ, List.set_cons_zero, List.set_cons_succ, List.length_cons, List.length_nil, List.head?_cons, Nat.reduceAdd, Nat.reduceLT, Nat.reduceLeDiff, Nat.reduceBEq, Nat.reduceEqDiff, Nat.succ_ne_zero, Nat.zero_lt_succ, Nat.le_refl, sc_rows, kc_lit, nc_lit, wlk_rows, uR_s, uR_uR, true_and, and_true, true_or, or_true, false_or, or_false, and_false, false_and, or_self, and_self, if_true, if_false, Bool.false_eq_true, Bool.or_false, Bool.or_true, Bool.false_or, Bool.true_or, not_true_eq_false, not_false_eq_true, forall_const, true_implies, false_implies, implies_true, reduceIte, reduceCtorEq, kT L, eb, b2_F, e14]
    exact this
  | none =>
    obtain ⟨e13, hT⟩ := q2 hr
    have hN' := hN hr
    have eb : b2 ((none : Option Nat) = none) = 1 := b2_t rfl
    have e150 : I1 150 = I 150 := f1.1 150 (by omega) (by omega)
    have e151 : I1 151 = I 151 := f1.1 151 (by omega) (by omega)
    refine wk ((fn0_ok l)) ok_138 20 (fun pc => pc == 7) ?_
    simp only [fn0, kk_138, Option.toList_some, Option.toList_none, ex, sym, popN, goC, callOK, swL, List.map_cons, List.map_nil, List.replicate_zero, List.replicate_succ, List.append_nil, List.nil_append, List.cons_append, List.getElem?_cons_zero, List.getElem?_cons_succ, List.set_cons_zero, List.set_cons_succ, List.length_cons, List.length_nil, List.head?_cons, Nat.reduceAdd, Nat.reduceLT, Nat.reduceLeDiff, Nat.reduceBEq, Nat.reduceEqDiff, Nat.succ_ne_zero, Nat.zero_lt_succ, Nat.le_refl, sc_rows, kc_lit, nc_lit, wlk_rows, uR_s, uR_uR, true_and, and_true, true_or, or_true, false_or, or_false, and_false, false_and, or_self, and_self, if_true, if_false, Bool.false_eq_true, Bool.or_false, Bool.or_true, Bool.false_or, Bool.true_or, not_true_eq_false, not_false_eq_true, forall_const, true_implies, false_implies, implies_true, reduceIte, reduceCtorEq, kT L, rq L, hQ.1, hQ.2.1, eb, b2_T, nz_lit]
    refine r_copyState (p := 150) (q := 151) (s := 0) (d := 0) ⟨rfl, by omega⟩ ⟨rfl, by omega⟩ (by omega) (by rw [(rq L).2.2.2.2.2.1]; omega) (by rw [(rq L).2.2.2.2.2.2.1]; omega) (by rw [(rq L).2.2.2.2.2.1]; omega) (by rw [(rq L).2.2.2.2.2.2.1]; omega) ?_
    rw [e150, e151]
    have shape : uR I1 151 (va_cpy (I 150) (I 151) 0 0 228) = uR (uR (uR I1 151 (va_cpy (I 150) (I 151) 0 0 228)) 149 (I1 149)) 150 (I 150) := by
      funext q
      by_cases e : q = 150
      · subst e; rw [uR_s, uR_n _ _ (by omega)]; exact e150
      · rw [uR_n _ _ e]
        by_cases e2 : q = 149
        · subst e2; rw [uR_s, uR_n _ _ (by omega)]
        · rw [uR_n _ _ e2]
    rw [shape]
    have hT' : TO (uR I1 151 (va_cpy (I 150) (I 151) 0 0 228) 155) c R.2 := by rw [uR_n _ _ (by omega)]; exact hT
    have s151 : uR I1 151 (va_cpy (I 150) (I 151) 0 0 228) 151 = va_cpy (I 150) (I 151) 0 0 228 := uR_s _ _ _
    have cp1 : Eq228 (I 150) (va_cpy (I 150) (I 151) 0 0 228) := fun q hq => by
      have := cpy_to (I 150) (I 151) 0 q hq
      rw [this]
      simp only [Nat.zero_add]
    refine wk ((fn0_ok l)) ok_138 10 (fun pc => pc == 30) ?_
    simp only [fn0, kk_138, Option.toList_some, Option.toList_none, ex, sym, popN, goC, callOK, swL, List.map_cons, List.map_nil, List.replicate_zero, List.replicate_succ, List.append_nil, List.nil_append, List.cons_append, List.getElem?_cons_zero, List.getElem?_cons_succ, List.set_cons_zero, List.set_cons_succ, List.length_cons, List.length_nil, List.head?_cons, Nat.reduceAdd, Nat.reduceLT, Nat.reduceLeDiff, Nat.reduceBEq, Nat.reduceEqDiff, Nat.succ_ne_zero, Nat.zero_lt_succ, Nat.le_refl, sc_rows, kc_lit, nc_lit, wlk_rows, uR_s, uR_uR, true_and, and_true, true_or, or_true, false_or, or_false, and_false, false_and, or_self, and_self, if_true, if_false, Bool.false_eq_true, Bool.or_false, Bool.or_true, Bool.false_or, Bool.true_or, not_true_eq_false, not_false_eq_true, forall_const, true_implies, false_implies, implies_true, reduceIte, reduceCtorEq]
    refine r_perfLoop (I := uR I1 151 (va_cpy (I 150) (I 151) 0 0 228)) (y := I1 149) (z := I 150) (bd := bd) hQ hT' hN' hbd (fun i e hp y' z' p1 p2 p3 => ?_) (fun hp y' p1 => ?_) e13 R.2 0 (I 150) (I1 149) none (by omega) (Or.inl rfl) hX (fun _ _ => rfl) rfl
    · rw [s151]
      refine h2 hr i e hp _ ?_ ?_ ?_ ?_ ?_
      · rw [uR_s]
        intro q hq
        have := cpy_to (va_cpy (I 150) (I 151) 0 0 228) z' 0 q hq
        rw [this]
        simp only [Nat.zero_add]
        exact cp1 q hq
      · intro j j8 j9 j11 j13 j14
        rw [uR_n _ _ (by omega), uR_s, p1 j j8 j9 j11]
        exact f1.2 j j13 j14
      · rw [uR_n _ _ (by omega), uR_s, p2]
      · rw [uR_n _ _ (by omega), uR_s, p3]
      · intro p hp'
        rw [uR_n _ _ (by omega), uR_n _ _ (by omega), uR_n _ _ (by omega)]
        exact f1.1 p (by omega) (by omega)
    · have base : ∀ a2, Sy l 138 (156, 3525) 85 [some (.ref 149), some (.int (nI R.2)), a2] [] (SC L, uR (uR (uR I1 151 (va_cpy (I 150) (I 151) 0 0 228)) 149 y') 150 (prO c R.2 0 (I 150)).2, Q) P := fun a2 => by
        have y3 : uR (uR (uR I1 151 (va_cpy (I 150) (I 151) 0 0 228)) 149 y') 150 (prO c R.2 0 (I 150)).2 149 3 = nI a := by
          rw [uR_n _ _ (by omega), uR_s, p1 3 (by omega), f1.2 3 (by omega) (by omega)]; exact e3
        refine wk ((fn0_ok l)) ok_138 10 (fun pc => false) ?_
        simp only [fn0, kk_138, Option.toList_some, Option.toList_none, ex, sym, popN, goC, callOK, swL, List.map_cons, List.map_nil, List.replicate_zero, List.replicate_succ, List.append_nil, List.nil_append, List.cons_append, List.getElem?_cons_zero, List.getElem?_cons_succ, List.set_cons_zero, List.set_cons_succ, List.length_cons, List.length_nil, List.head?_cons, Nat.reduceAdd, Nat.reduceLT, Nat.reduceLeDiff, Nat.reduceBEq, Nat.reduceEqDiff, Nat.succ_ne_zero, Nat.zero_lt_succ, Nat.le_refl, sc_rows, kc_lit, nc_lit, wlk_rows, uR_s, uR_uR, true_and, and_true, true_or, or_true, false_or, or_false, and_false, false_and, or_self, and_self, if_true, if_false, Bool.false_eq_true, Bool.or_false, Bool.or_true, Bool.false_or, Bool.true_or, not_true_eq_false, not_false_eq_true, forall_const, true_implies, false_implies, implies_true, reduceIte, reduceCtorEq, kT L, rq L, hQ.2.1]
        refine r_recordRow hQ (Or.inr rfl) ha y3 (fun I' b1 b2' b3 => ?_)
        have z13 : I' 149 13 = nI R.2 := by rw [b2', upd_n _ _ (by omega), uR_n _ _ (by omega), uR_s, p1 13 (by omega)]; exact e13
        refine wk ((fn0_ok l)) ok_138 10 (fun pc => false) ?_
        simp only [fn0, kk_138, Option.toList_some, Option.toList_none, ex, sym, popN, goC, callOK, swL, List.map_cons, List.map_nil, List.replicate_zero, List.replicate_succ, List.append_nil, List.nil_append, List.cons_append, List.getElem?_cons_zero, List.getElem?_cons_succ, List.set_cons_zero, List.set_cons_succ, List.length_cons, List.length_nil, List.head?_cons, Nat.reduceAdd, Nat.reduceLT, Nat.reduceLeDiff, Nat.reduceBEq, Nat.reduceEqDiff, Nat.succ_ne_zero, Nat.zero_lt_succ, Nat.le_refl, sc_rows, kc_lit, nc_lit, wlk_rows, uR_s, uR_uR, true_and, and_true, true_or, or_true, false_or, or_false, and_false, false_and, or_self, and_self, if_true, if_false, Bool.false_eq_true, Bool.or_false, Bool.or_true, Bool.false_or, Bool.true_or, not_true_eq_false, not_false_eq_true, forall_const, true_implies, false_implies, implies_true, reduceIte, reduceCtorEq, kT L, z13]
        refine h3 hr hp I' ⟨fun i hi => ?_, fun j j3 j10 j11 j13 j14 => ?_, by rw [b2', upd_e], fun p hp' => ?_⟩ ?_
        · rw [b1]
          have e152 : uR (uR (uR I1 151 (va_cpy (I 150) (I 151) 0 0 228)) 149 y') 150 (prO c R.2 0 (I 150)).2 152 = I 152 := by rw [uR_n _ _ (by omega), uR_n _ _ (by omega), uR_n _ _ (by omega)]; exact f1.1 152 (by omega) (by omega)
          have e151' : uR (uR (uR I1 151 (va_cpy (I 150) (I 151) 0 0 228)) 149 y') 150 (prO c R.2 0 (I 150)).2 151 = va_cpy (I 150) (I 151) 0 0 228 := by rw [uR_n _ _ (by omega), uR_n _ _ (by omega), uR_s]
          rw [e152, e151']
          exact (wSt_cg cp1 i).tr (pw_rec _ _ ha i hi)
        · rw [b2', upd_n _ _ j3, uR_n _ _ (by omega), uR_s, p1 j j11]
          exact f1.2 j j13 j14
        · rw [b3 p (by omega) (by omega), uR_n _ _ (by omega), uR_n _ _ (by omega), uR_n _ _ (by omega)]
          exact f1.1 p (by omega) (by omega)
        · rw [b3 150 (by omega) (by omega), uR_s]
      exact ⟨base _, base _⟩
end J3
