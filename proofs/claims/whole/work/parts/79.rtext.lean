/-! the text: the reference reads -/
section H4
variable {l : Launch} {L : Nat} {I : Nat → Nat → Int32} {Q : Nat → Nat → Option Nat} {P : Option Value → PH → Prop} {ln s : Nat}
def RT (I : Nat → Nat → Int32) (ln s : Nat) : Prop := I 149 7 = nI ln ∧ I 149 14 = nI s ∧ ln ≤ 60 ∧ s ≤ 100
def a14 (I : Nat → Nat → Int32) (s : Nat) : Nat → Nat → Int32 := uR I 149 (upd (I 149) 14 (nI s))
theorem RT.at (h : RT I ln s) {s' : Nat} (hs : s' ≤ 100) : RT (a14 I s') ln s' := by
  obtain ⟨a, b, c, d⟩ := h
  unfold RT a14
  rw [uR_s, upd_e, upd_n _ _ (by omega)]
  exact ⟨a, rfl, c, hs⟩
theorem a14_o (I : Nat → Nat → Int32) (s : Nat) {p : Nat} (h : p ≠ 149) : a14 I s p = I p := uR_n _ _ h
theorem a14_a14 (I : Nat → Nat → Int32) (s s' : Nat) : a14 (a14 I s) s' = a14 I s' := by
  unfold a14
  rw [uR_s, uR_uR, upd_upd]
theorem a14_self (h : I 149 14 = nI s) : a14 I s = I := by
  unfold a14
  rw [← h, upd_id, uR_self]
theorem kT (L : Nat) : KC 149 = 6 ∧ KC 154 = 7 ∧ KC 155 = 7 ∧ NC L 154 = 60 ∧ NC L 155 = 66 := ⟨rfl, rfl, rfl, rfl, rfl⟩
set_option maxRecDepth 100000 in
theorem r_sees (hQ : QM Q) (h : RT I ln s) (lo hi : Int32) (hlo : ¬ lo ≤ 0) (h1 : P (some (.int (b2 (lo ≤ chx (I 154) ln s ∧ chx (I 154) ln s ≤ hi)))) (SC L, I, Q)) : Runs l 131 [.ref 149, .int lo, .int hi] (SC L, I, Q) P := by
  obtain ⟨a, b, d, e⟩ := h
  refine run0 (n := 0) mok_131 ⟨rfl, rfl⟩ rfl ?_
  by_cases g : s < ln
  · have ec : chx (I 154) ln s = I 154 s := by unfold chx; rw [if_pos g]
    rw [ec] at h1
    by_cases g2 : lo ≤ I 154 s ∧ I 154 s ≤ hi
    · rw [b2_t g2] at h1
      refine wk (fn3_ok l L) ok_131 20 (fun pc => pc == 32) ?_
      simp only [fn3, kk_131, Option.toList_some, Option.toList_none, ex, sym, popN, goC, callOK, swL, List.map_cons, List.map_nil, List.replicate_zero, List.replicate_succ, List.append_nil, List.nil_append, List.cons_append, List.getElem?_cons_zero, List.getElem?_cons_succ, List.set_cons_zero, List.set_cons_succ, List.length_cons, List.length_nil, List.head?_cons, Nat.reduceAdd, Nat.reduceLT, Nat.reduceLeDiff, Nat.reduceBEq, Nat.reduceEqDiff, Nat.succ_ne_zero, Nat.zero_lt_succ, Nat.le_refl, sc_rows, kc_lit, nc_lit, wlk_rows, uR_s, uR_uR, true_and, and_true, true_or, or_true, false_or, or_false, and_false, false_and, or_self, and_self, if_true, if_false, Bool.false_eq_true, Bool.or_false, Bool.or_true, Bool.false_or, Bool.true_or, not_true_eq_false, not_false_eq_true, forall_const, true_implies, false_implies, implies_true, reduceIte, reduceCtorEq, kT L, a, b, hQ.2.2.2.2.1, leF g (show ln < 2147483648 by omega), ixp (show s < 60 by omega) (by omega), b2_t g2, nz_lit, fA_in, fA_size, fA_of, fA_lay, fA_tally, fA_waits, MOKh_eq, setZ_eq, ix_lit, in_lit, lt_lit, cl_lit, nz_lit, fn1, fn2, fA_stays, fA_tired, fA_begin, fA_fare, fA_place, fA_may]
      exact h1
    · rw [b2_f g2] at h1
      refine wk (fn3_ok l L) ok_131 20 (fun pc => pc == 28) ?_
      simp only [fn3, kk_131, Option.toList_some, Option.toList_none, ex, sym, popN, goC, callOK, swL, List.map_cons, List.map_nil, List.replicate_zero, List.replicate_succ, List.append_nil, List.nil_append, List.cons_append, List.getElem?_cons_zero, List.getElem?_cons_succ, List.set_cons_zero, List.set_cons_succ, List.length_cons, List.length_nil, List.head?_cons, Nat.reduceAdd, Nat.reduceLT, Nat.reduceLeDiff, Nat.reduceBEq, Nat.reduceEqDiff, Nat.succ_ne_zero, Nat.zero_lt_succ, Nat.le_refl, sc_rows, kc_lit, nc_lit, wlk_rows, uR_s, uR_uR, true_and, and_true, true_or, or_true, false_or, or_false, and_false, false_and, or_self, and_self, if_true, if_false, Bool.false_eq_true, Bool.or_false, Bool.or_true, Bool.false_or, Bool.true_or, not_true_eq_false, not_false_eq_true, forall_const, true_implies, false_implies, implies_true, reduceIte, reduceCtorEq, kT L, a, b, hQ.2.2.2.2.1, leF g (show ln < 2147483648 by omega), ixp (show s < 60 by omega) (by omega), b2_f g2, fA_in, fA_size, fA_of, fA_lay, fA_tally, fA_waits, MOKh_eq, setZ_eq, ix_lit, in_lit, lt_lit, cl_lit, nz_lit, fn1, fn2, fA_stays, fA_tired, fA_begin, fA_fare, fA_place, fA_may]
      exact h1
  · rw [chx_0 _ (by omega), b2_f (fun q => hlo q.1)] at h1
    refine wk (fn3_ok l L) ok_131 20 (fun pc => pc == 11) ?_
    simp only [fn3, kk_131, Option.toList_some, Option.toList_none, ex, sym, popN, goC, callOK, swL, List.map_cons, List.map_nil, List.replicate_zero, List.replicate_succ, List.append_nil, List.nil_append, List.cons_append, List.getElem?_cons_zero, List.getElem?_cons_succ, List.set_cons_zero, List.set_cons_succ, List.length_cons, List.length_nil, List.head?_cons, Nat.reduceAdd, Nat.reduceLT, Nat.reduceLeDiff, Nat.reduceBEq, Nat.reduceEqDiff, Nat.succ_ne_zero, Nat.zero_lt_succ, Nat.le_refl, sc_rows, kc_lit, nc_lit, wlk_rows, uR_s, uR_uR, true_and, and_true, true_or, or_true, false_or, or_false, and_false, false_and, or_self, and_self, if_true, if_false, Bool.false_eq_true, Bool.or_false, Bool.or_true, Bool.false_or, Bool.true_or, not_true_eq_false, not_false_eq_true, forall_const, true_implies, false_implies, implies_true, reduceIte, reduceCtorEq, kT L, a, b, leT (show ln ≤ s by omega) (show s < 2147483648 by omega), fA_in, fA_size, fA_of, fA_lay, fA_tally, fA_waits, MOKh_eq, setZ_eq, ix_lit, in_lit, lt_lit, cl_lit, nz_lit, fn1, fn2, fA_stays, fA_tired, fA_begin, fA_fare, fA_place, fA_may]
    exact h1
set_option maxRecDepth 100000 in
theorem r_takes (hQ : QM Q) (h : RT I ln s) (sg : Int32) (hlo : ¬ sg ≤ 0) (h1 : chx (I 154) ln s = sg → P (some (.int 1)) (SC L, a14 I (s + 1), Q)) (h2 : chx (I 154) ln s ≠ sg → P (some (.int 0)) (SC L, I, Q)) : Runs l 132 [.ref 149, .int sg] (SC L, I, Q) P := by
  refine run0 (n := 1) mok_132 ⟨rfl, rfl⟩ rfl ?_
  refine wk ((fn0_ok l)) ok_132 20 (fun pc => false) ?_
  simp only [fn0, kk_132, Option.toList_some, Option.toList_none, ex, sym, popN, goC, callOK, swL, List.map_cons, List.map_nil, List.replicate_zero, List.replicate_succ, List.append_nil, List.nil_append, List.cons_append, List.getElem?_cons_zero, List.getElem?_cons_succ, List.set_cons_zero, List.set_cons_succ, List.length_cons, List.length_nil, List.head?_cons, Nat.reduceAdd, Nat.reduceLT, Nat.reduceLeDiff, Nat.reduceBEq, Nat.reduceEqDiff, Nat.succ_ne_zero, Nat.zero_lt_succ, Nat.le_refl, sc_rows, kc_lit, nc_lit, wlk_rows, uR_s, uR_uR, true_and, and_true, true_or, or_true, false_or, or_false, and_false, false_and, or_self, and_self, if_true, if_false, Bool.false_eq_true, Bool.or_false, Bool.or_true, Bool.false_or, Bool.true_or, not_true_eq_false, not_false_eq_true, forall_const, true_implies, false_implies, implies_true, reduceIte, reduceCtorEq, kT L]
  refine r_sees hQ h sg sg hlo ?_
  have b := h.2.1
  by_cases g : chx (I 154) ln s = sg
  · have e : b2 (sg ≤ chx (I 154) ln s ∧ chx (I 154) ln s ≤ sg) = 1 := b2_t ⟨by rw [g]; exact Int32.le_refl _, by rw [g]; exact Int32.le_refl _⟩
    rw [e]
    have fold : uR I 149 (upd (I 149) 14 (nI (s + 1))) = a14 I (s + 1) := rfl
    refine wk ((fn0_ok l)) ok_132 20 (fun pc => pc == 20) ?_
    simp only [fn0, kk_132, Option.toList_some, Option.toList_none, ex, sym, popN, goC, callOK, swL, List.map_cons, List.map_nil, List.replicate_zero, List.replicate_succ, List.append_nil, List.nil_append, List.cons_append, List.getElem?_cons_zero, List.getElem?_cons_succ, List.set_cons_zero, List.set_cons_succ, List.length_cons, List.length_nil, List.head?_cons, Nat.reduceAdd, Nat.reduceLT, Nat.reduceLeDiff, Nat.reduceBEq, Nat.reduceEqDiff, Nat.succ_ne_zero, Nat.zero_lt_succ, Nat.le_refl, sc_rows, kc_lit, nc_lit, wlk_rows, uR_s, uR_uR, true_and, and_true, true_or, or_true, false_or, or_false, and_false, false_and, or_self, and_self, if_true, if_false, Bool.false_eq_true, Bool.or_false, Bool.or_true, Bool.false_or, Bool.true_or, not_true_eq_false, not_false_eq_true, forall_const, true_implies, false_implies, implies_true, reduceIte, reduceCtorEq, kT L, nz_lit, b, nI_up, fold]
    exact h1 g
  · have e : b2 (sg ≤ chx (I 154) ln s ∧ chx (I 154) ln s ≤ sg) = 0 := b2_f (fun q => g (by
      have q1 := Int32.le_iff_toInt_le.mp q.1
      have q2 := Int32.le_iff_toInt_le.mp q.2
      exact Int32.toInt_inj.mp (by omega)))
    rw [e]
    have fold : uR I 149 (upd (I 149) 14 (nI s)) = I := a14_self b
    refine wk ((fn0_ok l)) ok_132 20 (fun pc => pc == 16) ?_
    simp only [fn0, kk_132, Option.toList_some, Option.toList_none, ex, sym, popN, goC, callOK, swL, List.map_cons, List.map_nil, List.replicate_zero, List.replicate_succ, List.append_nil, List.nil_append, List.cons_append, List.getElem?_cons_zero, List.getElem?_cons_succ, List.set_cons_zero, List.set_cons_succ, List.length_cons, List.length_nil, List.head?_cons, Nat.reduceAdd, Nat.reduceLT, Nat.reduceLeDiff, Nat.reduceBEq, Nat.reduceEqDiff, Nat.succ_ne_zero, Nat.zero_lt_succ, Nat.le_refl, sc_rows, kc_lit, nc_lit, wlk_rows, uR_s, uR_uR, true_and, and_true, true_or, or_true, false_or, or_false, and_false, false_and, or_self, and_self, if_true, if_false, Bool.false_eq_true, Bool.or_false, Bool.or_true, Bool.false_or, Bool.true_or, not_true_eq_false, not_false_eq_true, forall_const, true_implies, false_implies, implies_true, reduceIte, reduceCtorEq, kT L, b, Int32.add_zero, fold]
    exact h2 g
theorem RT.sp (h : RT I ln s) : a14 I s = I := a14_self h.2.1
theorem chx_lt {f : Nat → Int32} (h : 48 ≤ chx f ln s) : s < ln := Decidable.byContradiction (fun q => by
  rw [chx_0 _ (by omega)] at h
  exact absurd h (by decide))
set_option maxRecDepth 100000 in
theorem r_numLoop (hQ : QM Q) {lo H : Nat} (hH : H ≤ 999) {v s' : Nat} (hend : ¬ (0 < v ∧ (48 ≤ chx (I 154) ln s' ∧ chx (I 154) ln s' ≤ 57) ∧ 10 * v + dgt (chx (I 154) ln s') ≤ H)) (h1 : P (some (.int (nI v))) (SC L, a14 I s', Q)) (h0 : RT I ln s) : ∀ f x s1, x ≤ 999 → s1 + f ≤ 100 → numN (chx (I 154) ln) H f x s1 = (v, s') → Sy l 133 (156, 3525) 39 [some (.ref 149), some (.int (nI lo)), some (.int (nI H)), some (.int (nI x))] [] (SC L, a14 I s1, Q) P := by
  have stop : ∀ x s1, x ≤ 999 → s1 ≤ 100 → ¬ (0 < x ∧ (48 ≤ chx (I 154) ln s1 ∧ chx (I 154) ln s1 ≤ 57) ∧ 10 * x + dgt (chx (I 154) ln s1) ≤ H) → P (some (.int (nI x))) (SC L, a14 I s1, Q) → Sy l 133 (156, 3525) 39 [some (.ref 149), some (.int (nI lo)), some (.int (nI H)), some (.int (nI x))] [] (SC L, a14 I s1, Q) P := by
    intro x s1 hx hs1 hst hP
    have rt := h0.at hs1
    by_cases x0 : x = 0
    · subst x0
      refine wk ((fn0_ok l)) ok_133 10 (fun pc => pc == 43) ?_
      simp only [fn0, kk_133, Option.toList_some, Option.toList_none, ex, sym, popN, goC, callOK, swL, List.map_cons, List.map_nil, List.replicate_zero, List.replicate_succ, List.append_nil, List.nil_append, List.cons_append, List.getElem?_cons_zero, List.getElem?_cons_succ, List.set_cons_zero, List.set_cons_succ, List.length_cons, List.length_nil, List.head?_cons, Nat.reduceAdd, Nat.reduceLT, Nat.reduceLeDiff, Nat.reduceBEq, Nat.reduceEqDiff, Nat.succ_ne_zero, Nat.zero_lt_succ, Nat.le_refl, sc_rows, kc_lit, nc_lit, wlk_rows, uR_s, uR_uR, true_and, and_true, true_or, or_true, false_or, or_false, and_false, false_and, or_self, and_self, if_true, if_false, Bool.false_eq_true, Bool.or_false, Bool.or_true, Bool.false_or, Bool.true_or, not_true_eq_false, not_false_eq_true, forall_const, true_implies, false_implies, implies_true, reduceIte, reduceCtorEq, show (nI 0 ≤ 0) = True by decide]
      exact hP
    · have l0 : (nI x ≤ 0) = False := by rw [show (0 : Int32) = nI 0 from rfl]; exact leF (by omega) (by omega)
      refine wk ((fn0_ok l)) ok_133 10 (fun pc => pc == 106) ?_
      simp only [fn0, kk_133, Option.toList_some, Option.toList_none, ex, sym, popN, goC, callOK, swL, List.map_cons, List.map_nil, List.replicate_zero, List.replicate_succ, List.append_nil, List.nil_append, List.cons_append, List.getElem?_cons_zero, List.getElem?_cons_succ, List.set_cons_zero, List.set_cons_succ, List.length_cons, List.length_nil, List.head?_cons, Nat.reduceAdd, Nat.reduceLT, Nat.reduceLeDiff, Nat.reduceBEq, Nat.reduceEqDiff, Nat.succ_ne_zero, Nat.zero_lt_succ, Nat.le_refl, sc_rows, kc_lit, nc_lit, wlk_rows, uR_s, uR_uR, true_and, and_true, true_or, or_true, false_or, or_false, and_false, false_and, or_self, and_self, if_true, if_false, Bool.false_eq_true, Bool.or_false, Bool.or_true, Bool.false_or, Bool.true_or, not_true_eq_false, not_false_eq_true, forall_const, true_implies, false_implies, implies_true, reduceIte, reduceCtorEq, kT L, l0]
      refine r_sees hQ rt 48 57 (by decide) ?_
      rw [a14_o _ _ (by omega)]
      by_cases gd : 48 ≤ chx (I 154) ln s1 ∧ chx (I 154) ln s1 ≤ 57
      · rw [b2_t gd]
        have hlt := chx_lt gd.1
        have ec : chx (I 154) ln s1 = I 154 s1 := by unfold chx; rw [if_pos hlt]
        have ed := (isD_dgt gd).1
        have d9 := (isD_dgt gd).2
        generalize dgt (chx (I 154) ln s1) = d at ed d9 hst
        rw [ec] at ed
        have e154 : a14 I s1 154 s1 = nI (48 + d) := by rw [a14_o _ _ (by omega)]; exact ed
        have el : (10 : Int32) * nI x + nI (48 + d) - 48 = nI (10 * x + d) := by
          rw [show (10 : Int32) = nI 10 from rfl, pk_mul, nI_add, show (48 : Int32) = nI 48 from rfl, nI_sub (by omega)]
          congr 1
          omega
        have lg : (nI H < nI (10 * x + d)) = True := ltT (Nat.lt_of_not_le (fun q => hst ⟨by omega, gd, q⟩)) (by omega)
        refine wk ((fn0_ok l)) ok_133 30 (fun pc => pc == 75) ?_
        simp only [fn0, kk_133, Option.toList_some, Option.toList_none, ex, sym, popN, goC, callOK, swL, List.map_cons, List.map_nil, List.replicate_zero, List.replicate_succ, List.append_nil, List.nil_append, List.cons_append, List.getElem?_cons_zero, List.getElem?_cons_succ, List.set_cons_zero, List.set_cons_succ, List.length_cons, List.length_nil, List.head?_cons, Nat.reduceAdd, Nat.reduceLT, Nat.reduceLeDiff, Nat.reduceBEq, Nat.reduceEqDiff, Nat.succ_ne_zero, Nat.zero_lt_succ, Nat.le_refl, sc_rows, kc_lit, nc_lit, wlk_rows, uR_s, uR_uR, true_and, and_true, true_or, or_true, false_or, or_false, and_false, false_and, or_self, and_self, if_true, if_false, Bool.false_eq_true, Bool.or_false, Bool.or_true, Bool.false_or, Bool.true_or, not_true_eq_false, not_false_eq_true, forall_const, true_implies, false_implies, implies_true, reduceIte, reduceCtorEq, kT L, nz_lit, hQ.2.2.2.2.1, rt.2.1, ixp (show s1 < 60 by have := h0.2.2.1; omega) (by omega), e154, el, lg]
        exact hP
      · rw [b2_f gd]
        refine wk ((fn0_ok l)) ok_133 30 (fun pc => pc == 54) ?_
        simp only [fn0, kk_133, Option.toList_some, Option.toList_none, ex, sym, popN, goC, callOK, swL, List.map_cons, List.map_nil, List.replicate_zero, List.replicate_succ, List.append_nil, List.nil_append, List.cons_append, List.getElem?_cons_zero, List.getElem?_cons_succ, List.set_cons_zero, List.set_cons_succ, List.length_cons, List.length_nil, List.head?_cons, Nat.reduceAdd, Nat.reduceLT, Nat.reduceLeDiff, Nat.reduceBEq, Nat.reduceEqDiff, Nat.succ_ne_zero, Nat.zero_lt_succ, Nat.le_refl, sc_rows, kc_lit, nc_lit, wlk_rows, uR_s, uR_uR, true_and, and_true, true_or, or_true, false_or, or_false, and_false, false_and, or_self, and_self, if_true, if_false, Bool.false_eq_true, Bool.or_false, Bool.or_true, Bool.false_or, Bool.true_or, not_true_eq_false, not_false_eq_true, forall_const, true_implies, false_implies, implies_true, reduceIte, reduceCtorEq]
        exact hP
  intro f
  induction f with
  | zero =>
    intro x s1 hx hs1 he
    simp only [numN] at he
    have q1 := congrArg Prod.fst he
    have q2 := congrArg Prod.snd he
    dsimp only at q1 q2
    rw [← q1, ← q2] at hend h1
    exact stop x s1 hx (by omega) hend h1
  | succ f ih =>
    intro x s1 hx hs1 he
    simp only [numN] at he
    by_cases g : 0 < x ∧ (48 ≤ chx (I 154) ln s1 ∧ chx (I 154) ln s1 ≤ 57) ∧ 10 * x + dgt (chx (I 154) ln s1) ≤ H
    · rw [if_pos g] at he
      have rt := h0.at (s' := s1) (by omega)
      obtain ⟨x0, gd, gh⟩ := g
      have l0 : (nI x ≤ 0) = False := by rw [show (0 : Int32) = nI 0 from rfl]; exact leF (by omega) (by omega)
      have hlt := chx_lt gd.1
      have ec : chx (I 154) ln s1 = I 154 s1 := by unfold chx; rw [if_pos hlt]
      have ed := (isD_dgt gd).1
      have d9 := (isD_dgt gd).2
      refine wk ((fn0_ok l)) ok_133 10 (fun pc => pc == 106) ?_
      simp only [fn0, kk_133, Option.toList_some, Option.toList_none, ex, sym, popN, goC, callOK, swL, List.map_cons, List.map_nil, List.replicate_zero, List.replicate_succ, List.append_nil, List.nil_append, List.cons_append, List.getElem?_cons_zero, List.getElem?_cons_succ, List.set_cons_zero, List.set_cons_succ, List.length_cons, List.length_nil, List.head?_cons, Nat.reduceAdd, Nat.reduceLT, Nat.reduceLeDiff, Nat.reduceBEq, Nat.reduceEqDiff, Nat.succ_ne_zero, Nat.zero_lt_succ, Nat.le_refl, sc_rows, kc_lit, nc_lit, wlk_rows, uR_s, uR_uR, true_and, and_true, true_or, or_true, false_or, or_false, and_false, false_and, or_self, and_self, if_true, if_false, Bool.false_eq_true, Bool.or_false, Bool.or_true, Bool.false_or, Bool.true_or, not_true_eq_false, not_false_eq_true, forall_const, true_implies, false_implies, implies_true, reduceIte, reduceCtorEq, kT L, l0]
      refine r_sees hQ rt 48 57 (by decide) ?_
      rw [a14_o _ _ (by omega), b2_t gd]
      generalize dgt (chx (I 154) ln s1) = d at ed d9 gh he
      rw [ec] at ed
      have e154 : a14 I s1 154 s1 = nI (48 + d) := by rw [a14_o _ _ (by omega)]; exact ed
      have el : (10 : Int32) * nI x + nI (48 + d) - 48 = nI (10 * x + d) := by
        rw [show (10 : Int32) = nI 10 from rfl, pk_mul, nI_add, show (48 : Int32) = nI 48 from rfl, nI_sub (by omega)]
        congr 1
        omega
      have fold : uR (a14 I s1) 149 (upd (a14 I s1 149) 14 (nI (s1 + 1))) = a14 I (s1 + 1) := a14_a14 I s1 (s1 + 1)
      have := ih (10 * x + d) (s1 + 1) (by omega) (by omega) he
      refine wk ((fn0_ok l)) ok_133 40 (fun pc => pc == 106 || pc == 39) ?_
      simp only [fn0, kk_133, Option.toList_some, Option.toList_none, ex, sym, popN, goC, callOK, swL, List.map_cons, List.map_nil, List.replicate_zero, List.replicate_succ, List.append_nil, List.nil_append, List.cons_append, List.getElem?_cons_zero, List.getElem?_cons_succ, List.set_cons_zero, List.set_cons_succ, List.length_cons, List.length_nil, List.head?_cons, Nat.reduceAdd, Nat.reduceLT, Nat.reduceLeDiff, Nat.reduceBEq, Nat.reduceEqDiff, Nat.succ_ne_zero, Nat.zero_lt_succ, Nat.le_refl, sc_rows, kc_lit, nc_lit, wlk_rows, uR_s, uR_uR, true_and, and_true, true_or, or_true, false_or, or_false, and_false, false_and, or_self, and_self, if_true, if_false, Bool.false_eq_true, Bool.or_false, Bool.or_true, Bool.false_or, Bool.true_or, not_true_eq_false, not_false_eq_true, forall_const, true_implies, false_implies, implies_true, reduceIte, reduceCtorEq, kT L, nz_lit, hQ.2.2.2.2.1, rt.2.1, ixp (show s1 < 60 by have := h0.2.2.1; omega) (by omega), e154, el, ltF gh (show H < 2147483648 by omega), nI_up, fold]
      exact this
    · rw [if_neg g] at he
      have q1 := congrArg Prod.fst he
      have q2 := congrArg Prod.snd he
      dsimp only at q1 q2
      rw [← q2] at h1
      rw [← q1] at h1
      exact stop x s1 hx (by omega) g h1
set_option maxRecDepth 100000 in
theorem r_num (hQ : QM Q) (h : RT I ln s) (hs : s ≤ 90) {lo H : Nat} (hlo : lo ≤ 1) (hH : 9 ≤ H ∧ H ≤ 999) (h1 : num0 (chx (I 154) ln) lo H s = none → P (some (.int (-5))) (SC L, I, Q)) (h2 : ∀ v s', num0 (chx (I 154) ln) lo H s = some (v, s') → v ≤ 999 → P (some (.int (nI v))) (SC L, a14 I s', Q)) : Runs l 133 [.ref 149, .int (nI lo), .int (nI H)] (SC L, I, Q) P := by
  refine run0 (n := 1) mok_133 ⟨rfl, rfl⟩ rfl ?_
  have e48 : (48 : Int32) + nI lo = nI (48 + lo) := by rw [show (48 : Int32) = nI 48 from rfl, nI_add]
  refine wk ((fn0_ok l)) ok_133 10 (fun pc => false) ?_
  simp only [fn0, kk_133, Option.toList_some, Option.toList_none, ex, sym, popN, goC, callOK, swL, List.map_cons, List.map_nil, List.replicate_zero, List.replicate_succ, List.append_nil, List.nil_append, List.cons_append, List.getElem?_cons_zero, List.getElem?_cons_succ, List.set_cons_zero, List.set_cons_succ, List.length_cons, List.length_nil, List.head?_cons, Nat.reduceAdd, Nat.reduceLT, Nat.reduceLeDiff, Nat.reduceBEq, Nat.reduceEqDiff, Nat.succ_ne_zero, Nat.zero_lt_succ, Nat.le_refl, sc_rows, kc_lit, nc_lit, wlk_rows, uR_s, uR_uR, true_and, and_true, true_or, or_true, false_or, or_false, and_false, false_and, or_self, and_self, if_true, if_false, Bool.false_eq_true, Bool.or_false, Bool.or_true, Bool.false_or, Bool.true_or, not_true_eq_false, not_false_eq_true, forall_const, true_implies, false_implies, implies_true, reduceIte, reduceCtorEq, kT L, e48]
  refine r_sees hQ h (nI (48 + lo)) 57 (by rw [show (0 : Int32) = nI 0 from rfl, nI_leI (by omega) (by omega)]; omega) ?_
  have key : (nI (48 + lo) ≤ chx (I 154) ln s ∧ chx (I 154) ln s ≤ 57) ↔ ((48 ≤ chx (I 154) ln s ∧ chx (I 154) ln s ≤ 57) ∧ lo ≤ dgt (chx (I 154) ln s)) := by
    constructor
    · intro q
      have q48 : 48 ≤ chx (I 154) ln s := i32_le_trans (by rw [show (48 : Int32) = nI 48 from rfl, nI_leI (by omega) (by omega)]; omega) q.1
      refine ⟨⟨q48, q.2⟩, ?_⟩
      obtain ⟨e, d9⟩ := isD_dgt ⟨q48, q.2⟩
      have := q.1
      generalize dgt (chx (I 154) ln s) = d at e d9 ⊢
      rw [e, nI_leI (by omega) (by omega)] at this
      omega
    · intro q
      refine ⟨?_, q.1.2⟩
      obtain ⟨e, d9⟩ := isD_dgt q.1
      have q2 := q.2
      generalize dgt (chx (I 154) ln s) = d at e d9 q2
      rw [e, nI_leI (by omega) (by omega)]
      omega
  unfold num0 at h1
  by_cases g : (48 ≤ chx (I 154) ln s ∧ chx (I 154) ln s ≤ 57) ∧ lo ≤ dgt (chx (I 154) ln s)
  · rw [b2_t (key.mpr g)]
    have hlt := chx_lt g.1.1
    have ec : chx (I 154) ln s = I 154 s := by unfold chx; rw [if_pos hlt]
    obtain ⟨ed, d9⟩ := isD_dgt g.1
    have en : num0 (chx (I 154) ln) lo H s = some (numN (chx (I 154) ln) H 3 (dgt (chx (I 154) ln s)) (s + 1)) := by unfold num0; rw [if_pos g]
    cases hv : numN (chx (I 154) ln) H 3 (dgt (chx (I 154) ln s)) (s + 1) with
    | mk v s' =>
      rw [hv] at en
      have hend := num0_end (c := chx (I 154) ln) hH.2 en
      have hb := (num0_s en).2.1
      have := r_numLoop (l := l) (L := L) (I := I) (P := P) (lo := lo) hQ hH.2 hend (h2 v s' en (by omega)) h 3 _ (s + 1) (by omega) (by omega) hv
      generalize dgt (chx (I 154) ln s) = d at ed d9 this
      rw [ec] at ed
      have e48' : nI (48 + d) - 48 = nI d := by
        rw [show (48 : Int32) = nI 48 from rfl, nI_sub (by omega)]
        congr 1
        omega
      have fold : uR I 149 (upd (I 149) 14 (nI (s + 1))) = a14 I (s + 1) := rfl
      refine wk ((fn0_ok l)) ok_133 40 (fun pc => pc == 39 || pc == 13) ?_
      simp only [fn0, kk_133, Option.toList_some, Option.toList_none, ex, sym, popN, goC, callOK, swL, List.map_cons, List.map_nil, List.replicate_zero, List.replicate_succ, List.append_nil, List.nil_append, List.cons_append, List.getElem?_cons_zero, List.getElem?_cons_succ, List.set_cons_zero, List.set_cons_succ, List.length_cons, List.length_nil, List.head?_cons, Nat.reduceAdd, Nat.reduceLT, Nat.reduceLeDiff, Nat.reduceBEq, Nat.reduceEqDiff, Nat.succ_ne_zero, Nat.zero_lt_succ, Nat.le_refl, sc_rows, kc_lit, nc_lit, wlk_rows, uR_s, uR_uR, true_and, and_true, true_or, or_true, false_or, or_false, and_false, false_and, or_self, and_self, if_true, if_false, Bool.false_eq_true, Bool.or_false, Bool.or_true, Bool.false_or, Bool.true_or, not_true_eq_false, not_false_eq_true, forall_const, true_implies, false_implies, implies_true, reduceIte, reduceCtorEq, kT L, nz_lit, hQ.2.2.2.2.1, h.2.1, ixp (show s < 60 by have := h.2.2.1; omega) (by omega), ed, e48', nI_up, fold]
      exact this
  · rw [b2_f (fun q => g (key.mp q))]
    rw [if_neg g] at h1
    refine wk ((fn0_ok l)) ok_133 10 (fun pc => pc == 16) ?_
    simp only [fn0, kk_133, Option.toList_some, Option.toList_none, ex, sym, popN, goC, callOK, swL, List.map_cons, List.map_nil, List.replicate_zero, List.replicate_succ, List.append_nil, List.nil_append, List.cons_append, List.getElem?_cons_zero, List.getElem?_cons_succ, List.set_cons_zero, List.set_cons_succ, List.length_cons, List.length_nil, List.head?_cons, Nat.reduceAdd, Nat.reduceLT, Nat.reduceLeDiff, Nat.reduceBEq, Nat.reduceEqDiff, Nat.succ_ne_zero, Nat.zero_lt_succ, Nat.le_refl, sc_rows, kc_lit, nc_lit, wlk_rows, uR_s, uR_uR, true_and, and_true, true_or, or_true, false_or, or_false, and_false, false_and, or_self, and_self, if_true, if_false, Bool.false_eq_true, Bool.or_false, Bool.or_true, Bool.false_or, Bool.true_or, not_true_eq_false, not_false_eq_true, forall_const, true_implies, false_implies, implies_true, reduceIte, reduceCtorEq]
    exact h1 rfl
end H4
