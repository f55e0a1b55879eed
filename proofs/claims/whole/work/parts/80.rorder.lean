/-! the text: the reference's orders -/
section H5
variable {l : Launch} {L : Nat} {I : Nat → Nat → Int32} {Q : Nat → Nat → Option Nat} {P : Option Value → PH → Prop} {ln s : Nat}
/-- the orders that the reference has told -/
def TO (f : Nat → Int32) (c : Nat → Int32) (j : Nat) : Prop := ∀ i, i < j → f (3 * i) = (ordN c (stO c i)).2.2.1 ∧ f (3 * i + 1) = nI (ordN c (stO c i)).2.2.2.1 ∧ ((ordN c (stO c i)).2.2.1 = 99 → f (3 * i + 2) = nI (ordN c (stO c i)).2.2.2.2)
/-- an order told -/
def TE (f : Nat → Int32) (j : Nat) (r : Int32 × Nat × Nat) : Prop := f (3 * j) = r.1 ∧ f (3 * j + 1) = nI r.2.1 ∧ (r.1 = 99 → f (3 * j + 2) = nI r.2.2)
theorem TO.up {f f' : Nat → Int32} {c : Nat → Int32} {j : Nat} (h : TO f c j) (e : ∀ i, i < 3 * j → f' i = f i) (h2 : TE f' j (ordN c (stO c j)).2.2) : TO f' c (j + 1) := by
  intro i hi
  by_cases q : i = j
  · subst q; exact h2
  · rw [e _ (by omega), e _ (by omega), e _ (by omega)]
    exact h i (by omega)
/-- the reader's rows behind an order: told, its number, the spot -/
def ro (I : Nat → Nat → Int32) (g : Nat → Int32) (j s : Nat) : Nat → Nat → Int32 := uR (uR I 155 g) 149 (upd (upd (I 149) 14 (nI s)) 13 (nI j))
theorem ro_of (I : Nat → Nat → Int32) (g : Nat → Int32) (j s : Nat) : uR (a14 (uR I 155 g) s) 149 (upd (a14 (uR I 155 g) s 149) 13 (nI j)) = ro I g j s := by
  unfold a14 ro
  rw [uR_s, uR_uR, uR_n I g (show 149 ≠ 155 by omega)]
theorem u155 (I : Nat → Nat → Int32) (g g' : Nat → Int32) (s : Nat) : uR (a14 (uR I 155 g) s) 155 g' = a14 (uR I 155 g') s := by
  unfold a14
  rw [uR_n I g (show 149 ≠ 155 by omega), uR_n I g' (show 149 ≠ 155 by omega), uR_comm _ _ _ (show 149 ≠ 155 by omega), uR_uR]
theorem a155 (I : Nat → Nat → Int32) (g : Nat → Int32) (s : Nat) : a14 (uR I 155 g) s 155 = g := by rw [a14_o _ _ (by omega), uR_s]
theorem a155' (I : Nat → Nat → Int32) (s : Nat) (g : Nat → Int32) : uR (a14 I s) 155 g = a14 (uR I 155 g) s := by
  unfold a14
  rw [uR_n I g (show 149 ≠ 155 by omega), uR_comm _ _ _ (show 149 ≠ 155 by omega)]
theorem RT.told (h : RT I ln s) (g : Nat → Int32) : RT (uR I 155 g) ln s := by
  unfold RT
  rw [uR_n I g (show 149 ≠ 155 by omega)]
  exact h
theorem a154 (I : Nat → Nat → Int32) (g : Nat → Int32) (s : Nat) : a14 (uR I 155 g) s 154 = I 154 := by rw [a14_o _ _ (by omega), uR_n _ _ (by omega)]
set_option maxRecDepth 100000 in
set_option maxHeartbeats 6000000 in
theorem r_order (hQ : QM Q) (h : RT I ln s) (hs : s ≤ 70) {j : Nat} (hj : I 149 13 = nI j) (hj2 : j ≤ 20) (h1 : ∀ g, (∀ i, i < 3 * j → g i = I 155 i) → ((ordN (chx (I 154) ln) s).1 = true → TE g j (ordN (chx (I 154) ln) s).2.2) → P (some (.int (b2 ((ordN (chx (I 154) ln) s).1 = true)))) (SC L, ro I g (j + 1) (ordN (chx (I 154) ln) s).2.1, Q)) : Runs l 134 [.ref 149] (SC L, I, Q) P := by
  generalize hc : chx (I 154) ln = c at h1
  have fin : ∀ r, ordN c s = r → ∀ g, (∀ i, i < 3 * j → g i = I 155 i) → (r.1 = true → TE g j r.2.2) → P (some (.int (b2 (r.1 = true)))) (SC L, ro I g (j + 1) r.2.1, Q) := fun r e g e1 e2 => by
    subst e
    exact h1 g e1 e2
  have k3 : (3 : Int32) * nI j = nI (3 * j) := (nI_add27 j).2.2
  have i0 : vp_in (nI (3 * j)) 66 ∧ (nI (3 * j)).toNatClampNeg = 3 * j := ixp (by omega) (by omega)
  have i1 : vp_in (nI (3 * j + 1)) 66 ∧ (nI (3 * j + 1)).toNatClampNeg = 3 * j + 1 := ixp (by omega) (by omega)
  have i2 : vp_in (nI (3 * j + 2)) 66 ∧ (nI (3 * j + 2)).toNatClampNeg = 3 * j + 2 := ixp (by omega) (by omega)
  have n2 : nI (3 * j) + 2 = nI (3 * j + 2) := nI_add _ 2
  have a13 : ∀ g t, a14 (uR I 155 g) t 149 13 = nI j := fun g t => by
    unfold a14
    rw [uR_s, upd_n _ _ (by omega), uR_n I g (show 149 ≠ 155 by omega)]
    exact hj
  have oc1 := h.at (s' := s + 1) (by omega)
  have self155 : ∀ t, a14 I t = a14 (uR I 155 (I 155)) t := fun t => by rw [uR_self]
  have e0 : a14 (uR I 155 (I 155)) s = I := by rw [uR_self]; exact h.sp
  have last : ∀ (r : Bool × Nat × Int32 × Nat × Nat) g (v2 : Int32), ordN c s = r → (∀ i, i < 3 * j → g i = I 155 i) → (r.1 = true → TE g j r.2.2) → v2 = b2 (r.1 = true) → Sy l 134 (156, 3525) 258 [some (.ref 149), some (.int (nI (3 * j))), some (.int v2)] [] (SC L, a14 (uR I 155 g) r.2.1, Q) P := by
    intro r g v2 e e1 e2 e3
    subst e3
    have := fin r e g e1 e2
    rw [← ro_of] at this
    refine wk ((fn0_ok l)) ok_134 30 (fun pc => false) ?_
    simp only [fn0, kk_134, Option.toList_some, Option.toList_none, ex, sym, popN, goC, callOK, swL, List.map_cons, List.map_nil, List.replicate_zero, List.replicate_succ, List.append_nil, List.nil_append, List.cons_append, List.getElem?_cons_zero, List.getElem?_cons_succ, List.set_cons_zero, List.set_cons_succ, List.length_cons, List.length_nil, List.head?_cons, Nat.reduceAdd, Nat.reduceLT, Nat.reduceLeDiff, Nat.reduceBEq, Nat.reduceEqDiff, Nat.succ_ne_zero, Nat.zero_lt_succ, Nat.le_refl, sc_rows, kc_lit, nc_lit, wlk_rows, uR_s, uR_uR, true_and, and_true, true_or, or_true, false_or, or_false, and_false, false_and, or_self, and_self, if_true, if_false, Bool.false_eq_true, Bool.or_false, Bool.or_true, Bool.false_or, Bool.true_or, not_true_eq_false, not_false_eq_true, forall_const, true_implies, false_implies, implies_true, reduceIte, reduceCtorEq, kT L, a13, nI_up, b2_01]
    exact this
  refine run0 (n := 2) mok_134 ⟨rfl, rfl⟩ rfl ?_
  refine wk ((fn0_ok l)) ok_134 10 (fun pc => false) ?_
  simp only [fn0, kk_134, Option.toList_some, Option.toList_none, ex, sym, popN, goC, callOK, swL, List.map_cons, List.map_nil, List.replicate_zero, List.replicate_succ, List.append_nil, List.nil_append, List.cons_append, List.getElem?_cons_zero, List.getElem?_cons_succ, List.set_cons_zero, List.set_cons_succ, List.length_cons, List.length_nil, List.head?_cons, Nat.reduceAdd, Nat.reduceLT, Nat.reduceLeDiff, Nat.reduceBEq, Nat.reduceEqDiff, Nat.succ_ne_zero, Nat.zero_lt_succ, Nat.le_refl, sc_rows, kc_lit, nc_lit, wlk_rows, uR_s, uR_uR, true_and, and_true, true_or, or_true, false_or, or_false, and_false, false_and, or_self, and_self, if_true, if_false, Bool.false_eq_true, Bool.or_false, Bool.or_true, Bool.false_or, Bool.true_or, not_true_eq_false, not_false_eq_true, forall_const, true_implies, false_implies, implies_true, reduceIte, reduceCtorEq, kT L, hj, k3]
  refine r_takes hQ h 119 (by decide) (fun w => ?_) (fun w => ?_)
  · rw [hc] at w
    have eo : ordN c s = match num0 c 0 20 (s + 1) with
      | none => (false, s + 1, 119, 0, 0)
      | some (v, s1) => (decide (v ≠ 10), s1, 119, v, 0) := by unfold ordN; rw [if_pos w]; cases num0 c 0 20 (s + 1) <;> rfl
    rw [self155]
    refine wk ((fn0_ok l)) ok_134 20 (fun pc => pc == 74) ?_
    simp only [fn0, kk_134, Option.toList_some, Option.toList_none, ex, sym, popN, goC, callOK, swL, List.map_cons, List.map_nil, List.replicate_zero, List.replicate_succ, List.append_nil, List.nil_append, List.cons_append, List.getElem?_cons_zero, List.getElem?_cons_succ, List.set_cons_zero, List.set_cons_succ, List.length_cons, List.length_nil, List.head?_cons, Nat.reduceAdd, Nat.reduceLT, Nat.reduceLeDiff, Nat.reduceBEq, Nat.reduceEqDiff, Nat.succ_ne_zero, Nat.zero_lt_succ, Nat.le_refl, sc_rows, kc_lit, nc_lit, wlk_rows, uR_s, uR_uR, true_and, and_true, true_or, or_true, false_or, or_false, and_false, false_and, or_self, and_self, if_true, if_false, Bool.false_eq_true, Bool.or_false, Bool.or_true, Bool.false_or, Bool.true_or, not_true_eq_false, not_false_eq_true, forall_const, true_implies, false_implies, implies_true, reduceIte, reduceCtorEq, kT L, hQ.2.2.2.2.2, i0, nz_lit, a155, u155, nI_up]
    have rt : RT (a14 (uR I 155 (upd (I 155) (3 * j) 119)) (s + 1)) ln (s + 1) := (h.told _).at (by omega)
    refine r_num (lo := 0) (H := 20) hQ rt (by omega) (by omega) (by omega) (fun hn => ?_) (fun v s' hn hv => ?_)
    · rw [a154, hc] at hn
      rw [hn] at eo
      dsimp only at eo
      refine wk ((fn0_ok l)) ok_134 20 (fun pc => pc == 258 || pc == 65 || pc == 52) ?_
      simp only [fn0, kk_134, Option.toList_some, Option.toList_none, ex, sym, popN, goC, callOK, swL, List.map_cons, List.map_nil, List.replicate_zero, List.replicate_succ, List.append_nil, List.nil_append, List.cons_append, List.getElem?_cons_zero, List.getElem?_cons_succ, List.set_cons_zero, List.set_cons_succ, List.length_cons, List.length_nil, List.head?_cons, Nat.reduceAdd, Nat.reduceLT, Nat.reduceLeDiff, Nat.reduceBEq, Nat.reduceEqDiff, Nat.succ_ne_zero, Nat.zero_lt_succ, Nat.le_refl, sc_rows, kc_lit, nc_lit, wlk_rows, uR_s, uR_uR, true_and, and_true, true_or, or_true, false_or, or_false, and_false, false_and, or_self, and_self, if_true, if_false, Bool.false_eq_true, Bool.or_false, Bool.or_true, Bool.false_or, Bool.true_or, not_true_eq_false, not_false_eq_true, forall_const, true_implies, false_implies, implies_true, reduceIte, reduceCtorEq, kT L, nI_up, hQ.2.2.2.2.2, i1, a155, u155, upd_e]
      exact last _ (upd (upd (I 155) (3 * j) 119) (3 * j + 1) (-5)) 0 eo (fun i hi => by rw [upd_n _ _ (by omega), upd_n _ _ (by omega)]) (fun q => by cases q) rfl
    · rw [a154, hc] at hn
      rw [hn] at eo
      dsimp only at eo
      rw [a14_a14]
      have n5 : (nI v = -5) = False := n5F (by omega)
      have te : TE (upd (upd (I 155) (3 * j) 119) (3 * j + 1) (nI v)) j (119, v, 0) := ⟨by rw [upd_n _ _ (by omega), upd_e], by rw [upd_e], fun q => absurd (show (119 : Int32) = 99 from q) (by decide)⟩
      by_cases g10 : v = 10
      · subst g10
        refine wk ((fn0_ok l)) ok_134 30 (fun pc => pc == 258 || pc == 65) ?_
        simp only [fn0, kk_134, Option.toList_some, Option.toList_none, ex, sym, popN, goC, callOK, swL, List.map_cons, List.map_nil, List.replicate_zero, List.replicate_succ, List.append_nil, List.nil_append, List.cons_append, List.getElem?_cons_zero, List.getElem?_cons_succ, List.set_cons_zero, List.set_cons_succ, List.length_cons, List.length_nil, List.head?_cons, Nat.reduceAdd, Nat.reduceLT, Nat.reduceLeDiff, Nat.reduceBEq, Nat.reduceEqDiff, Nat.succ_ne_zero, Nat.zero_lt_succ, Nat.le_refl, sc_rows, kc_lit, nc_lit, wlk_rows, uR_s, uR_uR, true_and, and_true, true_or, or_true, false_or, or_false, and_false, false_and, or_self, and_self, if_true, if_false, Bool.false_eq_true, Bool.or_false, Bool.or_true, Bool.false_or, Bool.true_or, not_true_eq_false, not_false_eq_true, forall_const, true_implies, false_implies, implies_true, reduceIte, reduceCtorEq, kT L, nI_up, hQ.2.2.2.2.2, i1, a155, u155, upd_e, show nI 10 = (10 : Int32) from rfl, show ((10 : Int32) = -5) = False by decide]
        exact last _ (upd (upd (I 155) (3 * j) 119) (3 * j + 1) 10) 0 eo (fun i hi => by rw [upd_n _ _ (by omega), upd_n _ _ (by omega)]) (fun q => by simp at q) (by simp [b2])
      · have e10 : (nI v = 10) = False := by rw [show (10 : Int32) = nI 10 from rfl]; exact eqF g10 (by omega) (by omega)
        refine wk ((fn0_ok l)) ok_134 30 (fun pc => pc == 258 || pc == 69) ?_
        simp only [fn0, kk_134, Option.toList_some, Option.toList_none, ex, sym, popN, goC, callOK, swL, List.map_cons, List.map_nil, List.replicate_zero, List.replicate_succ, List.append_nil, List.nil_append, List.cons_append, List.getElem?_cons_zero, List.getElem?_cons_succ, List.set_cons_zero, List.set_cons_succ, List.length_cons, List.length_nil, List.head?_cons, Nat.reduceAdd, Nat.reduceLT, Nat.reduceLeDiff, Nat.reduceBEq, Nat.reduceEqDiff, Nat.succ_ne_zero, Nat.zero_lt_succ, Nat.le_refl, sc_rows, kc_lit, nc_lit, wlk_rows, uR_s, uR_uR, true_and, and_true, true_or, or_true, false_or, or_false, and_false, false_and, or_self, and_self, if_true, if_false, Bool.false_eq_true, Bool.or_false, Bool.or_true, Bool.false_or, Bool.true_or, not_true_eq_false, not_false_eq_true, forall_const, true_implies, false_implies, implies_true, reduceIte, reduceCtorEq, kT L, nI_up, hQ.2.2.2.2.2, i1, a155, u155, upd_e, n5, e10]
        exact last _ (upd (upd (I 155) (3 * j) 119) (3 * j + 1) (nI v)) 1 eo (fun i hi => by rw [upd_n _ _ (by omega), upd_n _ _ (by omega)]) (fun _ => te) (by simp [b2, g10])
  · rw [hc] at w
    refine wk ((fn0_ok l)) ok_134 10 (fun pc => pc == 16) ?_
    simp only [fn0, kk_134, Option.toList_some, Option.toList_none, ex, sym, popN, goC, callOK, swL, List.map_cons, List.map_nil, List.replicate_zero, List.replicate_succ, List.append_nil, List.nil_append, List.cons_append, List.getElem?_cons_zero, List.getElem?_cons_succ, List.set_cons_zero, List.set_cons_succ, List.length_cons, List.length_nil, List.head?_cons, Nat.reduceAdd, Nat.reduceLT, Nat.reduceLeDiff, Nat.reduceBEq, Nat.reduceEqDiff, Nat.succ_ne_zero, Nat.zero_lt_succ, Nat.le_refl, sc_rows, kc_lit, nc_lit, wlk_rows, uR_s, uR_uR, true_and, and_true, true_or, or_true, false_or, or_false, and_false, false_and, or_self, and_self, if_true, if_false, Bool.false_eq_true, Bool.or_false, Bool.or_true, Bool.false_or, Bool.true_or, not_true_eq_false, not_false_eq_true, forall_const, true_implies, false_implies, implies_true, reduceIte, reduceCtorEq, kT L]
    refine r_takes hQ h 99 (by decide) (fun w2 => ?_) (fun w2 => ?_)
    · rw [hc] at w2
      have eo : ordN c s = match num0 c 0 20 (s + 1) with
        | none => (false, s + 1, 99, 0, 0)
        | some (v, s1) => if c s1 = 62 then match num0 c 0 20 (s1 + 1) with
            | none => (false, s1 + 1, 99, v, 0)
            | some (u, s2) => (decide (u ≠ v), s2, 99, v, u)
          else (false, s1, 99, v, 0) := by unfold ordN; rw [if_neg w, if_pos w2]; cases num0 c 0 20 (s + 1) <;> rfl
      rw [self155]
      refine wk ((fn0_ok l)) ok_134 20 (fun pc => pc == 199) ?_
      simp only [fn0, kk_134, Option.toList_some, Option.toList_none, ex, sym, popN, goC, callOK, swL, List.map_cons, List.map_nil, List.replicate_zero, List.replicate_succ, List.append_nil, List.nil_append, List.cons_append, List.getElem?_cons_zero, List.getElem?_cons_succ, List.set_cons_zero, List.set_cons_succ, List.length_cons, List.length_nil, List.head?_cons, Nat.reduceAdd, Nat.reduceLT, Nat.reduceLeDiff, Nat.reduceBEq, Nat.reduceEqDiff, Nat.succ_ne_zero, Nat.zero_lt_succ, Nat.le_refl, sc_rows, kc_lit, nc_lit, wlk_rows, uR_s, uR_uR, true_and, and_true, true_or, or_true, false_or, or_false, and_false, false_and, or_self, and_self, if_true, if_false, Bool.false_eq_true, Bool.or_false, Bool.or_true, Bool.false_or, Bool.true_or, not_true_eq_false, not_false_eq_true, forall_const, true_implies, false_implies, implies_true, reduceIte, reduceCtorEq, kT L, hQ.2.2.2.2.2, i0, nz_lit, a155, u155, nI_up]
      have rt : RT (a14 (uR I 155 (upd (I 155) (3 * j) 99)) (s + 1)) ln (s + 1) := (h.told _).at (by omega)
      refine r_num (lo := 0) (H := 20) hQ rt (by omega) (by omega) (by omega) (fun hn => ?_) (fun v s' hn hv => ?_)
      · rw [a154, hc] at hn
        rw [hn] at eo
        have r2 : upd (upd (upd (I 155) (3 * j) 99) (3 * j + 1) (-5)) (3 * j + 2) (-5) (3 * j + 2) = -5 := upd_e _ _ _
        refine wk ((fn0_ok l)) ok_134 20 (fun pc => pc == 119 || pc == 132) ?_
        simp only [fn0, kk_134, Option.toList_some, Option.toList_none, ex, sym, popN, goC, callOK, swL, List.map_cons, List.map_nil, List.replicate_zero, List.replicate_succ, List.append_nil, List.nil_append, List.cons_append, List.getElem?_cons_zero, List.getElem?_cons_succ, List.set_cons_zero, List.set_cons_succ, List.length_cons, List.length_nil, List.head?_cons, Nat.reduceAdd, Nat.reduceLT, Nat.reduceLeDiff, Nat.reduceBEq, Nat.reduceEqDiff, Nat.succ_ne_zero, Nat.zero_lt_succ, Nat.le_refl, sc_rows, kc_lit, nc_lit, wlk_rows, uR_s, uR_uR, true_and, and_true, true_or, or_true, false_or, or_false, and_false, false_and, or_self, and_self, if_true, if_false, Bool.false_eq_true, Bool.or_false, Bool.or_true, Bool.false_or, Bool.true_or, not_true_eq_false, not_false_eq_true, forall_const, true_implies, false_implies, implies_true, reduceIte, reduceCtorEq, kT L, nI_up, hQ.2.2.2.2.2, i1, a155, u155, upd_e]
        refine wk ((fn0_ok l)) ok_134 30 (fun pc => pc == 171 || pc == 194 || pc == 145) ?_
        simp only [fn0, kk_134, Option.toList_some, Option.toList_none, ex, sym, popN, goC, callOK, swL, List.map_cons, List.map_nil, List.replicate_zero, List.replicate_succ, List.append_nil, List.nil_append, List.cons_append, List.getElem?_cons_zero, List.getElem?_cons_succ, List.set_cons_zero, List.set_cons_succ, List.length_cons, List.length_nil, List.head?_cons, Nat.reduceAdd, Nat.reduceLT, Nat.reduceLeDiff, Nat.reduceBEq, Nat.reduceEqDiff, Nat.succ_ne_zero, Nat.zero_lt_succ, Nat.le_refl, sc_rows, kc_lit, nc_lit, wlk_rows, uR_s, uR_uR, true_and, and_true, true_or, or_true, false_or, or_false, and_false, false_and, or_self, and_self, if_true, if_false, Bool.false_eq_true, Bool.or_false, Bool.or_true, Bool.false_or, Bool.true_or, not_true_eq_false, not_false_eq_true, forall_const, true_implies, false_implies, implies_true, reduceIte, reduceCtorEq, kT L, nI_up, hQ.2.2.2.2.2, i2, n2, a155, u155, upd_e]
        refine wk ((fn0_ok l)) ok_134 10 (fun pc => pc == 258) ?_
        simp only [fn0, kk_134, Option.toList_some, Option.toList_none, ex, sym, popN, goC, callOK, swL, List.map_cons, List.map_nil, List.replicate_zero, List.replicate_succ, List.append_nil, List.nil_append, List.cons_append, List.getElem?_cons_zero, List.getElem?_cons_succ, List.set_cons_zero, List.set_cons_succ, List.length_cons, List.length_nil, List.head?_cons, Nat.reduceAdd, Nat.reduceLT, Nat.reduceLeDiff, Nat.reduceBEq, Nat.reduceEqDiff, Nat.succ_ne_zero, Nat.zero_lt_succ, Nat.le_refl, sc_rows, kc_lit, nc_lit, wlk_rows, uR_s, uR_uR, true_and, and_true, true_or, or_true, false_or, or_false, and_false, false_and, or_self, and_self, if_true, if_false, Bool.false_eq_true, Bool.or_false, Bool.or_true, Bool.false_or, Bool.true_or, not_true_eq_false, not_false_eq_true, forall_const, true_implies, false_implies, implies_true, reduceIte, reduceCtorEq]
        exact last _ (upd (upd (upd (I 155) (3 * j) 99) (3 * j + 1) (-5)) (3 * j + 2) (-5)) 0 eo (fun i hi => by rw [upd_n _ _ (by omega), upd_n _ _ (by omega), upd_n _ _ (by omega)]) (fun q => by cases q) rfl
      · rw [a154, hc] at hn
        rw [hn] at eo
        dsimp only at eo
        rw [a14_a14]
        have n5 : (nI v = -5) = False := n5F (by omega)
        have su := num0_u hn
        have rt2 : RT (a14 (uR I 155 (upd (upd (I 155) (3 * j) 99) (3 * j + 1) (nI v))) s') ln s' := (h.told _).at (by omega)
        refine wk ((fn0_ok l)) ok_134 20 (fun pc => pc == 132) ?_
        simp only [fn0, kk_134, Option.toList_some, Option.toList_none, ex, sym, popN, goC, callOK, swL, List.map_cons, List.map_nil, List.replicate_zero, List.replicate_succ, List.append_nil, List.nil_append, List.cons_append, List.getElem?_cons_zero, List.getElem?_cons_succ, List.set_cons_zero, List.set_cons_succ, List.length_cons, List.length_nil, List.head?_cons, Nat.reduceAdd, Nat.reduceLT, Nat.reduceLeDiff, Nat.reduceBEq, Nat.reduceEqDiff, Nat.succ_ne_zero, Nat.zero_lt_succ, Nat.le_refl, sc_rows, kc_lit, nc_lit, wlk_rows, uR_s, uR_uR, true_and, and_true, true_or, or_true, false_or, or_false, and_false, false_and, or_self, and_self, if_true, if_false, Bool.false_eq_true, Bool.or_false, Bool.or_true, Bool.false_or, Bool.true_or, not_true_eq_false, not_false_eq_true, forall_const, true_implies, false_implies, implies_true, reduceIte, reduceCtorEq, kT L, nI_up, hQ.2.2.2.2.2, i1, a155, u155, upd_e, n5]
        refine r_takes hQ rt2 62 (by decide) (fun g62 => ?_) (fun g62 => ?_)
        · rw [a154, hc] at g62
          rw [if_pos g62] at eo
          rw [a14_a14]
          have rt3 : RT (a14 (uR I 155 (upd (upd (I 155) (3 * j) 99) (3 * j + 1) (nI v))) (s' + 1)) ln (s' + 1) := (h.told _).at (by omega)
          refine wk ((fn0_ok l)) ok_134 30 (fun pc => pc == 155 || pc == 132) ?_
          simp only [fn0, kk_134, Option.toList_some, Option.toList_none, ex, sym, popN, goC, callOK, swL, List.map_cons, List.map_nil, List.replicate_zero, List.replicate_succ, List.append_nil, List.nil_append, List.cons_append, List.getElem?_cons_zero, List.getElem?_cons_succ, List.set_cons_zero, List.set_cons_succ, List.length_cons, List.length_nil, List.head?_cons, Nat.reduceAdd, Nat.reduceLT, Nat.reduceLeDiff, Nat.reduceBEq, Nat.reduceEqDiff, Nat.succ_ne_zero, Nat.zero_lt_succ, Nat.le_refl, sc_rows, kc_lit, nc_lit, wlk_rows, uR_s, uR_uR, true_and, and_true, true_or, or_true, false_or, or_false, and_false, false_and, or_self, and_self, if_true, if_false, Bool.false_eq_true, Bool.or_false, Bool.or_true, Bool.false_or, Bool.true_or, not_true_eq_false, not_false_eq_true, forall_const, true_implies, false_implies, implies_true, reduceIte, reduceCtorEq, kT L, nI_up, hQ.2.2.2.2.2, i2, n2, a155, u155, nz_lit]
          refine r_num (lo := 0) (H := 20) hQ rt3 (by omega) (by omega) (by omega) (fun hn2 => ?_) (fun u s2 hn2 hu => ?_)
          · rw [a154, hc] at hn2
            rw [hn2] at eo
            dsimp only at eo
            refine wk ((fn0_ok l)) ok_134 30 (fun pc => pc == 171 || pc == 194) ?_
            simp only [fn0, kk_134, Option.toList_some, Option.toList_none, ex, sym, popN, goC, callOK, swL, List.map_cons, List.map_nil, List.replicate_zero, List.replicate_succ, List.append_nil, List.nil_append, List.cons_append, List.getElem?_cons_zero, List.getElem?_cons_succ, List.set_cons_zero, List.set_cons_succ, List.length_cons, List.length_nil, List.head?_cons, Nat.reduceAdd, Nat.reduceLT, Nat.reduceLeDiff, Nat.reduceBEq, Nat.reduceEqDiff, Nat.succ_ne_zero, Nat.zero_lt_succ, Nat.le_refl, sc_rows, kc_lit, nc_lit, wlk_rows, uR_s, uR_uR, true_and, and_true, true_or, or_true, false_or, or_false, and_false, false_and, or_self, and_self, if_true, if_false, Bool.false_eq_true, Bool.or_false, Bool.or_true, Bool.false_or, Bool.true_or, not_true_eq_false, not_false_eq_true, forall_const, true_implies, false_implies, implies_true, reduceIte, reduceCtorEq, kT L, nI_up, hQ.2.2.2.2.2, i2, n2, a155, u155, upd_e]
            refine wk ((fn0_ok l)) ok_134 10 (fun pc => pc == 258) ?_
            simp only [fn0, kk_134, Option.toList_some, Option.toList_none, ex, sym, popN, goC, callOK, swL, List.map_cons, List.map_nil, List.replicate_zero, List.replicate_succ, List.append_nil, List.nil_append, List.cons_append, List.getElem?_cons_zero, List.getElem?_cons_succ, List.set_cons_zero, List.set_cons_succ, List.length_cons, List.length_nil, List.head?_cons, Nat.reduceAdd, Nat.reduceLT, Nat.reduceLeDiff, Nat.reduceBEq, Nat.reduceEqDiff, Nat.succ_ne_zero, Nat.zero_lt_succ, Nat.le_refl, sc_rows, kc_lit, nc_lit, wlk_rows, uR_s, uR_uR, true_and, and_true, true_or, or_true, false_or, or_false, and_false, false_and, or_self, and_self, if_true, if_false, Bool.false_eq_true, Bool.or_false, Bool.or_true, Bool.false_or, Bool.true_or, not_true_eq_false, not_false_eq_true, forall_const, true_implies, false_implies, implies_true, reduceIte, reduceCtorEq]
            exact last _ (upd (upd (upd (I 155) (3 * j) 99) (3 * j + 1) (nI v)) (3 * j + 2) (-5)) 0 eo (fun i hi => by rw [upd_n _ _ (by omega), upd_n _ _ (by omega), upd_n _ _ (by omega)]) (fun q => by cases q) rfl
          · rw [a154, hc] at hn2
            rw [hn2] at eo
            dsimp only at eo
            rw [a14_a14]
            have u5 : (nI u = -5) = False := n5F (by omega)
            have r1 : upd (upd (upd (I 155) (3 * j) 99) (3 * j + 1) (nI v)) (3 * j + 2) (nI u) (3 * j + 1) = nI v := by rw [upd_n _ _ (by omega), upd_e]
            have te : TE (upd (upd (upd (I 155) (3 * j) 99) (3 * j + 1) (nI v)) (3 * j + 2) (nI u)) j (99, v, u) := ⟨by rw [upd_n _ _ (by omega), upd_n _ _ (by omega), upd_e], r1, fun _ => upd_e _ _ _⟩
            by_cases guv : u = v
            · subst guv
              refine wk ((fn0_ok l)) ok_134 40 (fun pc => pc == 258 || pc == 190 || pc == 194) ?_
              simp only [fn0, kk_134, Option.toList_some, Option.toList_none, ex, sym, popN, goC, callOK, swL, List.map_cons, List.map_nil, List.replicate_zero, List.replicate_succ, List.append_nil, List.nil_append, List.cons_append, List.getElem?_cons_zero, List.getElem?_cons_succ, List.set_cons_zero, List.set_cons_succ, List.length_cons, List.length_nil, List.head?_cons, Nat.reduceAdd, Nat.reduceLT, Nat.reduceLeDiff, Nat.reduceBEq, Nat.reduceEqDiff, Nat.succ_ne_zero, Nat.zero_lt_succ, Nat.le_refl, sc_rows, kc_lit, nc_lit, wlk_rows, uR_s, uR_uR, true_and, and_true, true_or, or_true, false_or, or_false, and_false, false_and, or_self, and_self, if_true, if_false, Bool.false_eq_true, Bool.or_false, Bool.or_true, Bool.false_or, Bool.true_or, not_true_eq_false, not_false_eq_true, forall_const, true_implies, false_implies, implies_true, reduceIte, reduceCtorEq, kT L, hQ.2.2.2.2.2, i1, i2, n2, nI_up, a155, u155, upd_e, u5, r1]
              refine wk ((fn0_ok l)) ok_134 10 (fun pc => pc == 258) ?_
              simp only [fn0, kk_134, Option.toList_some, Option.toList_none, ex, sym, popN, goC, callOK, swL, List.map_cons, List.map_nil, List.replicate_zero, List.replicate_succ, List.append_nil, List.nil_append, List.cons_append, List.getElem?_cons_zero, List.getElem?_cons_succ, List.set_cons_zero, List.set_cons_succ, List.length_cons, List.length_nil, List.head?_cons, Nat.reduceAdd, Nat.reduceLT, Nat.reduceLeDiff, Nat.reduceBEq, Nat.reduceEqDiff, Nat.succ_ne_zero, Nat.zero_lt_succ, Nat.le_refl, sc_rows, kc_lit, nc_lit, wlk_rows, uR_s, uR_uR, true_and, and_true, true_or, or_true, false_or, or_false, and_false, false_and, or_self, and_self, if_true, if_false, Bool.false_eq_true, Bool.or_false, Bool.or_true, Bool.false_or, Bool.true_or, not_true_eq_false, not_false_eq_true, forall_const, true_implies, false_implies, implies_true, reduceIte, reduceCtorEq]
              exact last _ (upd (upd (upd (I 155) (3 * j) 99) (3 * j + 1) (nI u)) (3 * j + 2) (nI u)) 0 eo (fun i hi => by rw [upd_n _ _ (by omega), upd_n _ _ (by omega), upd_n _ _ (by omega)]) (fun q => by simp at q) (by simp [b2])
            · have e2 : (nI u = nI v) = False := eqF guv (by omega) (by omega)
              refine wk ((fn0_ok l)) ok_134 40 (fun pc => pc == 258 || pc == 190 || pc == 194) ?_
              simp only [fn0, kk_134, Option.toList_some, Option.toList_none, ex, sym, popN, goC, callOK, swL, List.map_cons, List.map_nil, List.replicate_zero, List.replicate_succ, List.append_nil, List.nil_append, List.cons_append, List.getElem?_cons_zero, List.getElem?_cons_succ, List.set_cons_zero, List.set_cons_succ, List.length_cons, List.length_nil, List.head?_cons, Nat.reduceAdd, Nat.reduceLT, Nat.reduceLeDiff, Nat.reduceBEq, Nat.reduceEqDiff, Nat.succ_ne_zero, Nat.zero_lt_succ, Nat.le_refl, sc_rows, kc_lit, nc_lit, wlk_rows, uR_s, uR_uR, true_and, and_true, true_or, or_true, false_or, or_false, and_false, false_and, or_self, and_self, if_true, if_false, Bool.false_eq_true, Bool.or_false, Bool.or_true, Bool.false_or, Bool.true_or, not_true_eq_false, not_false_eq_true, forall_const, true_implies, false_implies, implies_true, reduceIte, reduceCtorEq, kT L, hQ.2.2.2.2.2, i1, i2, n2, nI_up, a155, u155, upd_e, u5, r1, e2]
              refine wk ((fn0_ok l)) ok_134 10 (fun pc => pc == 258) ?_
              simp only [fn0, kk_134, Option.toList_some, Option.toList_none, ex, sym, popN, goC, callOK, swL, List.map_cons, List.map_nil, List.replicate_zero, List.replicate_succ, List.append_nil, List.nil_append, List.cons_append, List.getElem?_cons_zero, List.getElem?_cons_succ, List.set_cons_zero, List.set_cons_succ, List.length_cons, List.length_nil, List.head?_cons, Nat.reduceAdd, Nat.reduceLT, Nat.reduceLeDiff, Nat.reduceBEq, Nat.reduceEqDiff, Nat.succ_ne_zero, Nat.zero_lt_succ, Nat.le_refl, sc_rows, kc_lit, nc_lit, wlk_rows, uR_s, uR_uR, true_and, and_true, true_or, or_true, false_or, or_false, and_false, false_and, or_self, and_self, if_true, if_false, Bool.false_eq_true, Bool.or_false, Bool.or_true, Bool.false_or, Bool.true_or, not_true_eq_false, not_false_eq_true, forall_const, true_implies, false_implies, implies_true, reduceIte, reduceCtorEq]
              exact last _ (upd (upd (upd (I 155) (3 * j) 99) (3 * j + 1) (nI v)) (3 * j + 2) (nI u)) 1 eo (fun i hi => by rw [upd_n _ _ (by omega), upd_n _ _ (by omega), upd_n _ _ (by omega)]) (fun _ => te) (by simp [b2, guv])
        · rw [a154, hc] at g62
          rw [if_neg g62] at eo
          refine wk ((fn0_ok l)) ok_134 30 (fun pc => pc == 128 || pc == 145) ?_
          simp only [fn0, kk_134, Option.toList_some, Option.toList_none, ex, sym, popN, goC, callOK, swL, List.map_cons, List.map_nil, List.replicate_zero, List.replicate_succ, List.append_nil, List.nil_append, List.cons_append, List.getElem?_cons_zero, List.getElem?_cons_succ, List.set_cons_zero, List.set_cons_succ, List.length_cons, List.length_nil, List.head?_cons, Nat.reduceAdd, Nat.reduceLT, Nat.reduceLeDiff, Nat.reduceBEq, Nat.reduceEqDiff, Nat.succ_ne_zero, Nat.zero_lt_succ, Nat.le_refl, sc_rows, kc_lit, nc_lit, wlk_rows, uR_s, uR_uR, true_and, and_true, true_or, or_true, false_or, or_false, and_false, false_and, or_self, and_self, if_true, if_false, Bool.false_eq_true, Bool.or_false, Bool.or_true, Bool.false_or, Bool.true_or, not_true_eq_false, not_false_eq_true, forall_const, true_implies, false_implies, implies_true, reduceIte, reduceCtorEq, kT L, nI_up, hQ.2.2.2.2.2, i2, n2, a155, u155, nz_lit]
          refine wk ((fn0_ok l)) ok_134 30 (fun pc => pc == 171 || pc == 194 || pc == 145) ?_
          simp only [fn0, kk_134, Option.toList_some, Option.toList_none, ex, sym, popN, goC, callOK, swL, List.map_cons, List.map_nil, List.replicate_zero, List.replicate_succ, List.append_nil, List.nil_append, List.cons_append, List.getElem?_cons_zero, List.getElem?_cons_succ, List.set_cons_zero, List.set_cons_succ, List.length_cons, List.length_nil, List.head?_cons, Nat.reduceAdd, Nat.reduceLT, Nat.reduceLeDiff, Nat.reduceBEq, Nat.reduceEqDiff, Nat.succ_ne_zero, Nat.zero_lt_succ, Nat.le_refl, sc_rows, kc_lit, nc_lit, wlk_rows, uR_s, uR_uR, true_and, and_true, true_or, or_true, false_or, or_false, and_false, false_and, or_self, and_self, if_true, if_false, Bool.false_eq_true, Bool.or_false, Bool.or_true, Bool.false_or, Bool.true_or, not_true_eq_false, not_false_eq_true, forall_const, true_implies, false_implies, implies_true, reduceIte, reduceCtorEq, kT L, nI_up, hQ.2.2.2.2.2, i2, n2, a155, u155, upd_e]
          refine wk ((fn0_ok l)) ok_134 10 (fun pc => pc == 258) ?_
          simp only [fn0, kk_134, Option.toList_some, Option.toList_none, ex, sym, popN, goC, callOK, swL, List.map_cons, List.map_nil, List.replicate_zero, List.replicate_succ, List.append_nil, List.nil_append, List.cons_append, List.getElem?_cons_zero, List.getElem?_cons_succ, List.set_cons_zero, List.set_cons_succ, List.length_cons, List.length_nil, List.head?_cons, Nat.reduceAdd, Nat.reduceLT, Nat.reduceLeDiff, Nat.reduceBEq, Nat.reduceEqDiff, Nat.succ_ne_zero, Nat.zero_lt_succ, Nat.le_refl, sc_rows, kc_lit, nc_lit, wlk_rows, uR_s, uR_uR, true_and, and_true, true_or, or_true, false_or, or_false, and_false, false_and, or_self, and_self, if_true, if_false, Bool.false_eq_true, Bool.or_false, Bool.or_true, Bool.false_or, Bool.true_or, not_true_eq_false, not_false_eq_true, forall_const, true_implies, false_implies, implies_true, reduceIte, reduceCtorEq]
          exact last _ (upd (upd (upd (I 155) (3 * j) 99) (3 * j + 1) (nI v)) (3 * j + 2) (-5)) 0 eo (fun i hi => by rw [upd_n _ _ (by omega), upd_n _ _ (by omega), upd_n _ _ (by omega)]) (fun q => by cases q) rfl
    · rw [hc] at w2
      refine wk ((fn0_ok l)) ok_134 10 (fun pc => pc == 83) ?_
      simp only [fn0, kk_134, Option.toList_some, Option.toList_none, ex, sym, popN, goC, callOK, swL, List.map_cons, List.map_nil, List.replicate_zero, List.replicate_succ, List.append_nil, List.nil_append, List.cons_append, List.getElem?_cons_zero, List.getElem?_cons_succ, List.set_cons_zero, List.set_cons_succ, List.length_cons, List.length_nil, List.head?_cons, Nat.reduceAdd, Nat.reduceLT, Nat.reduceLeDiff, Nat.reduceBEq, Nat.reduceEqDiff, Nat.succ_ne_zero, Nat.zero_lt_succ, Nat.le_refl, sc_rows, kc_lit, nc_lit, wlk_rows, uR_s, uR_uR, true_and, and_true, true_or, or_true, false_or, or_false, and_false, false_and, or_self, and_self, if_true, if_false, Bool.false_eq_true, Bool.or_false, Bool.or_true, Bool.false_or, Bool.true_or, not_true_eq_false, not_false_eq_true, forall_const, true_implies, false_implies, implies_true, reduceIte, reduceCtorEq, kT L]
      refine r_takes hQ h 46 (by decide) (fun w3 => ?_) (fun w3 => ?_)
      · rw [hc] at w3
        have eo : ordN c s = match num0 c 1 999 (s + 1) with
          | none => (false, s + 1, 46, 0, 0)
          | some (v, s1) => (true, s1, 46, v, 0) := by unfold ordN; rw [if_neg w, if_neg w2, if_pos w3]; cases num0 c 1 999 (s + 1) <;> rfl
        rw [self155]
        refine wk ((fn0_ok l)) ok_134 30 (fun pc => pc == 236) ?_
        simp only [fn0, kk_134, Option.toList_some, Option.toList_none, ex, sym, popN, goC, callOK, swL, List.map_cons, List.map_nil, List.replicate_zero, List.replicate_succ, List.append_nil, List.nil_append, List.cons_append, List.getElem?_cons_zero, List.getElem?_cons_succ, List.set_cons_zero, List.set_cons_succ, List.length_cons, List.length_nil, List.head?_cons, Nat.reduceAdd, Nat.reduceLT, Nat.reduceLeDiff, Nat.reduceBEq, Nat.reduceEqDiff, Nat.succ_ne_zero, Nat.zero_lt_succ, Nat.le_refl, sc_rows, kc_lit, nc_lit, wlk_rows, uR_s, uR_uR, true_and, and_true, true_or, or_true, false_or, or_false, and_false, false_and, or_self, and_self, if_true, if_false, Bool.false_eq_true, Bool.or_false, Bool.or_true, Bool.false_or, Bool.true_or, not_true_eq_false, not_false_eq_true, forall_const, true_implies, false_implies, implies_true, reduceIte, reduceCtorEq, kT L, hQ.2.2.2.2.2, i0, nz_lit, a155, u155, nI_up]
        have rt : RT (a14 (uR I 155 (upd (I 155) (3 * j) 46)) (s + 1)) ln (s + 1) := (h.told _).at (by omega)
        refine r_num (lo := 1) (H := 999) hQ rt (by omega) (by omega) (by omega) (fun hn => ?_) (fun v s' hn hv => ?_)
        · rw [a154, hc] at hn
          rw [hn] at eo
          dsimp only at eo
          refine wk ((fn0_ok l)) ok_134 30 (fun pc => pc == 258 || pc == 252) ?_
          simp only [fn0, kk_134, Option.toList_some, Option.toList_none, ex, sym, popN, goC, callOK, swL, List.map_cons, List.map_nil, List.replicate_zero, List.replicate_succ, List.append_nil, List.nil_append, List.cons_append, List.getElem?_cons_zero, List.getElem?_cons_succ, List.set_cons_zero, List.set_cons_succ, List.length_cons, List.length_nil, List.head?_cons, Nat.reduceAdd, Nat.reduceLT, Nat.reduceLeDiff, Nat.reduceBEq, Nat.reduceEqDiff, Nat.succ_ne_zero, Nat.zero_lt_succ, Nat.le_refl, sc_rows, kc_lit, nc_lit, wlk_rows, uR_s, uR_uR, true_and, and_true, true_or, or_true, false_or, or_false, and_false, false_and, or_self, and_self, if_true, if_false, Bool.false_eq_true, Bool.or_false, Bool.or_true, Bool.false_or, Bool.true_or, not_true_eq_false, not_false_eq_true, forall_const, true_implies, false_implies, implies_true, reduceIte, reduceCtorEq, kT L, hQ.2.2.2.2.2, i1, a155, u155, nI_up, upd_e]
          exact last _ (upd (upd (I 155) (3 * j) 46) (3 * j + 1) (-5)) 0 eo (fun i hi => by rw [upd_n _ _ (by omega), upd_n _ _ (by omega)]) (fun q => by cases q) rfl
        · rw [a154, hc] at hn
          rw [hn] at eo
          dsimp only at eo
          rw [a14_a14]
          have n5 : (nI v = -5) = False := n5F (by omega)
          have te : TE (upd (upd (I 155) (3 * j) 46) (3 * j + 1) (nI v)) j (46, v, 0) := ⟨by rw [upd_n _ _ (by omega), upd_e], by rw [upd_e], fun q => absurd (show (46 : Int32) = 99 from q) (by decide)⟩
          refine wk ((fn0_ok l)) ok_134 30 (fun pc => pc == 258 || pc == 256) ?_
          simp only [fn0, kk_134, Option.toList_some, Option.toList_none, ex, sym, popN, goC, callOK, swL, List.map_cons, List.map_nil, List.replicate_zero, List.replicate_succ, List.append_nil, List.nil_append, List.cons_append, List.getElem?_cons_zero, List.getElem?_cons_succ, List.set_cons_zero, List.set_cons_succ, List.length_cons, List.length_nil, List.head?_cons, Nat.reduceAdd, Nat.reduceLT, Nat.reduceLeDiff, Nat.reduceBEq, Nat.reduceEqDiff, Nat.succ_ne_zero, Nat.zero_lt_succ, Nat.le_refl, sc_rows, kc_lit, nc_lit, wlk_rows, uR_s, uR_uR, true_and, and_true, true_or, or_true, false_or, or_false, and_false, false_and, or_self, and_self, if_true, if_false, Bool.false_eq_true, Bool.or_false, Bool.or_true, Bool.false_or, Bool.true_or, not_true_eq_false, not_false_eq_true, forall_const, true_implies, false_implies, implies_true, reduceIte, reduceCtorEq, kT L, hQ.2.2.2.2.2, i1, a155, u155, nI_up, upd_e, n5]
          exact last _ (upd (upd (I 155) (3 * j) 46) (3 * j + 1) (nI v)) 1 eo (fun i hi => by rw [upd_n _ _ (by omega), upd_n _ _ (by omega)]) (fun _ => te) rfl
      · rw [hc] at w3
        have eo : ordN c s = (false, s, 0, 0, 0) := by unfold ordN; rw [if_neg w, if_neg w2, if_neg w3]
        have fin3 := last _ (upd (upd (I 155) (3 * j) 46) (3 * j + 1) (-5)) 0 eo (fun i hi => by rw [upd_n _ _ (by omega), upd_n _ _ (by omega)]) (fun q => by cases q) rfl
        rw [← e0]
        refine wk ((fn0_ok l)) ok_134 40 (fun pc => pc == 258 || pc == 225 || pc == 252) ?_
        simp only [fn0, kk_134, Option.toList_some, Option.toList_none, ex, sym, popN, goC, callOK, swL, List.map_cons, List.map_nil, List.replicate_zero, List.replicate_succ, List.append_nil, List.nil_append, List.cons_append, List.getElem?_cons_zero, List.getElem?_cons_succ, List.set_cons_zero, List.set_cons_succ, List.length_cons, List.length_nil, List.head?_cons, Nat.reduceAdd, Nat.reduceLT, Nat.reduceLeDiff, Nat.reduceBEq, Nat.reduceEqDiff, Nat.succ_ne_zero, Nat.zero_lt_succ, Nat.le_refl, sc_rows, kc_lit, nc_lit, wlk_rows, uR_s, uR_uR, true_and, and_true, true_or, or_true, false_or, or_false, and_false, false_and, or_self, and_self, if_true, if_false, Bool.false_eq_true, Bool.or_false, Bool.or_true, Bool.false_or, Bool.true_or, not_true_eq_false, not_false_eq_true, forall_const, true_implies, false_implies, implies_true, reduceIte, reduceCtorEq, kT L, hQ.2.2.2.2.2, i0, i1, a155, u155, nI_up, upd_e]
        exact fin3
end H5
