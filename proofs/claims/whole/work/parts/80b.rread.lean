/-! the text: the reference reads all orders -/
section H6
variable {l : Launch} {L : Nat} {I : Nat → Nat → Int32} {Q : Nat → Nat → Option Nat} {P : Option Value → PH → Prop} {ln s : Nat}
def FT (I I' : Nat → Nat → Int32) : Prop := (∀ p, p ≠ 149 → p ≠ 155 → I' p = I p) ∧ ∀ i, i ≠ 13 → i ≠ 14 → I' 149 i = I 149 i
theorem FT.tr {I I' I'' : Nat → Nat → Int32} (h : FT I I') (h' : FT I' I'') : FT I I'' := ⟨fun p a b => (h'.1 p a b).trans (h.1 p a b), fun i a b => (h'.2 i a b).trans (h.2 i a b)⟩
theorem FT.rro (I : Nat → Nat → Int32) (g : Nat → Int32) (j s : Nat) : FT I (ro I g j s) := ⟨fun p a b => by unfold ro; rw [uR_n _ _ a, uR_n _ _ b], fun i a b => by unfold ro; rw [uR_s, upd_n _ _ a, upd_n _ _ b]⟩
theorem FT.sp (I : Nat → Nat → Int32) (s : Nat) : FT I (a14 I s) := ⟨fun p a b => a14_o _ _ a, fun i a b => by unfold a14; rw [uR_s, upd_n _ _ b]⟩
theorem ro_rt (h : RT I ln s) {g : Nat → Int32} {j s' : Nat} (hs : s' ≤ 100) : RT (ro I g j s') ln s' ∧ ro I g j s' 149 13 = nI j ∧ ro I g j s' 155 = g := by
  obtain ⟨a, b, c, d⟩ := h
  unfold RT ro
  rw [uR_s, upd_n _ _ (by omega), upd_n _ _ (by omega), upd_n _ _ (by omega), upd_e, upd_e, uR_n _ _ (by omega), uR_s]
  exact ⟨⟨a, rfl, c, hs⟩, rfl, rfl⟩
set_option maxRecDepth 100000 in
theorem r_textLoop (hQ : QM Q) {c : Nat → Int32} {R : Option Nat × Nat} (hc : chx (I 154) ln = c) (hl : ln ≤ 60) (h1 : ∀ I', FT I I' → (∀ x, R.1 = some x → I' 149 14 = nI x) → (R.1 = none → I' 149 13 = nI R.2 ∧ TO (I' 155) c R.2) → P (some (.int (b2 (R.1 = none)))) (SC L, I', Q)) : ∀ f j I0 (s' : Nat) (good : Bool), f + j = 20 → RT I0 ln s' → I0 149 13 = nI (j + 1) → FT I I0 → (good = true → TO (I0 155) c (j + 1) ∧ s' ≤ ln ∧ 3 * j + 2 ≤ s' ∧ stO c (j + 1) = s' + 1) → (good = false → R = (some s', j)) → (good = true → R = if ln ≤ s' then (none, j + 1) else if c s' = 59 then tRN c ln f (j + 1) (s' + 1) else (some s', j + 1)) → Sy l 135 (156, 3525) 15 [some (.ref 149), some (.int (b2 (good = true)))] [] (SC L, I0, Q) P := by
  intro f
  induction f with
  | zero =>
    intro j I0 s' good hf rt h13 fo hg hR0 hR1
    cases good with
    | true => have := hg rfl; omega
    | false =>
      have hR := hR0 rfl
      have := h1 I0 fo (fun x hx => by rw [hR] at hx; cases hx; exact rt.2.1) (fun q => by rw [hR] at q; cases q)
      rw [b2_f (fun q => by rw [hR] at q; cases q)] at this
      refine wk ((fn0_ok l)) ok_135 10 (fun pc => pc == 19) ?_
      simp only [fn0, kk_135, Option.toList_some, Option.toList_none, ex, sym, popN, goC, callOK, swL, List.map_cons, List.map_nil, List.replicate_zero, List.replicate_succ, List.append_nil, List.nil_append, List.cons_append, List.getElem?_cons_zero, List.getElem?_cons_succ, List.set_cons_zero, List.set_cons_succ, List.length_cons, List.length_nil, List.head?_cons, Nat.reduceAdd, Nat.reduceLT, Nat.reduceLeDiff, Nat.reduceBEq, Nat.reduceEqDiff, Nat.succ_ne_zero, Nat.zero_lt_succ, Nat.le_refl, sc_rows, kc_lit, nc_lit, wlk_rows, uR_s, uR_uR, true_and, and_true, true_or, or_true, false_or, or_false, and_false, false_and, or_self, and_self, if_true, if_false, Bool.false_eq_true, Bool.or_false, Bool.or_true, Bool.false_or, Bool.true_or, not_true_eq_false, not_false_eq_true, forall_const, true_implies, false_implies, implies_true, reduceIte, reduceCtorEq, b2_F, b2_f (show ¬ false = true by decide)]
      exact this
  | succ f ih =>
    intro j I0 s' good hf rt h13 fo hg hR0 hR1
    cases good with
    | false =>
      have hR := hR0 rfl
      have := h1 I0 fo (fun x hx => by rw [hR] at hx; cases hx; exact rt.2.1) (fun q => by rw [hR] at q; cases q)
      rw [b2_f (fun q => by rw [hR] at q; cases q)] at this
      refine wk ((fn0_ok l)) ok_135 10 (fun pc => pc == 19) ?_
      simp only [fn0, kk_135, Option.toList_some, Option.toList_none, ex, sym, popN, goC, callOK, swL, List.map_cons, List.map_nil, List.replicate_zero, List.replicate_succ, List.append_nil, List.nil_append, List.cons_append, List.getElem?_cons_zero, List.getElem?_cons_succ, List.set_cons_zero, List.set_cons_succ, List.length_cons, List.length_nil, List.head?_cons, Nat.reduceAdd, Nat.reduceLT, Nat.reduceLeDiff, Nat.reduceBEq, Nat.reduceEqDiff, Nat.succ_ne_zero, Nat.zero_lt_succ, Nat.le_refl, sc_rows, kc_lit, nc_lit, wlk_rows, uR_s, uR_uR, true_and, and_true, true_or, or_true, false_or, or_false, and_false, false_and, or_self, and_self, if_true, if_false, Bool.false_eq_true, Bool.or_false, Bool.or_true, Bool.false_or, Bool.true_or, not_true_eq_false, not_false_eq_true, forall_const, true_implies, false_implies, implies_true, reduceIte, reduceCtorEq, b2_F, b2_f (show ¬ false = true by decide)]
      exact this
    | true =>
      obtain ⟨ht, hs1, hs2, hst⟩ := hg rfl
      have hR := hR1 rfl
      by_cases g1 : ln ≤ s'
      · rw [if_pos g1] at hR
        have := h1 I0 fo (fun x hx => by rw [hR] at hx; cases hx) (fun _ => by rw [hR]; exact ⟨h13, ht⟩)
        rw [b2_t (by rw [hR])] at this
        refine wk ((fn0_ok l)) ok_135 10 (fun pc => pc == 30) ?_
        simp only [fn0, kk_135, Option.toList_some, Option.toList_none, ex, sym, popN, goC, callOK, swL, List.map_cons, List.map_nil, List.replicate_zero, List.replicate_succ, List.append_nil, List.nil_append, List.cons_append, List.getElem?_cons_zero, List.getElem?_cons_succ, List.set_cons_zero, List.set_cons_succ, List.length_cons, List.length_nil, List.head?_cons, Nat.reduceAdd, Nat.reduceLT, Nat.reduceLeDiff, Nat.reduceBEq, Nat.reduceEqDiff, Nat.succ_ne_zero, Nat.zero_lt_succ, Nat.le_refl, sc_rows, kc_lit, nc_lit, wlk_rows, uR_s, uR_uR, true_and, and_true, true_or, or_true, false_or, or_false, and_false, false_and, or_self, and_self, if_true, if_false, Bool.false_eq_true, Bool.or_false, Bool.or_true, Bool.false_or, Bool.true_or, not_true_eq_false, not_false_eq_true, forall_const, true_implies, false_implies, implies_true, reduceIte, reduceCtorEq, kT L, b2_T, b2_t (rfl : true = true), nz_lit, rt.1, rt.2.1, leT g1 (show s' < 2147483648 by omega)]
        exact this
      · rw [if_neg g1] at hR
        have lf : (nI ln ≤ nI s') = False := leF (by omega) (by omega)
        refine wk ((fn0_ok l)) ok_135 10 (fun pc => pc == 55) ?_
        simp only [fn0, kk_135, Option.toList_some, Option.toList_none, ex, sym, popN, goC, callOK, swL, List.map_cons, List.map_nil, List.replicate_zero, List.replicate_succ, List.append_nil, List.nil_append, List.cons_append, List.getElem?_cons_zero, List.getElem?_cons_succ, List.set_cons_zero, List.set_cons_succ, List.length_cons, List.length_nil, List.head?_cons, Nat.reduceAdd, Nat.reduceLT, Nat.reduceLeDiff, Nat.reduceBEq, Nat.reduceEqDiff, Nat.succ_ne_zero, Nat.zero_lt_succ, Nat.le_refl, sc_rows, kc_lit, nc_lit, wlk_rows, uR_s, uR_uR, true_and, and_true, true_or, or_true, false_or, or_false, and_false, false_and, or_self, and_self, if_true, if_false, Bool.false_eq_true, Bool.or_false, Bool.or_true, Bool.false_or, Bool.true_or, not_true_eq_false, not_false_eq_true, forall_const, true_implies, false_implies, implies_true, reduceIte, reduceCtorEq, kT L, b2_T, b2_t (rfl : true = true), nz_lit, rt.1, rt.2.1, lf]
        have e154 : chx (I0 154) ln = c := by rw [fo.1 154 (by omega) (by omega)]; exact hc
        refine r_takes hQ rt 59 (by decide) (fun g59 => ?_) (fun g59 => ?_)
        · rw [e154] at g59
          rw [if_pos g59] at hR
          have rt2 : RT (a14 I0 (s' + 1)) ln (s' + 1) := rt.at (by omega)
          have e13 : a14 I0 (s' + 1) 149 13 = nI (j + 1) := by unfold a14; rw [uR_s, upd_n _ _ (by omega)]; exact h13
          have e155 : a14 I0 (s' + 1) 155 = I0 155 := a14_o _ _ (by omega)
          refine wk ((fn0_ok l)) ok_135 10 (fun pc => pc == 50) ?_
          simp only [fn0, kk_135, Option.toList_some, Option.toList_none, ex, sym, popN, goC, callOK, swL, List.map_cons, List.map_nil, List.replicate_zero, List.replicate_succ, List.append_nil, List.nil_append, List.cons_append, List.getElem?_cons_zero, List.getElem?_cons_succ, List.set_cons_zero, List.set_cons_succ, List.length_cons, List.length_nil, List.head?_cons, Nat.reduceAdd, Nat.reduceLT, Nat.reduceLeDiff, Nat.reduceBEq, Nat.reduceEqDiff, Nat.succ_ne_zero, Nat.zero_lt_succ, Nat.le_refl, sc_rows, kc_lit, nc_lit, wlk_rows, uR_s, uR_uR, true_and, and_true, true_or, or_true, false_or, or_false, and_false, false_and, or_self, and_self, if_true, if_false, Bool.false_eq_true, Bool.or_false, Bool.or_true, Bool.false_or, Bool.true_or, not_true_eq_false, not_false_eq_true, forall_const, true_implies, false_implies, implies_true, reduceIte, reduceCtorEq, kT L, nz_lit]
          refine r_order hQ rt2 (by omega) e13 (by omega) (fun g q1 q2 => ?_)
          rw [a14_o _ _ (show 154 ≠ 149 by omega), e154] at q2 ⊢
          have ob := ordN_b c (s' + 1)
          have fo2 : FT I (ro (a14 I0 (s' + 1)) g (j + 1 + 1) (ordN c (s' + 1)).2.1) := fo.tr ((FT.sp I0 (s' + 1)).tr (FT.rro _ _ _ _))
          obtain ⟨rt3, e133, e1553⟩ := ro_rt rt2 (g := g) (j := j + 1 + 1) (s' := (ordN c (s' + 1)).2.1) (by omega)
          simp only [tRN] at hR
          have key := ih (j + 1) (ro (a14 I0 (s' + 1)) g (j + 1 + 1) (ordN c (s' + 1)).2.1) (ordN c (s' + 1)).2.1 (ordN c (s' + 1)).1 (by omega) rt3 e133 fo2 (fun hgd => by
            have l1 := ordN_last c (s' + 1) hgd
            have ob2 := ob.2.2 hgd
            refine ⟨?_, ?_, by omega, ?_⟩
            · rw [e1553]
              refine ht.up (fun i hi => by rw [q1 i hi, e155]) ?_
              rw [hst]
              exact q2 hgd
            · have hle : ¬ ln ≤ (ordN c (s' + 1)).2.1 - 1 := fun q => by
                have e0 : c ((ordN c (s' + 1)).2.1 - 1) = 0 := by rw [← hc]; exact chx_0 _ (by rw [hc]; exact q)
                rw [e0] at l1
                exact absurd l1.1 (by decide)
              omega
            · show (ordN c (stO c (j + 1))).2.1 + 1 = _
              rw [hst]) (fun hgd => by rw [if_pos hgd] at hR; exact hR) (fun hgd => by rw [if_neg (by rw [hgd]; decide)] at hR; exact hR)
          cases hgd : (ordN c (s' + 1)).1 with
          | true =>
            rw [hgd, b2_t (rfl : true = true)] at key
            refine wk ((fn0_ok l)) ok_135 10 (fun pc => pc == 50 || pc == 15) ?_
            simp only [fn0, kk_135, Option.toList_some, Option.toList_none, ex, sym, popN, goC, callOK, swL, List.map_cons, List.map_nil, List.replicate_zero, List.replicate_succ, List.append_nil, List.nil_append, List.cons_append, List.getElem?_cons_zero, List.getElem?_cons_succ, List.set_cons_zero, List.set_cons_succ, List.length_cons, List.length_nil, List.head?_cons, Nat.reduceAdd, Nat.reduceLT, Nat.reduceLeDiff, Nat.reduceBEq, Nat.reduceEqDiff, Nat.succ_ne_zero, Nat.zero_lt_succ, Nat.le_refl, sc_rows, kc_lit, nc_lit, wlk_rows, uR_s, uR_uR, true_and, and_true, true_or, or_true, false_or, or_false, and_false, false_and, or_self, and_self, if_true, if_false, Bool.false_eq_true, Bool.or_false, Bool.or_true, Bool.false_or, Bool.true_or, not_true_eq_false, not_false_eq_true, forall_const, true_implies, false_implies, implies_true, reduceIte, reduceCtorEq, b2_T, b2_t (rfl : true = true), nz_lit]
            exact key
          | false =>
            rw [hgd, b2_f (show ¬ false = true by decide)] at key
            refine wk ((fn0_ok l)) ok_135 10 (fun pc => pc == 46 || pc == 15) ?_
            simp only [fn0, kk_135, Option.toList_some, Option.toList_none, ex, sym, popN, goC, callOK, swL, List.map_cons, List.map_nil, List.replicate_zero, List.replicate_succ, List.append_nil, List.nil_append, List.cons_append, List.getElem?_cons_zero, List.getElem?_cons_succ, List.set_cons_zero, List.set_cons_succ, List.length_cons, List.length_nil, List.head?_cons, Nat.reduceAdd, Nat.reduceLT, Nat.reduceLeDiff, Nat.reduceBEq, Nat.reduceEqDiff, Nat.succ_ne_zero, Nat.zero_lt_succ, Nat.le_refl, sc_rows, kc_lit, nc_lit, wlk_rows, uR_s, uR_uR, true_and, and_true, true_or, or_true, false_or, or_false, and_false, false_and, or_self, and_self, if_true, if_false, Bool.false_eq_true, Bool.or_false, Bool.or_true, Bool.false_or, Bool.true_or, not_true_eq_false, not_false_eq_true, forall_const, true_implies, false_implies, implies_true, reduceIte, reduceCtorEq, b2_F, b2_f (show ¬ false = true by decide)]
            exact key
        · rw [e154] at g59
          rw [if_neg g59] at hR
          have := h1 I0 fo (fun x hx => by rw [hR] at hx; cases hx; exact rt.2.1) (fun q => by rw [hR] at q; cases q)
          rw [b2_f (fun q => by rw [hR] at q; cases q)] at this
          refine wk ((fn0_ok l)) ok_135 20 (fun pc => pc == 39 || pc == 19) ?_
          simp only [fn0, kk_135, Option.toList_some, Option.toList_none, ex, sym, popN, goC, callOK, swL, List.map_cons, List.map_nil, List.replicate_zero, List.replicate_succ, List.append_nil, List.nil_append, List.cons_append, List.getElem?_cons_zero, List.getElem?_cons_succ, List.set_cons_zero, List.set_cons_succ, List.length_cons, List.length_nil, List.head?_cons, Nat.reduceAdd, Nat.reduceLT, Nat.reduceLeDiff, Nat.reduceBEq, Nat.reduceEqDiff, Nat.succ_ne_zero, Nat.zero_lt_succ, Nat.le_refl, sc_rows, kc_lit, nc_lit, wlk_rows, uR_s, uR_uR, true_and, and_true, true_or, or_true, false_or, or_false, and_false, false_and, or_self, and_self, if_true, if_false, Bool.false_eq_true, Bool.or_false, Bool.or_true, Bool.false_or, Bool.true_or, not_true_eq_false, not_false_eq_true, forall_const, true_implies, false_implies, implies_true, reduceIte, reduceCtorEq]
          exact this
set_option maxRecDepth 100000 in
theorem r_readText (hQ : QM Q) (e7 : I 149 7 = nI ln) (hl : ln ≤ 60) (h1 : ∀ I', FT I I' → (∀ x, (tRN (chx (I 154) ln) ln 21 0 0).1 = some x → I' 149 14 = nI x) → ((tRN (chx (I 154) ln) ln 21 0 0).1 = none → I' 149 13 = nI (tRN (chx (I 154) ln) ln 21 0 0).2 ∧ TO (I' 155) (chx (I 154) ln) (tRN (chx (I 154) ln) ln 21 0 0).2) → P (some (.int (b2 ((tRN (chx (I 154) ln) ln 21 0 0).1 = none)))) (SC L, I', Q)) : Runs l 135 [.ref 149] (SC L, I, Q) P := by
  generalize hc : chx (I 154) ln = c at h1
  generalize hR : tRN c ln 21 0 0 = R at h1
  refine run0 (n := 1) mok_135 ⟨rfl, rfl⟩ rfl ?_
  refine wk ((fn0_ok l)) ok_135 20 (fun pc => false) ?_
  simp only [fn0, kk_135, Option.toList_some, Option.toList_none, ex, sym, popN, goC, callOK, swL, List.map_cons, List.map_nil, List.replicate_zero, List.replicate_succ, List.append_nil, List.nil_append, List.cons_append, List.getElem?_cons_zero, List.getElem?_cons_succ, List.set_cons_zero, List.set_cons_succ, List.length_cons, List.length_nil, List.head?_cons, Nat.reduceAdd, Nat.reduceLT, Nat.reduceLeDiff, Nat.reduceBEq, Nat.reduceEqDiff, Nat.succ_ne_zero, Nat.zero_lt_succ, Nat.le_refl, sc_rows, kc_lit, nc_lit, wlk_rows, uR_s, uR_uR, true_and, and_true, true_or, or_true, false_or, or_false, and_false, false_and, or_self, and_self, if_true, if_false, Bool.false_eq_true, Bool.or_false, Bool.or_true, Bool.false_or, Bool.true_or, not_true_eq_false, not_false_eq_true, forall_const, true_implies, false_implies, implies_true, reduceIte, reduceCtorEq, kT L]
  have rt0 : RT (uR I 149 (upd (upd (I 149) 14 0) 13 0)) ln 0 := by
    unfold RT
    rw [uR_s, upd_n _ _ (by omega), upd_n _ _ (by omega), upd_n _ _ (by omega), upd_e]
    exact ⟨e7, rfl, hl, by omega⟩
  have fo0 : FT I (uR I 149 (upd (upd (I 149) 14 0) 13 0)) := ⟨fun p a b => uR_n _ _ a, fun i a b => by rw [uR_s, upd_n _ _ a, upd_n _ _ b]⟩
  refine r_order hQ rt0 (by omega) (j := 0) (by rw [uR_s, upd_e]; rfl) (by omega) (fun g q1 q2 => ?_)
  rw [uR_n _ _ (show 154 ≠ 149 by omega), hc] at q2 ⊢
  have ob := ordN_b c 0
  obtain ⟨rt3, e133, e1553⟩ := ro_rt rt0 (g := g) (j := 0 + 1) (s' := (ordN c 0).2.1) (by omega)
  simp only [tRN] at hR
  have key := r_textLoop (l := l) (L := L) (I := I) (P := P) (c := c) (R := R) hQ hc hl h1 20 0 _ (ordN c 0).2.1 (ordN c 0).1 (by omega) rt3 e133 (fo0.tr (FT.rro _ _ _ _)) (fun hgd => by
    have l1 := ordN_last c 0 hgd
    have ob2 := ob.2.2 hgd
    refine ⟨?_, ?_, by omega, rfl⟩
    · rw [e1553]
      intro i hi
      have : i = 0 := by omega
      subst this
      exact q2 hgd
    · have hle : ¬ ln ≤ (ordN c 0).2.1 - 1 := fun q => by
        have e0 : c ((ordN c 0).2.1 - 1) = 0 := by rw [← hc]; exact chx_0 _ (by rw [hc]; exact q)
        rw [e0] at l1
        exact absurd l1.1 (by decide)
      omega) (fun hgd => by rw [if_pos hgd] at hR; exact hR.symm) (fun hgd => by rw [if_neg (by rw [hgd]; decide)] at hR; exact hR.symm)
  refine wk ((fn0_ok l)) ok_135 10 (fun pc => pc == 15) ?_
  simp only [fn0, kk_135, Option.toList_some, Option.toList_none, ex, sym, popN, goC, callOK, swL, List.map_cons, List.map_nil, List.replicate_zero, List.replicate_succ, List.append_nil, List.nil_append, List.cons_append, List.getElem?_cons_zero, List.getElem?_cons_succ, List.set_cons_zero, List.set_cons_succ, List.length_cons, List.length_nil, List.head?_cons, Nat.reduceAdd, Nat.reduceLT, Nat.reduceLeDiff, Nat.reduceBEq, Nat.reduceEqDiff, Nat.succ_ne_zero, Nat.zero_lt_succ, Nat.le_refl, sc_rows, kc_lit, nc_lit, wlk_rows, uR_s, uR_uR, true_and, and_true, true_or, or_true, false_or, or_false, and_false, false_and, or_self, and_self, if_true, if_false, Bool.false_eq_true, Bool.or_false, Bool.or_true, Bool.false_or, Bool.true_or, not_true_eq_false, not_false_eq_true, forall_const, true_implies, false_implies, implies_true, reduceIte, reduceCtorEq]
  exact key
end H6
