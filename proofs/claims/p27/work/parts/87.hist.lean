/-! making: the past and the orders -/
def TW (I : Nat → Nat → Int32) (Q : Nat → Nat → Option Nat) (B : Nat) (r : Nat → Int32) : Prop := QT0 Q B ∧ (∀ t, t < 12 → Q (B + 1) t = some (B + 2 + t)) ∧ ∀ j, j < 5 → I (B + 19) j = r j
theorem TW.fr {I I' : Nat → Nat → Int32} {Q Q' : Nat → Nat → Option Nat} {B : Nat} {r : Nat → Int32} (h : TW I Q B r) (hQ : ∀ p, B ≤ p → p < B + 20 → Q' p = Q p) (hI : I' (B + 19) = I (B + 19)) : TW I' Q' B r := by
  obtain ⟨h1, h2, h3⟩ := h
  refine ⟨?_, fun t ht => by rw [hQ _ (by omega) (by omega)]; exact h2 t ht, by rw [hI]; exact h3⟩
  unfold QT0
  rw [hQ _ (by omega) (by omega), hQ _ (by omega) (by omega)]
  exact h1
theorem TBh {i : Nat} (hi : i < 4) : TB (63 + 20 * i) := by
  unfold TB
  omega
section L3
variable {l : Launch} {L s : Nat} {I : Nat → Nat → Int32} {Q : Nat → Nat → Option Nat} {P : Option Value → PH → Prop}
set_option maxRecDepth 100000 in
theorem k_hist (hfc : FC 62 I Q) (h1 : ∀ I' Q', FC 143 I' Q' → Q' 61 0 = some 62 → (∀ i, i < 4 → Q' 62 i = some (63 + 20 * i)) → (∀ i, i < 4 → TW I' Q' (63 + 20 * i) (I 1002)) → (∀ p, (p < 62 ∨ 143 ≤ p) → I' p = I p) → (∀ i, i < 4 → ∀ p, 63 + 20 * i ≤ p → p < 63 + 20 * i + 19 → I' p = I p) → (∀ p, p < 61 → Q' p = Q p) → P none ((143, s + 944, KC, NC L), I', Q')) : Runs l 0 [.ref 61] ((62, s, KC, NC L), I, Q) P := by
  have z4 : (¬ (4 : Int32) < 0) ∧ (4 : Int32).toNatClampNeg = 4 := by decide
  refine run1 (c := 81) (sl := 944) (k := 1) mok_0 ⟨rfl, rfl⟩ rfl ?_
  have loop : ∀ d i I1 Q1, i + d = 4 → FC (63 + 20 * i) I1 Q1 → Q1 61 0 = some 62 → (∀ t, t < i → Q1 62 t = some (63 + 20 * t)) → (∀ t, t < i → TW I1 Q1 (63 + 20 * t) (I 1002)) → (∀ p, (p < 62 ∨ 143 ≤ p) → I1 p = I p) → (∀ t, t < 4 → ∀ p, 63 + 20 * t ≤ p → p < 63 + 20 * t + 19 → I1 p = I p) → (∀ p, p < 61 → Q1 p = Q p) → Sy l 0 (62 + 81, s + 944) 14 [some (.ref 61), some (.int (nI i))] [] ((63 + 20 * i, s + 4 + 235 * i, KC, NC L), I1, Q1) P := by
    intro d
    induction d with
    | zero =>
      intro i I1 Q1 hi f q0 q1 q2 q3 q4 q5
      have : i = 4 := by omega
      subst this
      refine wk ((fn0_ok l)) ok_0 10 (fun pc => pc == 38 || pc == 19) ?_
      simp only [fn0, kk_0, Option.toList_some, Option.toList_none, ex, catS, vC, isMk, sym, popN, goC, callOK, swL, List.map_cons, List.map_nil, List.replicate_zero, List.replicate_succ, List.append_nil, List.nil_append, List.cons_append, List.getElem?_cons_zero, List.getElem?_cons_succ, List.set_cons_zero, List.set_cons_succ, List.length_cons, List.length_nil, List.head?_cons, Nat.reduceAdd, Nat.reduceLT, Nat.reduceLeDiff, Nat.reduceBEq, Nat.reduceEqDiff, Nat.succ_ne_zero, Nat.zero_lt_succ, Nat.le_refl, sc_rows, kc_lit, nc_lit, wlk_rows, uR_s, uR_uR, true_and, and_true, true_or, or_true, false_or, or_false, and_false, false_and, or_self, and_self, if_true, if_false, Bool.false_eq_true, Bool.or_false, Bool.or_true, Bool.false_or, Bool.true_or, not_true_eq_false, not_false_eq_true, forall_const, true_implies, false_implies, implies_true, reduceIte, reduceCtorEq, show ((4 : Int32) ≤ nI 4) = True by decide]
      refine wk ((fn0_ok l)) ok_0 10 (fun pc => false) ?_
      simp only [fn0, kk_0, Option.toList_some, Option.toList_none, ex, catS, vC, isMk, sym, popN, goC, callOK, swL, List.map_cons, List.map_nil, List.replicate_zero, List.replicate_succ, List.append_nil, List.nil_append, List.cons_append, List.getElem?_cons_zero, List.getElem?_cons_succ, List.set_cons_zero, List.set_cons_succ, List.length_cons, List.length_nil, List.head?_cons, Nat.reduceAdd, Nat.reduceLT, Nat.reduceLeDiff, Nat.reduceBEq, Nat.reduceEqDiff, Nat.succ_ne_zero, Nat.zero_lt_succ, Nat.le_refl, sc_rows, kc_lit, nc_lit, wlk_rows, uR_s, uR_uR, true_and, and_true, true_or, or_true, false_or, or_false, and_false, false_and, or_self, and_self, if_true, if_false, Bool.false_eq_true, Bool.or_false, Bool.or_true, Bool.false_or, Bool.true_or, not_true_eq_false, not_false_eq_true, forall_const, true_implies, false_implies, implies_true, reduceIte, reduceCtorEq]
      exact h1 I1 Q1 f q0 q1 q2 q3 q4 q5
    | succ d ih =>
      intro i I1 Q1 hi f q0 q1 q2 q3 q4 q5
      have hB := TBh (show i < 4 by omega)
      have l4 : ((4 : Int32) ≤ nI i) = False := by rw [show (4 : Int32) = nI 4 from rfl]; exact leF (by omega) (by omega)
      have lt : 61 < 63 + 20 * i ∧ 62 < 63 + 20 * i ∧ 61 < 63 + 20 * i + 1 ∧ 62 < 63 + 20 * i + 1 ∧ 63 + 20 * i < 63 + 20 * i + 1 ∧ 62 < 63 + 20 * i + 20 ∧ 63 + 20 * i < 63 + 20 * i + 20 := by omega
      refine wk ((fn0_ok l)) ok_0 10 (fun pc => pc == 24 || pc == 38) ?_
      simp only [fn0, kk_0, Option.toList_some, Option.toList_none, ex, catS, vC, isMk, sym, popN, goC, callOK, swL, List.map_cons, List.map_nil, List.replicate_zero, List.replicate_succ, List.append_nil, List.nil_append, List.cons_append, List.getElem?_cons_zero, List.getElem?_cons_succ, List.set_cons_zero, List.set_cons_succ, List.length_cons, List.length_nil, List.head?_cons, Nat.reduceAdd, Nat.reduceLT, Nat.reduceLeDiff, Nat.reduceBEq, Nat.reduceEqDiff, Nat.succ_ne_zero, Nat.zero_lt_succ, Nat.le_refl, sc_rows, kc_lit, nc_lit, wlk_rows, uR_s, uR_uR, true_and, and_true, true_or, or_true, false_or, or_false, and_false, false_and, or_self, and_self, if_true, if_false, Bool.false_eq_true, Bool.or_false, Bool.or_true, Bool.false_or, Bool.true_or, not_true_eq_false, not_false_eq_true, forall_const, true_implies, false_implies, implies_true, reduceIte, reduceCtorEq, F1, lt, l4, kH L, q0]
      refine wk ((fn0_ok l)) ok_0 0 (fun pc => false) ?_
      simp only [fn0, kk_0, Option.toList_some, Option.toList_none, ex, catS, vC, isMk, sym, popN, goC, callOK, swL, List.map_cons, List.map_nil, List.replicate_zero, List.replicate_succ, List.append_nil, List.nil_append, List.cons_append, List.getElem?_cons_zero, List.getElem?_cons_succ, List.set_cons_zero, List.set_cons_succ, List.length_cons, List.length_nil, List.head?_cons, Nat.reduceAdd, Nat.reduceLT, Nat.reduceLeDiff, Nat.reduceBEq, Nat.reduceEqDiff, Nat.succ_ne_zero, Nat.zero_lt_succ, Nat.le_refl, sc_rows, kc_lit, nc_lit, wlk_rows, uR_s, uR_uR, true_and, and_true, true_or, or_true, false_or, or_false, and_false, false_and, or_self, and_self, if_true, if_false, Bool.false_eq_true, Bool.or_false, Bool.or_true, Bool.false_or, Bool.true_or, not_true_eq_false, not_false_eq_true, forall_const, true_implies, false_implies, implies_true, reduceIte, reduceCtorEq, F1, lt]
      refine ⟨nok_of (by decide) ⟨by omega, by show _ + nFl 4 ≤ _; rw [show nFl 4 = 12 from rfl]; omega⟩ f (olds2 (old_ref (by omega)) old_int) (st2 old_int (old_ref (by omega))), ?_⟩
      rw [newH_F f (tbk hB).1 (tb0 L hB).1]
      have f2 := f.new (by omega)
      refine wk ((fn0_ok l)) ok_0 10 (fun pc => pc == 28) ?_
      simp only [fn0, kk_0, Option.toList_some, Option.toList_none, ex, catS, vC, isMk, sym, popN, goC, callOK, swL, List.map_cons, List.map_nil, List.replicate_zero, List.replicate_succ, List.append_nil, List.nil_append, List.cons_append, List.getElem?_cons_zero, List.getElem?_cons_succ, List.set_cons_zero, List.set_cons_succ, List.length_cons, List.length_nil, List.head?_cons, Nat.reduceAdd, Nat.reduceLT, Nat.reduceLeDiff, Nat.reduceBEq, Nat.reduceEqDiff, Nat.succ_ne_zero, Nat.zero_lt_succ, Nat.le_refl, sc_rows, kc_lit, nc_lit, wlk_rows, uR_s, uR_uR, true_and, and_true, true_or, or_true, false_or, or_false, and_false, false_and, or_self, and_self, if_true, if_false, Bool.false_eq_true, Bool.or_false, Bool.or_true, Bool.false_or, Bool.true_or, not_true_eq_false, not_false_eq_true, forall_const, true_implies, false_implies, implies_true, reduceIte, reduceCtorEq]
      refine wk ((fn0_ok l)) ok_0 0 (fun pc => false) ?_
      simp only [fn0, kk_0, Option.toList_some, Option.toList_none, ex, catS, vC, isMk, sym, popN, goC, swL, List.map_cons, List.map_nil, List.replicate_zero, List.replicate_succ, List.append_nil, List.nil_append, List.cons_append, List.getElem?_cons_zero, List.getElem?_cons_succ, List.set_cons_zero, List.set_cons_succ, List.length_cons, List.length_nil, List.head?_cons, Nat.reduceAdd, Nat.reduceLT, Nat.reduceLeDiff, Nat.reduceBEq, Nat.reduceEqDiff, Nat.succ_ne_zero, Nat.zero_lt_succ, Nat.le_refl, sc_rows, kc_lit, nc_lit, wlk_rows, uR_s, uR_uR, true_and, and_true, true_or, or_true, false_or, or_false, and_false, false_and, or_self, and_self, if_true, if_false, Bool.false_eq_true, Bool.or_false, Bool.or_true, Bool.false_or, Bool.true_or, not_true_eq_false, not_false_eq_true, forall_const, true_implies, false_implies, implies_true, reduceIte, reduceCtorEq, F1, lt, (tbk hB).1]
      refine ⟨⟨by show 3 ≤ 8; omega, ⟨by show 63 + 20 * i + 1 + 19 ≤ _; omega, by show s + 4 + 235 * i + nFl 4 + 223 ≤ _; rw [show nFl 4 = 12 from rfl]; omega⟩, ?_, ?_⟩, ?_⟩
      · exact olds2 (old_ref (by show 61 < 63 + 20 * i + 1; omega)) old_int
      · intro v hv
        simp only [List.mem_cons, List.not_mem_nil, or_false] at hv
        rcases hv with hv | hv | hv <;> rw [hv]
        · exact old_ref (by show 63 + 20 * i < 63 + 20 * i + 1; omega)
        · exact old_int
        · exact old_ref (by show 62 < 63 + 20 * i + 1; omega)
      refine k_town hB f2 (fun I2 Q2 g1 g2 g3 g4 g5 g6 => ?_)
      have f3 := g1.setQ (p := 62) (r := 63 + 20 * i) (j := i) (by omega) (by omega)
      have key := ih (i + 1) I2 _ (by omega) f3 (by rw [uR_n _ _ (by omega), g6 61 (by omega)]; exact q0) (fun t ht => by
        rw [uR_s]
        by_cases e : t = i
        · subst e; simp [va_up]
        · rw [vup_n _ _ e, g6 62 (by omega)]; exact q1 t (by omega)) (fun t ht => by
        by_cases e : t = i
        · subst e
          have : TW I2 Q2 (63 + 20 * t) (I 1002) := ⟨g2, g3, fun j hj => by rw [g4 j hj, q3 1002 (by omega)]⟩
          exact this.fr (fun p p1 p2 => uR_n _ _ (by omega)) rfl
        · exact (q2 t (by omega)).fr (fun p p1 p2 => by rw [uR_n _ _ (by omega), g6 p (by omega)]) (g5 _ (by omega))) (fun p hp => by rw [g5 p (by omega)]; exact q3 p hp) (fun t ht p p1 p2 => by rw [g5 p (by omega)]; exact q4 t ht p p1 p2) (fun p hp => by rw [uR_n _ _ (by omega), g6 p (by omega)]; exact q5 p hp)
      refine wk ((fn0_ok l)) ok_0 10 (fun pc => pc == 14) ?_
      simp only [fn0, kk_0, Option.toList_some, Option.toList_none, ex, catS, vC, isMk, sym, popN, goC, callOK, swL, List.map_cons, List.map_nil, List.replicate_zero, List.replicate_succ, List.append_nil, List.nil_append, List.cons_append, List.getElem?_cons_zero, List.getElem?_cons_succ, List.set_cons_zero, List.set_cons_succ, List.length_cons, List.length_nil, List.head?_cons, Nat.reduceAdd, Nat.reduceLT, Nat.reduceLeDiff, Nat.reduceBEq, Nat.reduceEqDiff, Nat.succ_ne_zero, Nat.zero_lt_succ, Nat.le_refl, sc_rows, kc_lit, nc_lit, wlk_rows, uR_s, uR_uR, true_and, and_true, true_or, or_true, false_or, or_false, and_false, false_and, or_self, and_self, if_true, if_false, Bool.false_eq_true, Bool.or_false, Bool.or_true, Bool.false_or, Bool.true_or, not_true_eq_false, not_false_eq_true, forall_const, true_implies, false_implies, implies_true, reduceIte, reduceCtorEq, F1, lt, tbk hB, kH L, ixp (show i < 4 by omega) (by omega), nI_up]
      exact key
  have lt : 61 < 62 ∧ 61 < 63 ∧ 62 < 63 := by omega
  refine wk ((fn0_ok l)) ok_0 10 (fun pc => pc == 6) ?_
  simp only [fn0, kk_0, Option.toList_some, Option.toList_none, ex, catS, vC, isMk, sym, popN, goC, callOK, swL, List.map_cons, List.map_nil, List.replicate_zero, List.replicate_succ, List.append_nil, List.nil_append, List.cons_append, List.getElem?_cons_zero, List.getElem?_cons_succ, List.set_cons_zero, List.set_cons_succ, List.length_cons, List.length_nil, List.head?_cons, Nat.reduceAdd, Nat.reduceLT, Nat.reduceLeDiff, Nat.reduceBEq, Nat.reduceEqDiff, Nat.succ_ne_zero, Nat.zero_lt_succ, Nat.le_refl, sc_rows, kc_lit, nc_lit, wlk_rows, uR_s, uR_uR, true_and, and_true, true_or, or_true, false_or, or_false, and_false, false_and, or_self, and_self, if_true, if_false, Bool.false_eq_true, Bool.or_false, Bool.or_true, Bool.false_or, Bool.true_or, not_true_eq_false, not_false_eq_true, forall_const, true_implies, false_implies, implies_true, reduceIte, reduceCtorEq, F1, lt]
  refine wk ((fn0_ok l)) ok_0 0 (fun pc => false) ?_
  simp only [fn0, kk_0, Option.toList_some, Option.toList_none, ex, catS, vC, isMk, sym, popN, goC, callOK, swL, List.map_cons, List.map_nil, List.replicate_zero, List.replicate_succ, List.append_nil, List.nil_append, List.cons_append, List.getElem?_cons_zero, List.getElem?_cons_succ, List.set_cons_zero, List.set_cons_succ, List.length_cons, List.length_nil, List.head?_cons, Nat.reduceAdd, Nat.reduceLT, Nat.reduceLeDiff, Nat.reduceBEq, Nat.reduceEqDiff, Nat.succ_ne_zero, Nat.zero_lt_succ, Nat.le_refl, sc_rows, kc_lit, nc_lit, wlk_rows, uR_s, uR_uR, true_and, and_true, true_or, or_true, false_or, or_false, and_false, false_and, or_self, and_self, if_true, if_false, Bool.false_eq_true, Bool.or_false, Bool.or_true, Bool.false_or, Bool.true_or, not_true_eq_false, not_false_eq_true, forall_const, true_implies, false_implies, implies_true, reduceIte, reduceCtorEq, F1, lt, z4, Nat.reduceLeDiff]
  refine ⟨nok_of (by decide) ⟨by omega, by omega⟩ hfc (fun v hv => by
    simp only [List.mem_cons, List.not_mem_nil, or_false, Option.some.injEq, reduceCtorEq] at hv
    rw [hv]
    exact old_ref (by omega)) (st1 (old_ref (by omega))), ?_⟩
  rw [newH_F hfc (kH L).2.1 (kH L).2.2]
  have f1 := (hfc.new (by omega)).setQ (p := 61) (r := 62) (j := 0) (by omega) (by omega)
  refine wk ((fn0_ok l)) ok_0 10 (fun pc => pc == 14) ?_
  simp only [fn0, kk_0, Option.toList_some, Option.toList_none, ex, catS, vC, isMk, sym, popN, goC, callOK, swL, List.map_cons, List.map_nil, List.replicate_zero, List.replicate_succ, List.append_nil, List.nil_append, List.cons_append, List.getElem?_cons_zero, List.getElem?_cons_succ, List.set_cons_zero, List.set_cons_succ, List.length_cons, List.length_nil, List.head?_cons, Nat.reduceAdd, Nat.reduceLT, Nat.reduceLeDiff, Nat.reduceBEq, Nat.reduceEqDiff, Nat.succ_ne_zero, Nat.zero_lt_succ, Nat.le_refl, sc_rows, kc_lit, nc_lit, wlk_rows, uR_s, uR_uR, true_and, and_true, true_or, or_true, false_or, or_false, and_false, false_and, or_self, and_self, if_true, if_false, Bool.false_eq_true, Bool.or_false, Bool.or_true, Bool.false_or, Bool.true_or, not_true_eq_false, not_false_eq_true, forall_const, true_implies, false_implies, implies_true, reduceIte, reduceCtorEq, F1, lt, kH L]
  exact loop 4 0 I _ (by omega) f1 (by rw [uR_s]; simp [va_up]) (fun j hj => absurd hj (by omega)) (fun j hj => absurd hj (by omega)) (fun _ _ => rfl) (fun _ _ _ _ _ => rfl) (fun p hp => by rw [uR_n _ _ (by omega)])
end L3

