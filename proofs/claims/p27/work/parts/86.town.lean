/-! making: a town -/
section L2
variable {l : Launch} {L s : Nat} {I : Nat → Nat → Int32} {Q : Nat → Nat → Option Nat} {P : Option Value → PH → Prop} {B : Nat}
theorem tb0 {B : Nat} (L : Nat) (h : TB B) : NC L B = 0 ∧ NC L (B + 15) = 0 ∧ ∀ i, i < 12 → NC L (B + 2 + i) = 0 := by
  rcases h with rfl | rfl | rfl | rfl | rfl | rfl | rfl <;> refine ⟨rfl, rfl, fun i hi => ?_⟩ <;> (match i, hi with
  | 0, _ => rfl
  | 1, _ => rfl
  | 2, _ => rfl
  | 3, _ => rfl
  | 4, _ => rfl
  | 5, _ => rfl
  | 6, _ => rfl
  | 7, _ => rfl
  | 8, _ => rfl
  | 9, _ => rfl
  | 10, _ => rfl
  | 11, _ => rfl)
theorem k1002 (L : Nat) : KC 1002 = 11 ∧ NC L 1002 = 5 := ⟨rfl, rfl⟩
set_option maxRecDepth 100000 in
theorem k_townEnd (hB : TB B) {Q0 : Nat → Nat → Option Nat} (hfc : FC (B + 14) I Q) (h0 : Q B 0 = some (B + 1)) (ht : ∀ i, i < 12 → Q (B + 1) i = some (B + 2 + i)) (ho : ∀ p, p < B → Q p = Q0 p) (h1 : ∀ I' Q', FC (B + 20) I' Q' → QT0 Q' B → (∀ i, i < 12 → Q' (B + 1) i = some (B + 2 + i)) → (∀ j, j < 5 → I' (B + 19) j = I 1002 j) → (∀ p, p ≠ B + 19 → I' p = I p) → (∀ p, p < B → Q' p = Q0 p) → P none ((B + 20, s + 223, KC, NC L), I', Q')) : Sy l 20 (B + 1 + 19, s + 223) 40 [some (.ref B), some (.int 12)] [] ((B + 14, s + 156, KC, NC L), I, Q) P := by
  have b9 := tbl hB
  have z12 : (¬ (12 : Int32) < 0) ∧ (12 : Int32).toNatClampNeg = 12 := by decide
  have z5 : (¬ (5 : Int32) < 0) ∧ (5 : Int32).toNatClampNeg = 5 := by decide
  have z0 : (¬ (0 : Int32) < 0) ∧ (0 : Int32).toNatClampNeg = 0 := by decide
  have e5 : Int32.ofNat 5 = (5 : Int32) := rfl
  have lt : B < B + 14 ∧ B < B + 15 ∧ B < B + 16 ∧ B + 14 < B + 15 ∧ B + 15 < B + 16 ∧ B < B + 19 ∧ B + 15 < B + 19 ∧ B < B + 20 ∧ B + 19 < B + 20 ∧ B + 1 < B + 14 := by omega
  refine wk ((fn0_ok l)) ok_20 20 (fun pc => pc == 43) ?_
  simp only [fn0, kk_20, Option.toList_some, Option.toList_none, ex, catS, vC, isMk, sym, popN, goC, callOK, swL, List.map_cons, List.map_nil, List.replicate_zero, List.replicate_succ, List.append_nil, List.nil_append, List.cons_append, List.getElem?_cons_zero, List.getElem?_cons_succ, List.set_cons_zero, List.set_cons_succ, List.length_cons, List.length_nil, List.head?_cons, Nat.reduceAdd, Nat.reduceLT, Nat.reduceLeDiff, Nat.reduceBEq, Nat.reduceEqDiff, Nat.succ_ne_zero, Nat.zero_lt_succ, Nat.le_refl, sc_rows, kc_lit, nc_lit, wlk_rows, uR_s, uR_uR, true_and, and_true, true_or, or_true, false_or, or_false, and_false, false_and, or_self, and_self, if_true, if_false, Bool.false_eq_true, Bool.or_false, Bool.or_true, Bool.false_or, Bool.true_or, not_true_eq_false, not_false_eq_true, forall_const, true_implies, false_implies, implies_true, reduceIte, reduceCtorEq, F1, lt]
  refine wk ((fn0_ok l)) ok_20 0 (fun pc => false) ?_
  simp only [fn0, kk_20, Option.toList_some, Option.toList_none, ex, catS, vC, isMk, sym, popN, goC, callOK, swL, List.map_cons, List.map_nil, List.replicate_zero, List.replicate_succ, List.append_nil, List.nil_append, List.cons_append, List.getElem?_cons_zero, List.getElem?_cons_succ, List.set_cons_zero, List.set_cons_succ, List.length_cons, List.length_nil, List.head?_cons, Nat.reduceAdd, Nat.reduceLT, Nat.reduceLeDiff, Nat.reduceBEq, Nat.reduceEqDiff, Nat.succ_ne_zero, Nat.zero_lt_succ, Nat.le_refl, sc_rows, kc_lit, nc_lit, wlk_rows, uR_s, uR_uR, true_and, and_true, true_or, or_true, false_or, or_false, and_false, false_and, or_self, and_self, if_true, if_false, Bool.false_eq_true, Bool.or_false, Bool.or_true, Bool.false_or, Bool.true_or, not_true_eq_false, not_false_eq_true, forall_const, true_implies, false_implies, implies_true, reduceIte, reduceCtorEq, F1, lt, z12, Nat.reduceLeDiff]
  refine ⟨nok_of (by decide) ⟨by omega, by omega⟩ hfc (olds2 (old_ref (by omega)) old_int) (st1 (old_ref (by omega))), ?_⟩
  rw [newH_F hfc (tbk hB).2.2.1 (tbn L hB).2.1]
  have f1 := (hfc.new (by omega)).setQ (p := B) (r := B + 14) (j := 2) (by omega) (by omega)
  refine wk ((fn0_ok l)) ok_20 20 (fun pc => pc == 49) ?_
  simp only [fn0, kk_20, Option.toList_some, Option.toList_none, ex, catS, vC, isMk, sym, popN, goC, callOK, swL, List.map_cons, List.map_nil, List.replicate_zero, List.replicate_succ, List.append_nil, List.nil_append, List.cons_append, List.getElem?_cons_zero, List.getElem?_cons_succ, List.set_cons_zero, List.set_cons_succ, List.length_cons, List.length_nil, List.head?_cons, Nat.reduceAdd, Nat.reduceLT, Nat.reduceLeDiff, Nat.reduceBEq, Nat.reduceEqDiff, Nat.succ_ne_zero, Nat.zero_lt_succ, Nat.le_refl, sc_rows, kc_lit, nc_lit, wlk_rows, uR_s, uR_uR, true_and, and_true, true_or, or_true, false_or, or_false, and_false, false_and, or_self, and_self, if_true, if_false, Bool.false_eq_true, Bool.or_false, Bool.or_true, Bool.false_or, Bool.true_or, not_true_eq_false, not_false_eq_true, forall_const, true_implies, false_implies, implies_true, reduceIte, reduceCtorEq, F1, lt, tbk hB]
  refine wk ((fn0_ok l)) ok_20 0 (fun pc => false) ?_
  simp only [fn0, kk_20, Option.toList_some, Option.toList_none, ex, catS, vC, isMk, sym, popN, goC, callOK, swL, List.map_cons, List.map_nil, List.replicate_zero, List.replicate_succ, List.append_nil, List.nil_append, List.cons_append, List.getElem?_cons_zero, List.getElem?_cons_succ, List.set_cons_zero, List.set_cons_succ, List.length_cons, List.length_nil, List.head?_cons, Nat.reduceAdd, Nat.reduceLT, Nat.reduceLeDiff, Nat.reduceBEq, Nat.reduceEqDiff, Nat.succ_ne_zero, Nat.zero_lt_succ, Nat.le_refl, sc_rows, kc_lit, nc_lit, wlk_rows, uR_s, uR_uR, true_and, and_true, true_or, or_true, false_or, or_false, and_false, false_and, or_self, and_self, if_true, if_false, Bool.false_eq_true, Bool.or_false, Bool.or_true, Bool.false_or, Bool.true_or, not_true_eq_false, not_false_eq_true, forall_const, true_implies, false_implies, implies_true, reduceIte, reduceCtorEq, F1, lt]
  refine ⟨nok_of (by decide) ⟨by omega, by show _ + nFl 2 ≤ _; rw [show nFl 2 = 5 from rfl]; omega⟩ f1 (olds2 (old_ref (by omega)) old_int) (st1 (old_ref (by omega))), ?_⟩
  rw [newH_F f1 (tbk hB).2.2.2.1 (tb0 L hB).2.1]
  have f2 := f1.new (by omega)
  refine wk ((fn0_ok l)) ok_20 20 (fun pc => pc == 53) ?_
  simp only [fn0, kk_20, Option.toList_some, Option.toList_none, ex, catS, vC, isMk, sym, popN, goC, callOK, swL, List.map_cons, List.map_nil, List.replicate_zero, List.replicate_succ, List.append_nil, List.nil_append, List.cons_append, List.getElem?_cons_zero, List.getElem?_cons_succ, List.set_cons_zero, List.set_cons_succ, List.length_cons, List.length_nil, List.head?_cons, Nat.reduceAdd, Nat.reduceLT, Nat.reduceLeDiff, Nat.reduceBEq, Nat.reduceEqDiff, Nat.succ_ne_zero, Nat.zero_lt_succ, Nat.le_refl, sc_rows, kc_lit, nc_lit, wlk_rows, uR_s, uR_uR, true_and, and_true, true_or, or_true, false_or, or_false, and_false, false_and, or_self, and_self, if_true, if_false, Bool.false_eq_true, Bool.or_false, Bool.or_true, Bool.false_or, Bool.true_or, not_true_eq_false, not_false_eq_true, forall_const, true_implies, false_implies, implies_true, reduceIte, reduceCtorEq]
  refine wk ((fn0_ok l)) ok_20 0 (fun pc => false) ?_
  simp only [fn0, kk_20, Option.toList_some, Option.toList_none, ex, catS, vC, isMk, sym, popN, goC, swL, List.map_cons, List.map_nil, List.replicate_zero, List.replicate_succ, List.append_nil, List.nil_append, List.cons_append, List.getElem?_cons_zero, List.getElem?_cons_succ, List.set_cons_zero, List.set_cons_succ, List.length_cons, List.length_nil, List.head?_cons, Nat.reduceAdd, Nat.reduceLT, Nat.reduceLeDiff, Nat.reduceBEq, Nat.reduceEqDiff, Nat.succ_ne_zero, Nat.zero_lt_succ, Nat.le_refl, sc_rows, kc_lit, nc_lit, wlk_rows, uR_s, uR_uR, true_and, and_true, true_or, or_true, false_or, or_false, and_false, false_and, or_self, and_self, if_true, if_false, Bool.false_eq_true, Bool.or_false, Bool.or_true, Bool.false_or, Bool.true_or, not_true_eq_false, not_false_eq_true, forall_const, true_implies, false_implies, implies_true, reduceIte, reduceCtorEq, F1, lt, tbk hB]
  refine ⟨⟨by show 2 ≤ 8; omega, ⟨by show B + 14 + 1 + 1 + 3 ≤ _; omega, by show s + 156 + 12 + nFl 2 + 45 ≤ _; rw [show nFl 2 = 5 from rfl]; omega⟩, olds2 (old_ref (by show B < B + 14 + 1 + 1; omega)) old_int, st2 (old_ref (by show B + 14 + 1 < B + 14 + 1 + 1; omega)) (old_ref (by show B < B + 14 + 1 + 1; omega))⟩, ?_⟩
  refine k_queue (p := B + 15) f2 (by omega) ⟨(tbk hB).2.2.2.1, (tbk hB).2.2.2.2.1, (tbk hB).2.2.2.2.2.1, (tbk hB).2.2.2.2.2.2.1⟩ ⟨(tbn L hB).2.2.1, (tbn L hB).2.2.2.1, (tbn L hB).2.2.2.2.1⟩ (fun Q3 f3 q1 q2 => ?_)
  have f4 := f3.setQ (p := B) (r := B + 15) (j := 4) (by omega) (by omega)
  refine wk ((fn0_ok l)) ok_20 20 (fun pc => pc == 64) ?_
  simp only [fn0, kk_20, Option.toList_some, Option.toList_none, ex, catS, vC, isMk, sym, popN, goC, callOK, swL, List.map_cons, List.map_nil, List.replicate_zero, List.replicate_succ, List.append_nil, List.nil_append, List.cons_append, List.getElem?_cons_zero, List.getElem?_cons_succ, List.set_cons_zero, List.set_cons_succ, List.length_cons, List.length_nil, List.head?_cons, Nat.reduceAdd, Nat.reduceLT, Nat.reduceLeDiff, Nat.reduceBEq, Nat.reduceEqDiff, Nat.succ_ne_zero, Nat.zero_lt_succ, Nat.le_refl, sc_rows, kc_lit, nc_lit, wlk_rows, uR_s, uR_uR, true_and, and_true, true_or, or_true, false_or, or_false, and_false, false_and, or_self, and_self, if_true, if_false, Bool.false_eq_true, Bool.or_false, Bool.or_true, Bool.false_or, Bool.true_or, not_true_eq_false, not_false_eq_true, forall_const, true_implies, false_implies, implies_true, reduceIte, reduceCtorEq, F1, lt, tbk hB, k1002 L, e5]
  refine wk ((fn0_ok l)) ok_20 0 (fun pc => false) ?_
  simp only [fn0, kk_20, Option.toList_some, Option.toList_none, ex, catS, vC, isMk, sym, popN, goC, callOK, swL, List.map_cons, List.map_nil, List.replicate_zero, List.replicate_succ, List.append_nil, List.nil_append, List.cons_append, List.getElem?_cons_zero, List.getElem?_cons_succ, List.set_cons_zero, List.set_cons_succ, List.length_cons, List.length_nil, List.head?_cons, Nat.reduceAdd, Nat.reduceLT, Nat.reduceLeDiff, Nat.reduceBEq, Nat.reduceEqDiff, Nat.succ_ne_zero, Nat.zero_lt_succ, Nat.le_refl, sc_rows, kc_lit, nc_lit, wlk_rows, uR_s, uR_uR, true_and, and_true, true_or, or_true, false_or, or_false, and_false, false_and, or_self, and_self, if_true, if_false, Bool.false_eq_true, Bool.or_false, Bool.or_true, Bool.false_or, Bool.true_or, not_true_eq_false, not_false_eq_true, forall_const, true_implies, false_implies, implies_true, reduceIte, reduceCtorEq, F1, lt, z5, Nat.reduceLeDiff]
  refine ⟨nok_of (by decide) ⟨by omega, by rw [show nFl 2 = 5 from rfl]; omega⟩ f4 (olds2 (old_ref (by omega)) old_int) (st1 (old_ref (by omega))), ?_⟩
  rw [newH_F f4 (tbk hB).2.2.2.2.2.2.2 (tbn L hB).2.2.2.2.2]
  have f5 := (f4.new (by omega)).setQ (p := B) (r := B + 19) (j := 5) (by omega) (by omega)
  have ur : ∀ (f : Nat → Nat → Option Nat) g, uR f B g B = g := fun f g => uR_s _ _ _
  have v5 : ∀ (f : Nat → Option Nat) r, va_up f 5 r 5 = r := fun f r => by simp [va_up]
  rw [uR_s, uR_uR] at f5
  refine wk ((fn0_ok l)) ok_20 60 (fun pc => false) ?_
  simp only [fn0, kk_20, Option.toList_some, Option.toList_none, ex, catS, vC, isMk, sym, popN, goC, callOK, swL, List.map_cons, List.map_nil, List.replicate_zero, List.replicate_succ, List.append_nil, List.nil_append, List.cons_append, List.getElem?_cons_zero, List.getElem?_cons_succ, List.set_cons_zero, List.set_cons_succ, List.length_cons, List.length_nil, List.head?_cons, Nat.reduceAdd, Nat.reduceLT, Nat.reduceLeDiff, Nat.reduceBEq, Nat.reduceEqDiff, Nat.succ_ne_zero, Nat.zero_lt_succ, Nat.le_refl, sc_rows, kc_lit, nc_lit, wlk_rows, uR_s, uR_uR, true_and, and_true, true_or, or_true, false_or, or_false, and_false, false_and, or_self, and_self, if_true, if_false, Bool.false_eq_true, Bool.or_false, Bool.or_true, Bool.false_or, Bool.true_or, not_true_eq_false, not_false_eq_true, forall_const, true_implies, false_implies, implies_true, reduceIte, reduceCtorEq, F1, lt, tbk hB, tbn L hB, k1002 L, e5, z5, z0, uR_s, v5, Nat.zero_add]
  have f6 := f5.setI (p := B + 19) (by omega) (va_cpy (I 1002) (I (B + 19)) 0 0 5)
  have eq3B : Q3 B = va_up (Q B) 2 (some (B + 14)) := by rw [q2 B (by omega), uR_s]
  have eq3 : ∀ p, p ≠ B → p ≠ B + 15 → Q3 p = Q p := fun p p1 p2 => by rw [q2 p p2, uR_n _ _ p1]
  refine ⟨by rw [show nFl 2 = 5 from rfl], ?_⟩
  rw [show nFl 2 = 5 from rfl]
  refine h1 _ _ f6 ⟨?_, ?_, ?_, ?_, ?_, ?_, ?_⟩ (fun i hi => ?_) (fun j hj => ?_) (fun p hp => ?_) (fun p hp => ?_)
  · rw [uR_s, vup_n _ _ (by omega), vup_n _ _ (by omega), eq3B, vup_n _ _ (by omega)]; exact h0
  · rw [uR_s, vup_n _ _ (by omega), vup_n _ _ (by omega), eq3B]; simp [va_up]
  · rw [uR_s, vup_n _ _ (by omega)]; simp [va_up]
  · rw [uR_s]; simp [va_up]
  · rw [uR_n _ _ (by omega)]; exact q1.1
  · rw [uR_n _ _ (by omega)]; exact q1.2.1
  · rw [uR_n _ _ (by omega)]; exact q1.2.2
  · rw [uR_n _ _ (by omega), eq3 _ (by omega) (by omega)]; exact ht i hi
  · rw [uR_s, va_cpy0]
    simp only [cpN]
    rw [if_pos hj]
  · exact uR_n _ _ hp
  · rw [uR_n _ _ (by omega), eq3 _ (by omega) (by omega)]; exact ho p hp
set_option maxRecDepth 100000 in
theorem k_town (hB : TB B) (hfc : FC (B + 1) I Q) (h1 : ∀ I' Q', FC (B + 20) I' Q' → QT0 Q' B → (∀ i, i < 12 → Q' (B + 1) i = some (B + 2 + i)) → (∀ j, j < 5 → I' (B + 19) j = I 1002 j) → (∀ p, p ≠ B + 19 → I' p = I p) → (∀ p, p < B → Q' p = Q p) → P none ((B + 20, s + 223, KC, NC L), I', Q')) : Runs l 20 [.ref B] ((B + 1, s, KC, NC L), I, Q) P := by
  have b9 := tbl hB
  have z12 : (¬ (12 : Int32) < 0) ∧ (12 : Int32).toNatClampNeg = 12 := by decide
  refine run1 (c := 19) (sl := 223) (k := 1) mok_20 ⟨rfl, rfl⟩ rfl ?_
  have loop : ∀ d i Q1, i + d = 12 → FC (B + 2 + i) I Q1 → Q1 B 0 = some (B + 1) → (∀ j, j < i → Q1 (B + 1) j = some (B + 2 + j)) → (∀ p, p < B → Q1 p = Q p) → Sy l 20 (B + 1 + 19, s + 223) 15 [some (.ref B), some (.int (nI i))] [] ((B + 2 + i, s + 12 + 12 * i, KC, NC L), I, Q1) P := by
    intro d
    induction d with
    | zero =>
      intro i Q1 hi f q0 q1 q2
      have : i = 12 := by omega
      subst this
      refine wk ((fn0_ok l)) ok_20 10 (fun pc => pc == 40 || pc == 21) ?_
      simp only [fn0, kk_20, Option.toList_some, Option.toList_none, ex, catS, vC, isMk, sym, popN, goC, callOK, swL, List.map_cons, List.map_nil, List.replicate_zero, List.replicate_succ, List.append_nil, List.nil_append, List.cons_append, List.getElem?_cons_zero, List.getElem?_cons_succ, List.set_cons_zero, List.set_cons_succ, List.length_cons, List.length_nil, List.head?_cons, Nat.reduceAdd, Nat.reduceLT, Nat.reduceLeDiff, Nat.reduceBEq, Nat.reduceEqDiff, Nat.succ_ne_zero, Nat.zero_lt_succ, Nat.le_refl, sc_rows, kc_lit, nc_lit, wlk_rows, uR_s, uR_uR, true_and, and_true, true_or, or_true, false_or, or_false, and_false, false_and, or_self, and_self, if_true, if_false, Bool.false_eq_true, Bool.or_false, Bool.or_true, Bool.false_or, Bool.true_or, not_true_eq_false, not_false_eq_true, forall_const, true_implies, false_implies, implies_true, reduceIte, reduceCtorEq, show ((12 : Int32) ≤ nI 12) = True by decide]
      have := k_townEnd (l := l) (L := L) (s := s) (P := P) hB (Q0 := Q) f q0 q1 q2 h1
      exact this
    | succ d ih =>
      intro i Q1 hi f q0 q1 q2
      have l12 : ((12 : Int32) ≤ nI i) = False := by rw [show (12 : Int32) = nI 12 from rfl]; exact leF (by omega) (by omega)
      have lt : B < B + 2 + i ∧ B + 1 < B + 2 + i ∧ B < B + 2 + i + 1 ∧ B + 1 < B + 2 + i + 1 ∧ B + 2 + i < B + 2 + i + 1 := by omega
      refine wk ((fn0_ok l)) ok_20 10 (fun pc => pc == 26 || pc == 40) ?_
      simp only [fn0, kk_20, Option.toList_some, Option.toList_none, ex, catS, vC, isMk, sym, popN, goC, callOK, swL, List.map_cons, List.map_nil, List.replicate_zero, List.replicate_succ, List.append_nil, List.nil_append, List.cons_append, List.getElem?_cons_zero, List.getElem?_cons_succ, List.set_cons_zero, List.set_cons_succ, List.length_cons, List.length_nil, List.head?_cons, Nat.reduceAdd, Nat.reduceLT, Nat.reduceLeDiff, Nat.reduceBEq, Nat.reduceEqDiff, Nat.succ_ne_zero, Nat.zero_lt_succ, Nat.le_refl, sc_rows, kc_lit, nc_lit, wlk_rows, uR_s, uR_uR, true_and, and_true, true_or, or_true, false_or, or_false, and_false, false_and, or_self, and_self, if_true, if_false, Bool.false_eq_true, Bool.or_false, Bool.or_true, Bool.false_or, Bool.true_or, not_true_eq_false, not_false_eq_true, forall_const, true_implies, false_implies, implies_true, reduceIte, reduceCtorEq, F1, lt, l12, tbk hB, q0]
      refine wk ((fn0_ok l)) ok_20 0 (fun pc => false) ?_
      simp only [fn0, kk_20, Option.toList_some, Option.toList_none, ex, catS, vC, isMk, sym, popN, goC, callOK, swL, List.map_cons, List.map_nil, List.replicate_zero, List.replicate_succ, List.append_nil, List.nil_append, List.cons_append, List.getElem?_cons_zero, List.getElem?_cons_succ, List.set_cons_zero, List.set_cons_succ, List.length_cons, List.length_nil, List.head?_cons, Nat.reduceAdd, Nat.reduceLT, Nat.reduceLeDiff, Nat.reduceBEq, Nat.reduceEqDiff, Nat.succ_ne_zero, Nat.zero_lt_succ, Nat.le_refl, sc_rows, kc_lit, nc_lit, wlk_rows, uR_s, uR_uR, true_and, and_true, true_or, or_true, false_or, or_false, and_false, false_and, or_self, and_self, if_true, if_false, Bool.false_eq_true, Bool.or_false, Bool.or_true, Bool.false_or, Bool.true_or, not_true_eq_false, not_false_eq_true, forall_const, true_implies, false_implies, implies_true, reduceIte, reduceCtorEq, F1, lt]
      refine ⟨nok_of (by decide) ⟨by omega, by show _ + nFl 3 ≤ _; rw [show nFl 3 = 12 from rfl]; omega⟩ f (olds2 (old_ref (by omega)) old_int) (st2 old_int (old_ref (by omega))), ?_⟩
      rw [newH_F f (tbt hB (by omega)).1 ((tb0 L hB).2.2 i (by omega))]
      have f2 := (f.new (by omega)).setQ (p := B + 1) (r := B + 2 + i) (j := i) (by omega) (by omega)
      refine wk ((fn0_ok l)) ok_20 10 (fun pc => pc == 30) ?_
      simp only [fn0, kk_20, Option.toList_some, Option.toList_none, ex, catS, vC, isMk, sym, popN, goC, callOK, swL, List.map_cons, List.map_nil, List.replicate_zero, List.replicate_succ, List.append_nil, List.nil_append, List.cons_append, List.getElem?_cons_zero, List.getElem?_cons_succ, List.set_cons_zero, List.set_cons_succ, List.length_cons, List.length_nil, List.head?_cons, Nat.reduceAdd, Nat.reduceLT, Nat.reduceLeDiff, Nat.reduceBEq, Nat.reduceEqDiff, Nat.succ_ne_zero, Nat.zero_lt_succ, Nat.le_refl, sc_rows, kc_lit, nc_lit, wlk_rows, uR_s, uR_uR, true_and, and_true, true_or, or_true, false_or, or_false, and_false, false_and, or_self, and_self, if_true, if_false, Bool.false_eq_true, Bool.or_false, Bool.or_true, Bool.false_or, Bool.true_or, not_true_eq_false, not_false_eq_true, forall_const, true_implies, false_implies, implies_true, reduceIte, reduceCtorEq]
      refine wk ((fn0_ok l)) ok_20 0 (fun pc => false) ?_
      simp only [fn0, kk_20, Option.toList_some, Option.toList_none, ex, catS, vC, isMk, sym, popN, goC, swL, List.map_cons, List.map_nil, List.replicate_zero, List.replicate_succ, List.append_nil, List.nil_append, List.cons_append, List.getElem?_cons_zero, List.getElem?_cons_succ, List.set_cons_zero, List.set_cons_succ, List.length_cons, List.length_nil, List.head?_cons, Nat.reduceAdd, Nat.reduceLT, Nat.reduceLeDiff, Nat.reduceBEq, Nat.reduceEqDiff, Nat.succ_ne_zero, Nat.zero_lt_succ, Nat.le_refl, sc_rows, kc_lit, nc_lit, wlk_rows, uR_s, uR_uR, true_and, and_true, true_or, or_true, false_or, or_false, and_false, false_and, or_self, and_self, if_true, if_false, Bool.false_eq_true, Bool.or_false, Bool.or_true, Bool.false_or, Bool.true_or, not_true_eq_false, not_false_eq_true, forall_const, true_implies, false_implies, implies_true, reduceIte, reduceCtorEq, F1, lt, tbt hB (show i < 12 by omega)]
      refine ⟨⟨by show 3 ≤ 8; omega, by show B + 2 + i + 1 ≤ _; omega, by show s + 12 + 12 * i + nFl 3 ≤ _; rw [show nFl 3 = 12 from rfl]; omega⟩, ?_⟩
      refine k_taxi ?_
      refine wk ((fn0_ok l)) ok_20 10 (fun pc => pc == 15) ?_
      simp only [fn0, kk_20, Option.toList_some, Option.toList_none, ex, catS, vC, isMk, sym, popN, goC, callOK, swL, List.map_cons, List.map_nil, List.replicate_zero, List.replicate_succ, List.append_nil, List.nil_append, List.cons_append, List.getElem?_cons_zero, List.getElem?_cons_succ, List.set_cons_zero, List.set_cons_succ, List.length_cons, List.length_nil, List.head?_cons, Nat.reduceAdd, Nat.reduceLT, Nat.reduceLeDiff, Nat.reduceBEq, Nat.reduceEqDiff, Nat.succ_ne_zero, Nat.zero_lt_succ, Nat.le_refl, sc_rows, kc_lit, nc_lit, wlk_rows, uR_s, uR_uR, true_and, and_true, true_or, or_true, false_or, or_false, and_false, false_and, or_self, and_self, if_true, if_false, Bool.false_eq_true, Bool.or_false, Bool.or_true, Bool.false_or, Bool.true_or, not_true_eq_false, not_false_eq_true, forall_const, true_implies, false_implies, implies_true, reduceIte, reduceCtorEq, F1, lt, tbk hB, tbt hB (show i < 12 by omega), tbn L hB, ixp (show i < 12 by omega) (by omega), nI_up]
      have := ih (i + 1) _ (by omega) f2 (by rw [uR_n _ _ (by omega)]; exact q0) (fun j hj => by
        rw [uR_s]
        by_cases e : j = i
        · subst e; simp [va_up]
        · rw [vup_n _ _ e]; exact q1 j (by omega)) (fun p hp => by rw [uR_n _ _ (by omega)]; exact q2 p hp)
      exact this
  have lt : B < B + 1 ∧ B < B + 2 ∧ B + 1 < B + 2 := by omega
  refine wk ((fn0_ok l)) ok_20 10 (fun pc => pc == 7) ?_
  simp only [fn0, kk_20, Option.toList_some, Option.toList_none, ex, catS, vC, isMk, sym, popN, goC, callOK, swL, List.map_cons, List.map_nil, List.replicate_zero, List.replicate_succ, List.append_nil, List.nil_append, List.cons_append, List.getElem?_cons_zero, List.getElem?_cons_succ, List.set_cons_zero, List.set_cons_succ, List.length_cons, List.length_nil, List.head?_cons, Nat.reduceAdd, Nat.reduceLT, Nat.reduceLeDiff, Nat.reduceBEq, Nat.reduceEqDiff, Nat.succ_ne_zero, Nat.zero_lt_succ, Nat.le_refl, sc_rows, kc_lit, nc_lit, wlk_rows, uR_s, uR_uR, true_and, and_true, true_or, or_true, false_or, or_false, and_false, false_and, or_self, and_self, if_true, if_false, Bool.false_eq_true, Bool.or_false, Bool.or_true, Bool.false_or, Bool.true_or, not_true_eq_false, not_false_eq_true, forall_const, true_implies, false_implies, implies_true, reduceIte, reduceCtorEq, F1, lt]
  refine wk ((fn0_ok l)) ok_20 0 (fun pc => false) ?_
  simp only [fn0, kk_20, Option.toList_some, Option.toList_none, ex, catS, vC, isMk, sym, popN, goC, callOK, swL, List.map_cons, List.map_nil, List.replicate_zero, List.replicate_succ, List.append_nil, List.nil_append, List.cons_append, List.getElem?_cons_zero, List.getElem?_cons_succ, List.set_cons_zero, List.set_cons_succ, List.length_cons, List.length_nil, List.head?_cons, Nat.reduceAdd, Nat.reduceLT, Nat.reduceLeDiff, Nat.reduceBEq, Nat.reduceEqDiff, Nat.succ_ne_zero, Nat.zero_lt_succ, Nat.le_refl, sc_rows, kc_lit, nc_lit, wlk_rows, uR_s, uR_uR, true_and, and_true, true_or, or_true, false_or, or_false, and_false, false_and, or_self, and_self, if_true, if_false, Bool.false_eq_true, Bool.or_false, Bool.or_true, Bool.false_or, Bool.true_or, not_true_eq_false, not_false_eq_true, forall_const, true_implies, false_implies, implies_true, reduceIte, reduceCtorEq, F1, lt, z12, Nat.reduceLeDiff]
  refine ⟨nok_of (by decide) ⟨by omega, by omega⟩ hfc (fun v hv => by
    simp only [List.mem_cons, List.not_mem_nil, or_false, Option.some.injEq, reduceCtorEq] at hv
    rw [hv]
    exact old_ref (by omega)) (st1 (old_ref (by omega))), ?_⟩
  rw [newH_F hfc (tbk hB).2.1 (tbn L hB).1]
  have f1 := (hfc.new (by omega)).setQ (p := B) (r := B + 1) (j := 0) (by omega) (by omega)
  refine wk ((fn0_ok l)) ok_20 10 (fun pc => pc == 15) ?_
  simp only [fn0, kk_20, Option.toList_some, Option.toList_none, ex, catS, vC, isMk, sym, popN, goC, callOK, swL, List.map_cons, List.map_nil, List.replicate_zero, List.replicate_succ, List.append_nil, List.nil_append, List.cons_append, List.getElem?_cons_zero, List.getElem?_cons_succ, List.set_cons_zero, List.set_cons_succ, List.length_cons, List.length_nil, List.head?_cons, Nat.reduceAdd, Nat.reduceLT, Nat.reduceLeDiff, Nat.reduceBEq, Nat.reduceEqDiff, Nat.succ_ne_zero, Nat.zero_lt_succ, Nat.le_refl, sc_rows, kc_lit, nc_lit, wlk_rows, uR_s, uR_uR, true_and, and_true, true_or, or_true, false_or, or_false, and_false, false_and, or_self, and_self, if_true, if_false, Bool.false_eq_true, Bool.or_false, Bool.or_true, Bool.false_or, Bool.true_or, not_true_eq_false, not_false_eq_true, forall_const, true_implies, false_implies, implies_true, reduceIte, reduceCtorEq, F1, lt, tbk hB]
  exact loop 12 0 _ (by omega) f1 (by rw [uR_s]; simp [va_up]) (fun j hj => absurd hj (by omega)) (fun p hp => by rw [uR_n _ _ (by omega)])
end L2

