/-! the reference: arrive, call, pass -/
section G2
variable {l : Launch} {L : Nat} {I : Nat → Nat → Int32} {Q : Nat → Nat → Option Nat} {P : Option Value → PH → Prop} {a n m k : Nat}
theorem r_whyJ (hQ : QM Q) (to : Int32) (h1 : P (some (.int (whyJ (I 150) to))) (SC L, I, Q)) : Runs l 118 [.ref 149, .int to] (SC L, I, Q) P := by
  have := rz_whyJ (l := l) (L := L) (I := I) (z := I 150) (P := P) hQ to (by rw [uR_self]; exact h1)
  rw [uR_self] at this
  exact this
theorem r_whyC (hQ : QM Q) (hL : Ln (I 150) n m) (f to : Int32) (h1 : P (some (.int (whyC (I 150) n m f to))) (SC L, I, Q)) : Runs l 123 [.ref 149, .int f, .int to] (SC L, I, Q) P := by
  have := rz_whyC (l := l) (L := L) (I := I) (z := I 150) (P := P) hQ hL f to (by rw [uR_self]; exact h1)
  rw [uR_self] at this
  exact this
theorem r_whyP (hQ : QM Q) (x : Int32) (h1 : P (some (.int (whyP (I 150) x))) (SC L, I, Q)) : Runs l 126 [.ref 149, .int x] (SC L, I, Q) P := by
  have := rz_whyP (l := l) (L := L) (I := I) (z := I 150) (P := P) hQ x (by rw [uR_self]; exact h1)
  rw [uR_self] at this
  exact this
theorem r_callee (hQ : QM Q) (hL : Ln (I 150) n m) (f : Int32) (h1 : P (some (.int (fv (calZ (I 150) n m f)))) (SC L, I, Q)) : Runs l 122 [.ref 149, .int f] (SC L, I, Q) P := by
  have := rz_callee (l := l) (L := L) (I := I) (z := I 150) (P := P) hQ hL f (by rw [uR_self]; exact h1)
  rw [uR_self] at this
  exact this
theorem whyJ_c (z : Nat → Int32) (to : Int32) : whyJ z to < 0 ∨ whyJ z to = 0 := by
  unfold whyJ
  split
  · exact Or.inl (by decide)
  · split
    · exact Or.inl (by decide)
    · split
      · exact Or.inl (by decide)
      · exact Or.inr rfl
theorem whyP_c (z : Nat → Int32) (x : Int32) : whyP z x < 0 ∨ whyP z x = 0 := by
  unfold whyP
  split
  · exact Or.inl (by decide)
  · split
    · exact Or.inl (by decide)
    · exact Or.inr rfl
theorem whyC_c (z : Nat → Int32) (n m : Nat) (f to : Int32) : whyC z n m f to < 0 ∨ whyC z n m f to = 0 := by
  unfold whyC
  split
  · exact Or.inl (by decide)
  · split
    · exact Or.inl (by decide)
    · split
      · exact Or.inl (by decide)
      · exact Or.inr rfl
theorem whyS_c (z : Nat → Int32) (wh v : Int32) : whyS z wh v < 0 ∨ whyS z wh v = 0 := by
  unfold whyS
  split
  · exact Or.inl (by decide)
  · split
    · exact Or.inl (by decide)
    · split
      · exact Or.inl (by decide)
      · exact Or.inr rfl
theorem whyH_c (z : Nat → Int32) (n : Nat) (p : Int32) : whyH z n p < 0 ∨ whyH z n p = 0 := by
  unfold whyH
  split
  · exact Or.inl (by decide)
  · split
    · exact Or.inl (by decide)
    · split
      · exact Or.inl (by decide)
      · exact Or.inr rfl
theorem whyW_c (z : Nat → Int32) (n : Nat) (p : Int32) : whyW z n p < 0 ∨ whyW z n p = 0 := by
  unfold whyW
  split
  · exact Or.inl (by decide)
  · split
    · split
      · exact Or.inr rfl
      · exact Or.inl (by decide)
    · split
      · exact Or.inl (by decide)
      · exact Or.inr rfl
theorem neg_ge {x : Int32} (h : x < 0) : (0 ≤ x) = False := eq_false (Int32.not_le.mpr h)
set_option maxRecDepth 100000 in
theorem r_arrive (hQ : QM Q) (ha : a ≤ 4) (e1 : I 149 3 = nI a) (hk : I 150 13 = nI k) (hk2 : k ≤ 15) (to : Int32) (h1 : whyJ (I 150) to < 0 → P (some (.int (whyJ (I 150) to))) (SC L, I, Q)) (h2 : whyJ (I 150) to = 0 → ∀ I', RC I I' a → I' 150 = zJoin (I 150) to → P (some (.int (nI (k + 1)))) (SC L, I', Q)) : Runs l 120 [.ref 149, .int to] (SC L, I, Q) P := by
  refine run0 (n := 1) mok_120 ⟨rfl, rfl⟩ rfl ?_
  refine wk ((fn0_ok l)) ok_120 20 (fun pc => false) ?_
  simp only [fn0, kk_120, Option.toList_some, Option.toList_none, ex, sym, popN, goC, callOK, swL, List.map_cons, List.map_nil, List.replicate_zero, List.replicate_succ, List.append_nil, List.nil_append, List.cons_append, List.getElem?_cons_zero, List.getElem?_cons_succ, List.set_cons_zero, List.set_cons_succ, List.length_cons, List.length_nil, List.head?_cons, Nat.reduceAdd, Nat.reduceLT, Nat.reduceLeDiff, Nat.reduceBEq, Nat.reduceEqDiff, Nat.succ_ne_zero, Nat.zero_lt_succ, Nat.le_refl, sc_rows, kc_lit, nc_lit, wlk_rows, uR_s, uR_uR, true_and, and_true, true_or, or_true, false_or, or_false, and_false, false_and, or_self, and_self, if_true, if_false, Bool.false_eq_true, Bool.or_false, Bool.or_true, Bool.false_or, Bool.true_or, not_true_eq_false, not_false_eq_true, forall_const, true_implies, false_implies, implies_true, reduceIte, reduceCtorEq]
  refine r_whyJ hQ to ?_
  rcases whyJ_c (I 150) to with g | g
  · refine wk ((fn0_ok l)) ok_120 20 (fun pc => pc == 12) ?_
    simp only [fn0, kk_120, Option.toList_some, Option.toList_none, ex, sym, popN, goC, callOK, swL, List.map_cons, List.map_nil, List.replicate_zero, List.replicate_succ, List.append_nil, List.nil_append, List.cons_append, List.getElem?_cons_zero, List.getElem?_cons_succ, List.set_cons_zero, List.set_cons_succ, List.length_cons, List.length_nil, List.head?_cons, Nat.reduceAdd, Nat.reduceLT, Nat.reduceLeDiff, Nat.reduceBEq, Nat.reduceEqDiff, Nat.succ_ne_zero, Nat.zero_lt_succ, Nat.le_refl, sc_rows, kc_lit, nc_lit, wlk_rows, uR_s, uR_uR, true_and, and_true, true_or, or_true, false_or, or_false, and_false, false_and, or_self, and_self, if_true, if_false, Bool.false_eq_true, Bool.or_false, Bool.or_true, Bool.false_or, Bool.true_or, not_true_eq_false, not_false_eq_true, forall_const, true_implies, false_implies, implies_true, reduceIte, reduceCtorEq, neg_ge g]
    exact h1 g
  · refine wk ((fn0_ok l)) ok_120 20 (fun pc => pc == 10) ?_
    simp only [fn0, kk_120, Option.toList_some, Option.toList_none, ex, sym, popN, goC, callOK, swL, List.map_cons, List.map_nil, List.replicate_zero, List.replicate_succ, List.append_nil, List.nil_append, List.cons_append, List.getElem?_cons_zero, List.getElem?_cons_succ, List.set_cons_zero, List.set_cons_succ, List.length_cons, List.length_nil, List.head?_cons, Nat.reduceAdd, Nat.reduceLT, Nat.reduceLeDiff, Nat.reduceBEq, Nat.reduceEqDiff, Nat.succ_ne_zero, Nat.zero_lt_succ, Nat.le_refl, sc_rows, kc_lit, nc_lit, wlk_rows, uR_s, uR_uR, true_and, and_true, true_or, or_true, false_or, or_false, and_false, false_and, or_self, and_self, if_true, if_false, Bool.false_eq_true, Bool.or_false, Bool.or_true, Bool.false_or, Bool.true_or, not_true_eq_false, not_false_eq_true, forall_const, true_implies, false_implies, implies_true, reduceIte, reduceCtorEq, g, Int32.le_refl]
    refine r_record hQ ha e1 (fun I' a1 a2 a3 => ?_)
    have e150 : I' 150 = I 150 := a3 150 (by omega) (by omega)
    rw [show I' = uR I' 150 (I 150) by rw [← e150, uR_self]]
    refine wk ((fn0_ok l)) ok_120 20 (fun pc => false) ?_
    simp only [fn0, kk_120, Option.toList_some, Option.toList_none, ex, sym, popN, goC, callOK, swL, List.map_cons, List.map_nil, List.replicate_zero, List.replicate_succ, List.append_nil, List.nil_append, List.cons_append, List.getElem?_cons_zero, List.getElem?_cons_succ, List.set_cons_zero, List.set_cons_succ, List.length_cons, List.length_nil, List.head?_cons, Nat.reduceAdd, Nat.reduceLT, Nat.reduceLeDiff, Nat.reduceBEq, Nat.reduceEqDiff, Nat.succ_ne_zero, Nat.zero_lt_succ, Nat.le_refl, sc_rows, kc_lit, nc_lit, wlk_rows, uR_s, uR_uR, true_and, and_true, true_or, or_true, false_or, or_false, and_false, false_and, or_self, and_self, if_true, if_false, Bool.false_eq_true, Bool.or_false, Bool.or_true, Bool.false_or, Bool.true_or, not_true_eq_false, not_false_eq_true, forall_const, true_implies, false_implies, implies_true, reduceIte, reduceCtorEq]
    refine rz_arriveNow hQ hk (whyJ_0 hk hk2 g).2 to ?_
    refine wk ((fn0_ok l)) ok_120 20 (fun pc => false) ?_
    simp only [fn0, kk_120, Option.toList_some, Option.toList_none, ex, sym, popN, goC, callOK, swL, List.map_cons, List.map_nil, List.replicate_zero, List.replicate_succ, List.append_nil, List.nil_append, List.cons_append, List.getElem?_cons_zero, List.getElem?_cons_succ, List.set_cons_zero, List.set_cons_succ, List.length_cons, List.length_nil, List.head?_cons, Nat.reduceAdd, Nat.reduceLT, Nat.reduceLeDiff, Nat.reduceBEq, Nat.reduceEqDiff, Nat.succ_ne_zero, Nat.zero_lt_succ, Nat.le_refl, sc_rows, kc_lit, nc_lit, wlk_rows, uR_s, uR_uR, true_and, and_true, true_or, or_true, false_or, or_false, and_false, false_and, or_self, and_self, if_true, if_false, Bool.false_eq_true, Bool.or_false, Bool.or_true, Bool.false_or, Bool.true_or, not_true_eq_false, not_false_eq_true, forall_const, true_implies, false_implies, implies_true, reduceIte, reduceCtorEq]
    exact h2 g _ ((RC.of a1 a2 a3).z _) (uR_s _ _ _)
set_option maxRecDepth 100000 in
theorem r_call (hQ : QM Q) (ha : a ≤ 4) (e1 : I 149 3 = nI a) (hM : MV (I 150) n k) (hL : Ln (I 150) n m) (f to : Int32) (h1 : whyC (I 150) n m f to < 0 → P (some (.int (whyC (I 150) n m f to))) (SC L, I, Q)) (h2 : whyC (I 150) n m f to = 0 → ∀ t, calZ (I 150) n m f = some t → t < n → ∀ I', RC I I' a → I' 150 = zCl (I 150) t f to m → P (some (.int (I 150 (tp t 0)))) (SC L, I', Q)) : Runs l 125 [.ref 149, .int f, .int to] (SC L, I, Q) P := by
  refine run0 (n := 1) mok_125 ⟨rfl, rfl⟩ rfl ?_
  refine wk ((fn0_ok l)) ok_125 20 (fun pc => false) ?_
  simp only [fn0, kk_125, Option.toList_some, Option.toList_none, ex, sym, popN, goC, callOK, swL, List.map_cons, List.map_nil, List.replicate_zero, List.replicate_succ, List.append_nil, List.nil_append, List.cons_append, List.getElem?_cons_zero, List.getElem?_cons_succ, List.set_cons_zero, List.set_cons_succ, List.length_cons, List.length_nil, List.head?_cons, Nat.reduceAdd, Nat.reduceLT, Nat.reduceLeDiff, Nat.reduceBEq, Nat.reduceEqDiff, Nat.succ_ne_zero, Nat.zero_lt_succ, Nat.le_refl, sc_rows, kc_lit, nc_lit, wlk_rows, uR_s, uR_uR, true_and, and_true, true_or, or_true, false_or, or_false, and_false, false_and, or_self, and_self, if_true, if_false, Bool.false_eq_true, Bool.or_false, Bool.or_true, Bool.false_or, Bool.true_or, not_true_eq_false, not_false_eq_true, forall_const, true_implies, false_implies, implies_true, reduceIte, reduceCtorEq]
  refine r_whyC hQ hL f to ?_
  rcases whyC_c (I 150) n m f to with g | g
  · refine wk ((fn0_ok l)) ok_125 20 (fun pc => pc == 13) ?_
    simp only [fn0, kk_125, Option.toList_some, Option.toList_none, ex, sym, popN, goC, callOK, swL, List.map_cons, List.map_nil, List.replicate_zero, List.replicate_succ, List.append_nil, List.nil_append, List.cons_append, List.getElem?_cons_zero, List.getElem?_cons_succ, List.set_cons_zero, List.set_cons_succ, List.length_cons, List.length_nil, List.head?_cons, Nat.reduceAdd, Nat.reduceLT, Nat.reduceLeDiff, Nat.reduceBEq, Nat.reduceEqDiff, Nat.succ_ne_zero, Nat.zero_lt_succ, Nat.le_refl, sc_rows, kc_lit, nc_lit, wlk_rows, uR_s, uR_uR, true_and, and_true, true_or, or_true, false_or, or_false, and_false, false_and, or_self, and_self, if_true, if_false, Bool.false_eq_true, Bool.or_false, Bool.or_true, Bool.false_or, Bool.true_or, not_true_eq_false, not_false_eq_true, forall_const, true_implies, false_implies, implies_true, reduceIte, reduceCtorEq, neg_ge g]
    exact h1 g
  · refine wk ((fn0_ok l)) ok_125 20 (fun pc => pc == 11) ?_
    simp only [fn0, kk_125, Option.toList_some, Option.toList_none, ex, sym, popN, goC, callOK, swL, List.map_cons, List.map_nil, List.replicate_zero, List.replicate_succ, List.append_nil, List.nil_append, List.cons_append, List.getElem?_cons_zero, List.getElem?_cons_succ, List.set_cons_zero, List.set_cons_succ, List.length_cons, List.length_nil, List.head?_cons, Nat.reduceAdd, Nat.reduceLT, Nat.reduceLeDiff, Nat.reduceBEq, Nat.reduceEqDiff, Nat.succ_ne_zero, Nat.zero_lt_succ, Nat.le_refl, sc_rows, kc_lit, nc_lit, wlk_rows, uR_s, uR_uR, true_and, and_true, true_or, or_true, false_or, or_false, and_false, false_and, or_self, and_self, if_true, if_false, Bool.false_eq_true, Bool.or_false, Bool.or_true, Bool.false_or, Bool.true_or, not_true_eq_false, not_false_eq_true, forall_const, true_implies, false_implies, implies_true, reduceIte, reduceCtorEq, g, Int32.le_refl]
    refine r_record hQ ha e1 (fun I' a1 a2 a3 => ?_)
    have e150 : I' 150 = I 150 := a3 150 (by omega) (by omega)
    rw [show I' = uR I' 150 (I 150) by rw [← e150, uR_self]]
    obtain ⟨-, -, -, t, hc, ht, -⟩ := whyC_0 hL g
    refine wk ((fn0_ok l)) ok_125 20 (fun pc => false) ?_
    simp only [fn0, kk_125, Option.toList_some, Option.toList_none, ex, sym, popN, goC, callOK, swL, List.map_cons, List.map_nil, List.replicate_zero, List.replicate_succ, List.append_nil, List.nil_append, List.cons_append, List.getElem?_cons_zero, List.getElem?_cons_succ, List.set_cons_zero, List.set_cons_succ, List.length_cons, List.length_nil, List.head?_cons, Nat.reduceAdd, Nat.reduceLT, Nat.reduceLeDiff, Nat.reduceBEq, Nat.reduceEqDiff, Nat.succ_ne_zero, Nat.zero_lt_succ, Nat.le_refl, sc_rows, kc_lit, nc_lit, wlk_rows, uR_s, uR_uR, true_and, and_true, true_or, or_true, false_or, or_false, and_false, false_and, or_self, and_self, if_true, if_false, Bool.false_eq_true, Bool.or_false, Bool.or_true, Bool.false_or, Bool.true_or, not_true_eq_false, not_false_eq_true, forall_const, true_implies, false_implies, implies_true, reduceIte, reduceCtorEq]
    refine rz_callNow hQ hM hL to hc ?_
    refine wk ((fn0_ok l)) ok_125 20 (fun pc => false) ?_
    simp only [fn0, kk_125, Option.toList_some, Option.toList_none, ex, sym, popN, goC, callOK, swL, List.map_cons, List.map_nil, List.replicate_zero, List.replicate_succ, List.append_nil, List.nil_append, List.cons_append, List.getElem?_cons_zero, List.getElem?_cons_succ, List.set_cons_zero, List.set_cons_succ, List.length_cons, List.length_nil, List.head?_cons, Nat.reduceAdd, Nat.reduceLT, Nat.reduceLeDiff, Nat.reduceBEq, Nat.reduceEqDiff, Nat.succ_ne_zero, Nat.zero_lt_succ, Nat.le_refl, sc_rows, kc_lit, nc_lit, wlk_rows, uR_s, uR_uR, true_and, and_true, true_or, or_true, false_or, or_false, and_false, false_and, or_self, and_self, if_true, if_false, Bool.false_eq_true, Bool.or_false, Bool.or_true, Bool.false_or, Bool.true_or, not_true_eq_false, not_false_eq_true, forall_const, true_implies, false_implies, implies_true, reduceIte, reduceCtorEq]
    exact h2 g t hc ht _ ((RC.of a1 a2 a3).z _) (uR_s _ _ _)
theorem RC.y {I I' : Nat → Nat → Int32} {a : Nat} (h : RC I I' a) {y' : Nat → Int32} (hy : ∀ j, j ≠ 11 → y' j = I' 149 j) (g : Nat → Int32) : RC I (uR (uR I' 149 y') 150 g) a :=
  ⟨by rw [uR_n _ _ (by omega), uR_n _ _ (by omega)]; exact h.1, fun j a b c => by rw [uR_n _ _ (by omega), uR_s, hy j c]; exact h.2.1 j a b c, by rw [uR_n _ _ (by omega), uR_s, hy 3 (by omega)]; exact h.2.2.1, fun p hp => by rw [uR_n _ _ (by omega), uR_n _ _ (by omega)]; exact h.2.2.2 p hp⟩
theorem uR_two {I : Nat → Nat → Int32} {z : Nat → Int32} (e : I 150 = z) : uR (uR I 149 (I 149)) 150 z = I := by
  rw [uR_self, ← e, uR_self]
set_option maxRecDepth 100000 in
theorem r_pass (hQ : QM Q) (ha : a ≤ 4) (e1 : I 149 3 = nI a) (hM : MV (I 150) n k) {c : Nat} (h5 : I 150 5 = nI c) (hc : c ≤ 99999) (x : Int32) (h1 : whyP (I 150) x < 0 → P (some (.int (whyP (I 150) x))) (SC L, I, Q)) (h2 : whyP (I 150) x = 0 → ∀ I', RC I I' a → I' 150 = zIt (I 150) (ix x) → P (some (.int (zIt (I 150) (ix x) 9 - I 150 9))) (SC L, I', Q)) : Runs l 128 [.ref 149, .int x] (SC L, I, Q) P := by
  refine run0 (n := 1) mok_128 ⟨rfl, rfl⟩ rfl ?_
  refine wk ((fn0_ok l)) ok_128 20 (fun pc => false) ?_
  simp only [fn0, kk_128, Option.toList_some, Option.toList_none, ex, sym, popN, goC, callOK, swL, List.map_cons, List.map_nil, List.replicate_zero, List.replicate_succ, List.append_nil, List.nil_append, List.cons_append, List.getElem?_cons_zero, List.getElem?_cons_succ, List.set_cons_zero, List.set_cons_succ, List.length_cons, List.length_nil, List.head?_cons, Nat.reduceAdd, Nat.reduceLT, Nat.reduceLeDiff, Nat.reduceBEq, Nat.reduceEqDiff, Nat.succ_ne_zero, Nat.zero_lt_succ, Nat.le_refl, sc_rows, kc_lit, nc_lit, wlk_rows, uR_s, uR_uR, true_and, and_true, true_or, or_true, false_or, or_false, and_false, false_and, or_self, and_self, if_true, if_false, Bool.false_eq_true, Bool.or_false, Bool.or_true, Bool.false_or, Bool.true_or, not_true_eq_false, not_false_eq_true, forall_const, true_implies, false_implies, implies_true, reduceIte, reduceCtorEq]
  refine r_whyP hQ x ?_
  rcases whyP_c (I 150) x with g | g
  · refine wk ((fn0_ok l)) ok_128 20 (fun pc => pc == 12) ?_
    simp only [fn0, kk_128, Option.toList_some, Option.toList_none, ex, sym, popN, goC, callOK, swL, List.map_cons, List.map_nil, List.replicate_zero, List.replicate_succ, List.append_nil, List.nil_append, List.cons_append, List.getElem?_cons_zero, List.getElem?_cons_succ, List.set_cons_zero, List.set_cons_succ, List.length_cons, List.length_nil, List.head?_cons, Nat.reduceAdd, Nat.reduceLT, Nat.reduceLeDiff, Nat.reduceBEq, Nat.reduceEqDiff, Nat.succ_ne_zero, Nat.zero_lt_succ, Nat.le_refl, sc_rows, kc_lit, nc_lit, wlk_rows, uR_s, uR_uR, true_and, and_true, true_or, or_true, false_or, or_false, and_false, false_and, or_self, and_self, if_true, if_false, Bool.false_eq_true, Bool.or_false, Bool.or_true, Bool.false_or, Bool.true_or, not_true_eq_false, not_false_eq_true, forall_const, true_implies, false_implies, implies_true, reduceIte, reduceCtorEq, neg_ge g]
    exact h1 g
  · refine wk ((fn0_ok l)) ok_128 20 (fun pc => pc == 10) ?_
    simp only [fn0, kk_128, Option.toList_some, Option.toList_none, ex, sym, popN, goC, callOK, swL, List.map_cons, List.map_nil, List.replicate_zero, List.replicate_succ, List.append_nil, List.nil_append, List.cons_append, List.getElem?_cons_zero, List.getElem?_cons_succ, List.set_cons_zero, List.set_cons_succ, List.length_cons, List.length_nil, List.head?_cons, Nat.reduceAdd, Nat.reduceLT, Nat.reduceLeDiff, Nat.reduceBEq, Nat.reduceEqDiff, Nat.succ_ne_zero, Nat.zero_lt_succ, Nat.le_refl, sc_rows, kc_lit, nc_lit, wlk_rows, uR_s, uR_uR, true_and, and_true, true_or, or_true, false_or, or_false, and_false, false_and, or_self, and_self, if_true, if_false, Bool.false_eq_true, Bool.or_false, Bool.or_true, Bool.false_or, Bool.true_or, not_true_eq_false, not_false_eq_true, forall_const, true_implies, false_implies, implies_true, reduceIte, reduceCtorEq, g, Int32.le_refl]
    refine r_record hQ ha e1 (fun I' a1 a2 a3 => ?_)
    have e150 : I' 150 = I 150 := a3 150 (by omega) (by omega)
    obtain ⟨N, n1, n2, rfl, -⟩ := whyP_0 h5 hc g
    have h2' := h2 g
    rw [ix_nI (by omega)] at h2'
    rw [← uR_two e150]
    refine wk ((fn0_ok l)) ok_128 20 (fun pc => false) ?_
    simp only [fn0, kk_128, Option.toList_some, Option.toList_none, ex, sym, popN, goC, callOK, swL, List.map_cons, List.map_nil, List.replicate_zero, List.replicate_succ, List.append_nil, List.nil_append, List.cons_append, List.getElem?_cons_zero, List.getElem?_cons_succ, List.set_cons_zero, List.set_cons_succ, List.length_cons, List.length_nil, List.head?_cons, Nat.reduceAdd, Nat.reduceLT, Nat.reduceLeDiff, Nat.reduceBEq, Nat.reduceEqDiff, Nat.succ_ne_zero, Nat.zero_lt_succ, Nat.le_refl, sc_rows, kc_lit, nc_lit, wlk_rows, uR_s, uR_uR, true_and, and_true, true_or, or_true, false_or, or_false, and_false, false_and, or_self, and_self, if_true, if_false, Bool.false_eq_true, Bool.or_false, Bool.or_true, Bool.false_or, Bool.true_or, not_true_eq_false, not_false_eq_true, forall_const, true_implies, false_implies, implies_true, reduceIte, reduceCtorEq]
    refine rz_passNow hQ hM n2 (fun y' hy => ?_)
    refine wk ((fn0_ok l)) ok_128 20 (fun pc => false) ?_
    simp only [fn0, kk_128, Option.toList_some, Option.toList_none, ex, sym, popN, goC, callOK, swL, List.map_cons, List.map_nil, List.replicate_zero, List.replicate_succ, List.append_nil, List.nil_append, List.cons_append, List.getElem?_cons_zero, List.getElem?_cons_succ, List.set_cons_zero, List.set_cons_succ, List.length_cons, List.length_nil, List.head?_cons, Nat.reduceAdd, Nat.reduceLT, Nat.reduceLeDiff, Nat.reduceBEq, Nat.reduceEqDiff, Nat.succ_ne_zero, Nat.zero_lt_succ, Nat.le_refl, sc_rows, kc_lit, nc_lit, wlk_rows, uR_s, uR_uR, true_and, and_true, true_or, or_true, false_or, or_false, and_false, false_and, or_self, and_self, if_true, if_false, Bool.false_eq_true, Bool.or_false, Bool.or_true, Bool.false_or, Bool.true_or, not_true_eq_false, not_false_eq_true, forall_const, true_implies, false_implies, implies_true, reduceIte, reduceCtorEq]
    exact h2' _ ((RC.of a1 a2 a3).y hy _) (uR_s _ _ _)
end G2
