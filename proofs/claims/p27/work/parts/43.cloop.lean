/-! the class: find, placeOf, who rides, standing in the line, leaving it -/
theorem qt {Q : Nat → Nat → Option Nat} {B : Nat} (h : QT0 Q B) : Q B 0 = some (B + 1) ∧ Q B 2 = some (B + 14) ∧ Q B 4 = some (B + 15) ∧ Q B 5 = some (B + 19) ∧ Q (B + 15) 1 = some (B + 16) ∧ Q (B + 15) 2 = some (B + 17) ∧ Q (B + 15) 3 = some (B + 18) := h
section C4
variable {l : Launch} {L : Nat} {I : Nat → Nat → Int32} {Q : Nat → Nat → Option Nat} {P : Option Value → PH → Prop} {B : Nat} {σ : Nat → Nat} {z : Nat → Int32} {n m k : Nat}
theorem CA.tx (h : CA I B σ z n m k) {i : Nat} (hi : i < n) : I (B + 2 + σ i) 0 = z (tp i 0) ∧ I (B + 2 + σ i) 1 = z (tp i 1) ∧ I (B + 2 + σ i) 2 = z (tp i 2) ∧ I (B + 2 + σ i) 3 = z (tp i 3) ∧ I (B + 2 + σ i) 4 = z (tp i 4) ∧ I (B + 2 + σ i) 5 = z (tp i 5) ∧ I (B + 2 + σ i) 6 = z (tp i 6) ∧ I (B + 2 + σ i) 7 = z (tp i 7) ∧ I (B + 2 + σ i) 8 = z (tp i 8) ∧ I (B + 2 + σ i) 9 = z (tp i 12) ∧ I (B + 2 + σ i) 10 = z (tp i 10) ∧ I (B + 2 + σ i) 11 = z (tp i 11) := by
  have t := h.2.1 i hi
  exact ⟨t 0 (by omega), t 1 (by omega), t 2 (by omega), t 3 (by omega), t 4 (by omega), t 5 (by omega), t 6 (by omega), t 7 (by omega), t 8 (by omega), t 9 (by omega), t 10 (by omega), t 11 (by omega)⟩
theorem CA.tw (h : CA I B σ z n m k) : I B 1 = z 11 ∧ I B 3 = z 12 ∧ I B 6 = z 5 ∧ I B 7 = z 6 ∧ I B 8 = z 7 ∧ I B 9 = z 8 ∧ I B 10 = z 9 ∧ I B 11 = z 10 ∧ I (B + 19) 0 = z 0 ∧ I (B + 19) 1 = z 1 ∧ I (B + 19) 2 = z 2 ∧ I (B + 19) 3 = z 3 ∧ I (B + 19) 4 = z 4 ∧ I (B + 15) 0 = z 13 ∧ I (B + 15) 4 = z 14 :=
  ⟨h.1.1.1, h.1.1.2, h.1.2 6 (by omega) (by omega), h.1.2 7 (by omega) (by omega), h.1.2 8 (by omega) (by omega), h.1.2 9 (by omega) (by omega), h.1.2 10 (by omega) (by omega), h.1.2 11 (by omega) (by omega), h.2.2.2.2.1 0 (by omega), h.2.2.2.2.1 1 (by omega), h.2.2.2.2.1 2 (by omega), h.2.2.2.2.1 3 (by omega), h.2.2.2.2.1 4 (by omega), h.2.2.2.2.2.1.1, h.2.2.2.2.2.1.2⟩
set_option maxRecDepth 100000 in
theorem c_find (hB : TB B) (hQ : QT0 Q B) (hS : QS Q B σ) (hC : CA I B σ z n m k) (hn : z 11 = nI n) (hn2 : n ≤ 12) (p : Int32) (h1 : ∀ i, i < n → z (tp i 0) = p → P (some (.ref (B + 2 + σ i))) (SC L, I, Q)) (h2 : (∀ i, i < n → z (tp i 0) ≠ p) → P (some .null) (SC L, I, Q)) : Runs l 31 [.ref B, .int p] (SC L, I, Q) P := by
  have e1 : I B 1 = nI n := hC.tw.1.trans hn
  have loop : ∀ d i, i + d = n → (∀ j, j < i → z (tp j 0) ≠ p) → Sy l 31 (149, 1788) 2 [some (.ref B), some (.int p), some (.int (nI i))] [] (SC L, I, Q) P := by
    intro d
    induction d with
    | zero =>
      intro i hi hno
      have : i = n := by omega
      subst this
      refine wk ((fn0_ok l)) ok_31 30 (fun pc => pc == 2) ?_
      simp only [fn0, kk_31, Option.toList_some, Option.toList_none, ex, catS, vC, isMk, sym, popN, goC, callOK, swL, List.map_cons, List.map_nil, List.replicate_zero, List.replicate_succ, List.append_nil, List.nil_append, List.cons_append, List.getElem?_cons_zero, List.getElem?_cons_succ, List.set_cons_zero, List.set_cons_succ, List.length_cons, List.length_nil, List.head?_cons, Nat.reduceAdd, Nat.reduceLT, Nat.reduceLeDiff, Nat.reduceBEq, Nat.reduceEqDiff, Nat.succ_ne_zero, Nat.zero_lt_succ, Nat.le_refl, sc_rows, kc_lit, nc_lit, wlk_rows, uR_s, uR_uR, true_and, and_true, true_or, or_true, false_or, or_false, and_false, false_and, or_self, and_self, if_true, if_false, Bool.false_eq_true, Bool.or_false, Bool.or_true, Bool.false_or, Bool.true_or, not_true_eq_false, not_false_eq_true, forall_const, true_implies, false_implies, implies_true, reduceIte, reduceCtorEq, e1, tbk hB, tbx hB, leT (Nat.le_refl i) (show i < 2147483648 by omega)]
      exact h2 hno
    | succ d ih =>
      intro i hi hno
      refine wk ((fn0_ok l)) ok_31 40 (fun pc => pc == 2) ?_
      simp only [fn0, kk_31, Option.toList_some, Option.toList_none, ex, catS, vC, isMk, sym, popN, goC, callOK, swL, List.map_cons, List.map_nil, List.replicate_zero, List.replicate_succ, List.append_nil, List.nil_append, List.cons_append, List.getElem?_cons_zero, List.getElem?_cons_succ, List.set_cons_zero, List.set_cons_succ, List.length_cons, List.length_nil, List.head?_cons, Nat.reduceAdd, Nat.reduceLT, Nat.reduceLeDiff, Nat.reduceBEq, Nat.reduceEqDiff, Nat.succ_ne_zero, Nat.zero_lt_succ, Nat.le_refl, sc_rows, kc_lit, nc_lit, wlk_rows, uR_s, uR_uR, true_and, and_true, true_or, or_true, false_or, or_false, and_false, false_and, or_self, and_self, if_true, if_false, Bool.false_eq_true, Bool.or_false, Bool.or_true, Bool.false_or, Bool.true_or, not_true_eq_false, not_false_eq_true, forall_const, true_implies, false_implies, implies_true, reduceIte, reduceCtorEq, e1, tbk hB, tbx hB, tbn L hB, qt hQ, leF (show i < n by omega) (show n < 2147483648 by omega), ixp (show i < 12 by omega) (by omega), hS.1 i (by omega), tbt hB (hS.2.1 i (by omega)), hC.tx (show i < n by omega), nI_up]
      refine ⟨fun g => ih (i + 1) (by omega) (fun j hj => ?_), fun g => h1 i (by omega) g⟩
      by_cases q : j = i
      · subst q; exact g
      · exact hno j (by omega)
  refine run0 (n := 1) mok_31 ⟨rfl, rfl⟩ rfl ?_
  refine wk ((fn0_ok l)) ok_31 30 (fun pc => pc == 2) ?_
  simp only [fn0, kk_31, Option.toList_some, Option.toList_none, ex, catS, vC, isMk, sym, popN, goC, callOK, swL, List.map_cons, List.map_nil, List.replicate_zero, List.replicate_succ, List.append_nil, List.nil_append, List.cons_append, List.getElem?_cons_zero, List.getElem?_cons_succ, List.set_cons_zero, List.set_cons_succ, List.length_cons, List.length_nil, List.head?_cons, Nat.reduceAdd, Nat.reduceLT, Nat.reduceLeDiff, Nat.reduceBEq, Nat.reduceEqDiff, Nat.succ_ne_zero, Nat.zero_lt_succ, Nat.le_refl, sc_rows, kc_lit, nc_lit, wlk_rows, uR_s, uR_uR, true_and, and_true, true_or, or_true, false_or, or_false, and_false, false_and, or_self, and_self, if_true, if_false, Bool.false_eq_true, Bool.or_false, Bool.or_true, Bool.false_or, Bool.true_or, not_true_eq_false, not_false_eq_true, forall_const, true_implies, false_implies, implies_true, reduceIte, reduceCtorEq]
  exact loop n 0 (by omega) (fun j hj => absurd hj (by omega))
set_option maxRecDepth 100000 in
theorem c_placeOf (hB : TB B) (hQ : QT0 Q B) (hS : QS Q B σ) (hC : CA I B σ z n m k) (hm : z 12 = nI m) (hm2 : m ≤ 12) {i : Nat} (hi : i < n) (hn2 : n ≤ 12) (h1 : ∀ j, j < m → z (15 + j) = z (tp i 0) → P (some (.int (nI j))) (SC L, I, Q)) (h2 : (∀ j, j < m → z (15 + j) ≠ z (tp i 0)) → P (some (.int (-5))) (SC L, I, Q)) : Runs l 32 [.ref B, .ref (B + 2 + σ i)] (SC L, I, Q) P := by
  have e1 : I B 3 = nI m := hC.tw.2.1.trans hm
  have loop : ∀ d j, j + d = m → (∀ q, q < j → z (15 + q) ≠ z (tp i 0)) → Sy l 32 (149, 1788) 2 [some (.ref B), some (.ref (B + 2 + σ i)), some (.int (nI j))] [] (SC L, I, Q) P := by
    intro d
    induction d with
    | zero =>
      intro j hj hno
      have : j = m := by omega
      subst this
      refine wk ((fn0_ok l)) ok_32 30 (fun pc => pc == 2) ?_
      simp only [fn0, kk_32, Option.toList_some, Option.toList_none, ex, catS, vC, isMk, sym, popN, goC, callOK, swL, List.map_cons, List.map_nil, List.replicate_zero, List.replicate_succ, List.append_nil, List.nil_append, List.cons_append, List.getElem?_cons_zero, List.getElem?_cons_succ, List.set_cons_zero, List.set_cons_succ, List.length_cons, List.length_nil, List.head?_cons, Nat.reduceAdd, Nat.reduceLT, Nat.reduceLeDiff, Nat.reduceBEq, Nat.reduceEqDiff, Nat.succ_ne_zero, Nat.zero_lt_succ, Nat.le_refl, sc_rows, kc_lit, nc_lit, wlk_rows, uR_s, uR_uR, true_and, and_true, true_or, or_true, false_or, or_false, and_false, false_and, or_self, and_self, if_true, if_false, Bool.false_eq_true, Bool.or_false, Bool.or_true, Bool.false_or, Bool.true_or, not_true_eq_false, not_false_eq_true, forall_const, true_implies, false_implies, implies_true, reduceIte, reduceCtorEq, e1, tbk hB, tbx hB, leT (Nat.le_refl j) (show j < 2147483648 by omega)]
      exact h2 hno
    | succ d ih =>
      intro j hj hno
      refine wk ((fn0_ok l)) ok_32 40 (fun pc => pc == 2) ?_
      simp only [fn0, kk_32, Option.toList_some, Option.toList_none, ex, catS, vC, isMk, sym, popN, goC, callOK, swL, List.map_cons, List.map_nil, List.replicate_zero, List.replicate_succ, List.append_nil, List.nil_append, List.cons_append, List.getElem?_cons_zero, List.getElem?_cons_succ, List.set_cons_zero, List.set_cons_succ, List.length_cons, List.length_nil, List.head?_cons, Nat.reduceAdd, Nat.reduceLT, Nat.reduceLeDiff, Nat.reduceBEq, Nat.reduceEqDiff, Nat.succ_ne_zero, Nat.zero_lt_succ, Nat.le_refl, sc_rows, kc_lit, nc_lit, wlk_rows, uR_s, uR_uR, true_and, and_true, true_or, or_true, false_or, or_false, and_false, false_and, or_self, and_self, if_true, if_false, Bool.false_eq_true, Bool.or_false, Bool.or_true, Bool.false_or, Bool.true_or, not_true_eq_false, not_false_eq_true, forall_const, true_implies, false_implies, implies_true, reduceIte, reduceCtorEq, e1, tbk hB, tbx hB, tbn L hB, qt hQ, leF (show j < m by omega) (show m < 2147483648 by omega), ixp (show j < 12 by omega) (by omega), tbt hB (hS.2.1 i (by omega)), hC.tx hi, hC.2.2.2.1 j (by omega), nI_up]
      refine ⟨fun g => ih (j + 1) (by omega) (fun q hq => ?_), fun g => h1 j (by omega) g⟩
      by_cases e : q = j
      · subst e; exact g
      · exact hno q (by omega)
  refine run0 (n := 1) mok_32 ⟨rfl, rfl⟩ rfl ?_
  refine wk ((fn0_ok l)) ok_32 30 (fun pc => pc == 2) ?_
  simp only [fn0, kk_32, Option.toList_some, Option.toList_none, ex, catS, vC, isMk, sym, popN, goC, callOK, swL, List.map_cons, List.map_nil, List.replicate_zero, List.replicate_succ, List.append_nil, List.nil_append, List.cons_append, List.getElem?_cons_zero, List.getElem?_cons_succ, List.set_cons_zero, List.set_cons_succ, List.length_cons, List.length_nil, List.head?_cons, Nat.reduceAdd, Nat.reduceLT, Nat.reduceLeDiff, Nat.reduceBEq, Nat.reduceEqDiff, Nat.succ_ne_zero, Nat.zero_lt_succ, Nat.le_refl, sc_rows, kc_lit, nc_lit, wlk_rows, uR_s, uR_uR, true_and, and_true, true_or, or_true, false_or, or_false, and_false, false_and, or_self, and_self, if_true, if_false, Bool.false_eq_true, Bool.or_false, Bool.or_true, Bool.false_or, Bool.true_or, not_true_eq_false, not_false_eq_true, forall_const, true_implies, false_implies, implies_true, reduceIte, reduceCtorEq]
  exact loop m 0 (by omega) (fun j hj => absurd hj (by omega))
/-- what a taxi of the state may, in the class -/
theorem may_eq (hC : CA I B σ z n m k) {i : Nat} (hi : i < n) : mayR I B (B + 2 + σ i) = may z i := by
  have t := hC.tx hi
  have w := hC.tw
  simp only [mayR, may, stays, tired, t.1, t.2.2.2.1, w.2.2.1, w.2.2.2.2.2.2.2.2.2.2.2.1]
set_option maxRecDepth 100000 in
theorem c_rider (hB : TB B) (hQ : QT0 Q B) (hS : QS Q B σ) (hC : CA I B σ z n m k) (hL : Ln z n m) (b : Int32) (h1 : P (some (match rider z n m b with | none => .null | some t => .ref (B + 2 + σ t))) (SC L, I, Q)) : Runs l 37 [.ref B, .int b] (SC L, I, Q) P := by
  obtain ⟨hn, hn2, hm, hU, hL1, hL2, hL3, hm2⟩ := id hL
  have e1 : I B 3 = nI m := hC.tw.2.1.trans hm
  have e2 : (I (B + 19) 2 ≤ sz32 (b - 10)) = isLongZ z 10 b := by rw [hC.tw.2.2.2.2.2.2.2.2.2.2.1]
  rw [rider_pkF] at h1
  have loop : ∀ d j a5, j + d = m → Sy l 37 (149, 1788) 13 [some (.ref B), some (.int b), some (.int (b2 (isLongZ z 10 b))), some (match pkF (leR z (isLongZ z 10 b)) (fun _ _ => inferInstance) (cR z n) j with | none => .null | some t => .ref (B + 2 + σ t)), some (.int (nI j)), a5] [] (SC L, I, Q) P := by
    intro d
    induction d with
    | zero =>
      intro j a5 hj
      have : j = m := by omega
      subst this
      cases hp : pkF (leR z (isLongZ z 10 b)) (fun _ _ => inferInstance) (cR z n) j with
      | none =>
        rw [hp] at h1
        refine wk (gn2_ok l L) ok_37 30 (fun pc => pc == 13) ?_
        simp only [gn2, kk_37, Option.toList_some, Option.toList_none, ex, catS, vC, isMk, sym, popN, goC, callOK, swL, List.map_cons, List.map_nil, List.replicate_zero, List.replicate_succ, List.append_nil, List.nil_append, List.cons_append, List.getElem?_cons_zero, List.getElem?_cons_succ, List.set_cons_zero, List.set_cons_succ, List.length_cons, List.length_nil, List.head?_cons, Nat.reduceAdd, Nat.reduceLT, Nat.reduceLeDiff, Nat.reduceBEq, Nat.reduceEqDiff, Nat.succ_ne_zero, Nat.zero_lt_succ, Nat.le_refl, sc_rows, kc_lit, nc_lit, wlk_rows, uR_s, uR_uR, true_and, and_true, true_or, or_true, false_or, or_false, and_false, false_and, or_self, and_self, if_true, if_false, Bool.false_eq_true, Bool.or_false, Bool.or_true, Bool.false_or, Bool.true_or, not_true_eq_false, not_false_eq_true, forall_const, true_implies, false_implies, implies_true, reduceIte, reduceCtorEq, e1, tbk hB, tbx hB, leT (Nat.le_refl j) (show j < 2147483648 by omega), fC_at, fC_begin, fC_place, fC_setg, fC_fare, fC_stays, fC_tired, fC_long, fC_min, CTh_eq, CXh_eq, ix_lit, lt_lit, cl_lit, nz_lit, in5, in12, abs_sz, gn1, fC_may]
        exact h1
      | some t =>
        rw [hp] at h1
        refine wk (gn2_ok l L) ok_37 30 (fun pc => pc == 13) ?_
        simp only [gn2, kk_37, Option.toList_some, Option.toList_none, ex, catS, vC, isMk, sym, popN, goC, callOK, swL, List.map_cons, List.map_nil, List.replicate_zero, List.replicate_succ, List.append_nil, List.nil_append, List.cons_append, List.getElem?_cons_zero, List.getElem?_cons_succ, List.set_cons_zero, List.set_cons_succ, List.length_cons, List.length_nil, List.head?_cons, Nat.reduceAdd, Nat.reduceLT, Nat.reduceLeDiff, Nat.reduceBEq, Nat.reduceEqDiff, Nat.succ_ne_zero, Nat.zero_lt_succ, Nat.le_refl, sc_rows, kc_lit, nc_lit, wlk_rows, uR_s, uR_uR, true_and, and_true, true_or, or_true, false_or, or_false, and_false, false_and, or_self, and_self, if_true, if_false, Bool.false_eq_true, Bool.or_false, Bool.or_true, Bool.false_or, Bool.true_or, not_true_eq_false, not_false_eq_true, forall_const, true_implies, false_implies, implies_true, reduceIte, reduceCtorEq, e1, tbk hB, tbx hB, leT (Nat.le_refl j) (show j < 2147483648 by omega), fC_at, fC_begin, fC_place, fC_setg, fC_fare, fC_stays, fC_tired, fC_long, fC_min, CTh_eq, CXh_eq, ix_lit, lt_lit, cl_lit, nz_lit, in5, in12, abs_sz, gn1, fC_may]
        exact h1
    | succ d ih =>
      intro j a5 hj
      have next := fun a5 => ih (j + 1) a5 (by omega)
      simp only [pkF] at next
      obtain ⟨i, i1, i2, i3, i4⟩ := hL1 j (by omega)
      have elx : lx z n j = i := fTx_eq hU i1 i3
      have htin : ∀ t, pkF (leR z (isLongZ z 10 b)) (fun _ _ => inferInstance) (cR z n) j = some t → t < n := by
        intro t ht
        rw [← rider_pkF] at ht
        rcases rd_in _ j none t (Nat.le_refl j) ht with q | ⟨q, q1, rfl, _⟩
        · cases q
        · exact (lx_ok hL.ok (show q < m by omega)).1
      cases hp : pkF (leR z (isLongZ z 10 b)) (fun _ _ => inferInstance) (cR z n) j with
      | none =>
        rw [hp] at next
        simp only [cR, elx, cmb] at next
        refine wk (gn2_ok l L) ok_37 40 (fun pc => pc == 13) ?_
        simp only [gn2, kk_37, Option.toList_some, Option.toList_none, ex, catS, vC, isMk, sym, popN, goC, callOK, swL, List.map_cons, List.map_nil, List.replicate_zero, List.replicate_succ, List.append_nil, List.nil_append, List.cons_append, List.getElem?_cons_zero, List.getElem?_cons_succ, List.set_cons_zero, List.set_cons_succ, List.length_cons, List.length_nil, List.head?_cons, Nat.reduceAdd, Nat.reduceLT, Nat.reduceLeDiff, Nat.reduceBEq, Nat.reduceEqDiff, Nat.succ_ne_zero, Nat.zero_lt_succ, Nat.le_refl, sc_rows, kc_lit, nc_lit, wlk_rows, uR_s, uR_uR, true_and, and_true, true_or, or_true, false_or, or_false, and_false, false_and, or_self, and_self, if_true, if_false, Bool.false_eq_true, Bool.or_false, Bool.or_true, Bool.false_or, Bool.true_or, not_true_eq_false, not_false_eq_true, forall_const, true_implies, false_implies, implies_true, reduceIte, reduceCtorEq, e1, tbk hB, tbx hB, tbn L hB, qt hQ, leF (show j < m by omega) (show m < 2147483648 by omega), ixp (show j < 12 by omega) (by omega), hC.2.2.2.1 j (by omega), fC_at, fC_begin, fC_place, fC_setg, fC_fare, fC_stays, fC_tired, fC_long, fC_min, CTh_eq, CXh_eq, ix_lit, lt_lit, cl_lit, nz_lit, in5, in12, abs_sz, gn1, fC_may]
        refine c_find hB hQ hS hC hn hn2 _ (fun i' hi' he => ?_) (fun hno => absurd i3 (hno i i1))
        obtain rfl : i' = i := hU i' i hi' i1 (he.trans i3.symm)
        refine wk (gn2_ok l L) ok_37 60 (fun pc => pc == 13) ?_
        simp only [gn2, kk_37, Option.toList_some, Option.toList_none, ex, catS, vC, isMk, sym, popN, goC, callOK, swL, List.map_cons, List.map_nil, List.replicate_zero, List.replicate_succ, List.append_nil, List.nil_append, List.cons_append, List.getElem?_cons_zero, List.getElem?_cons_succ, List.set_cons_zero, List.set_cons_succ, List.length_cons, List.length_nil, List.head?_cons, Nat.reduceAdd, Nat.reduceLT, Nat.reduceLeDiff, Nat.reduceBEq, Nat.reduceEqDiff, Nat.succ_ne_zero, Nat.zero_lt_succ, Nat.le_refl, sc_rows, kc_lit, nc_lit, wlk_rows, uR_s, uR_uR, true_and, and_true, true_or, or_true, false_or, or_false, and_false, false_and, or_self, and_self, if_true, if_false, Bool.false_eq_true, Bool.or_false, Bool.or_true, Bool.false_or, Bool.true_or, not_true_eq_false, not_false_eq_true, forall_const, true_implies, false_implies, implies_true, reduceIte, reduceCtorEq, hB, hQ, tbk hB, tbx hB, tbt hB (hS.2.1 i' (by omega)), b2_0, b2_n0, may_eq hC i1, Decidable.not_not, nI_up, fC_at, fC_begin, fC_place, fC_setg, fC_fare, fC_stays, fC_tired, fC_long, fC_min, CTh_eq, CXh_eq, ix_lit, lt_lit, cl_lit, nz_lit, in5, in12, abs_sz, gn1, fC_may]
        refine ⟨fun g => ?_, fun g => ?_⟩
        · have := next (some (.ref (B + 2 + σ i')))
          rw [if_pos g] at this
          exact this
        · have := next (some (.ref (B + 2 + σ i')))
          rw [if_neg g] at this
          exact this
      | some t =>
        have ht := htin t hp
        rw [hp] at next
        simp only [cR, elx] at next
        refine wk (gn2_ok l L) ok_37 40 (fun pc => pc == 13) ?_
        simp only [gn2, kk_37, Option.toList_some, Option.toList_none, ex, catS, vC, isMk, sym, popN, goC, callOK, swL, List.map_cons, List.map_nil, List.replicate_zero, List.replicate_succ, List.append_nil, List.nil_append, List.cons_append, List.getElem?_cons_zero, List.getElem?_cons_succ, List.set_cons_zero, List.set_cons_succ, List.length_cons, List.length_nil, List.head?_cons, Nat.reduceAdd, Nat.reduceLT, Nat.reduceLeDiff, Nat.reduceBEq, Nat.reduceEqDiff, Nat.succ_ne_zero, Nat.zero_lt_succ, Nat.le_refl, sc_rows, kc_lit, nc_lit, wlk_rows, uR_s, uR_uR, true_and, and_true, true_or, or_true, false_or, or_false, and_false, false_and, or_self, and_self, if_true, if_false, Bool.false_eq_true, Bool.or_false, Bool.or_true, Bool.false_or, Bool.true_or, not_true_eq_false, not_false_eq_true, forall_const, true_implies, false_implies, implies_true, reduceIte, reduceCtorEq, e1, tbk hB, tbx hB, tbn L hB, qt hQ, leF (show j < m by omega) (show m < 2147483648 by omega), ixp (show j < 12 by omega) (by omega), hC.2.2.2.1 j (by omega), fC_at, fC_begin, fC_place, fC_setg, fC_fare, fC_stays, fC_tired, fC_long, fC_min, CTh_eq, CXh_eq, ix_lit, lt_lit, cl_lit, nz_lit, in5, in12, abs_sz, gn1, fC_may]
        refine c_find hB hQ hS hC hn hn2 _ (fun i' hi' he => ?_) (fun hno => absurd i3 (hno i i1))
        obtain rfl : i' = i := hU i' i hi' i1 (he.trans i3.symm)
        refine wk (gn2_ok l L) ok_37 60 (fun pc => pc == 13) ?_
        simp only [gn2, kk_37, Option.toList_some, Option.toList_none, ex, catS, vC, isMk, sym, popN, goC, callOK, swL, List.map_cons, List.map_nil, List.replicate_zero, List.replicate_succ, List.append_nil, List.nil_append, List.cons_append, List.getElem?_cons_zero, List.getElem?_cons_succ, List.set_cons_zero, List.set_cons_succ, List.length_cons, List.length_nil, List.head?_cons, Nat.reduceAdd, Nat.reduceLT, Nat.reduceLeDiff, Nat.reduceBEq, Nat.reduceEqDiff, Nat.succ_ne_zero, Nat.zero_lt_succ, Nat.le_refl, sc_rows, kc_lit, nc_lit, wlk_rows, uR_s, uR_uR, true_and, and_true, true_or, or_true, false_or, or_false, and_false, false_and, or_self, and_self, if_true, if_false, Bool.false_eq_true, Bool.or_false, Bool.or_true, Bool.false_or, Bool.true_or, not_true_eq_false, not_false_eq_true, forall_const, true_implies, false_implies, implies_true, reduceIte, reduceCtorEq, hB, hQ, tbk hB, tbx hB, tbt hB (hS.2.1 i' (by omega)), tbt hB (hS.2.1 t (by omega)), hC.tx i1, hC.tx ht, b2_0, b2_n0, may_eq hC i1, Decidable.not_not, nI_up, fC_at, fC_begin, fC_place, fC_setg, fC_fare, fC_stays, fC_tired, fC_long, fC_min, CTh_eq, CXh_eq, ix_lit, lt_lit, cl_lit, nz_lit, in5, in12, abs_sz, gn1, fC_may]
        have keep : ¬ (may z i' ∧ ¬ leR z (isLongZ z 10 b) t i') → ∀ a5, Sy l 37 (149, 1788) 13 [some (.ref B), some (.int b), some (.int (b2 (isLongZ z 10 b))), some (.ref (B + 2 + σ t)), some (.int (nI (j + 1))), a5] [] (SC L, I, Q) P := by
          intro hne a5
          have := next a5
          by_cases q : may z i'
          · rw [if_pos q] at this
            have q2 : leR z (isLongZ z 10 b) t i' := Decidable.not_not.mp (fun c => hne ⟨q, c⟩)
            simp only [cmb, if_pos q2] at this
            exact this
          · rw [if_neg q] at this
            exact this
        have take : may z i' ∧ ¬ leR z (isLongZ z 10 b) t i' → ∀ a5, Sy l 37 (149, 1788) 13 [some (.ref B), some (.int b), some (.int (b2 (isLongZ z 10 b))), some (.ref (B + 2 + σ i')), some (.int (nI (j + 1))), a5] [] (SC L, I, Q) P := by
          intro he a5
          have := next a5
          rw [if_pos he.1] at this
          simp only [cmb, if_neg he.2] at this
          exact this
        refine ⟨fun g => ⟨fun g2 => ?_, fun g2 => ⟨fun g3 => ?_, fun g3 => ?_⟩⟩, fun g => ?_⟩
        · exact keep (fun c => c.2 (Or.inl g2)) _
        · exact keep (fun c => c.2 (Or.inr g3)) _
        · exact take ⟨g, fun c => c.elim (fun q => q g2) (fun q => g3 q)⟩ _
        · exact keep (fun c => g c.1) _
  refine run0 (n := 4) mok_37 ⟨rfl, rfl⟩ rfl ?_
  refine wk (gn2_ok l L) ok_37 30 (fun pc => pc == 13) ?_
  simp only [gn2, kk_37, Option.toList_some, Option.toList_none, ex, catS, vC, isMk, sym, popN, goC, callOK, swL, List.map_cons, List.map_nil, List.replicate_zero, List.replicate_succ, List.append_nil, List.nil_append, List.cons_append, List.getElem?_cons_zero, List.getElem?_cons_succ, List.set_cons_zero, List.set_cons_succ, List.length_cons, List.length_nil, List.head?_cons, Nat.reduceAdd, Nat.reduceLT, Nat.reduceLeDiff, Nat.reduceBEq, Nat.reduceEqDiff, Nat.succ_ne_zero, Nat.zero_lt_succ, Nat.le_refl, sc_rows, kc_lit, nc_lit, wlk_rows, uR_s, uR_uR, true_and, and_true, true_or, or_true, false_or, or_false, and_false, false_and, or_self, and_self, if_true, if_false, Bool.false_eq_true, Bool.or_false, Bool.or_true, Bool.false_or, Bool.true_or, not_true_eq_false, not_false_eq_true, forall_const, true_implies, false_implies, implies_true, reduceIte, reduceCtorEq, hB, hQ, e2, tbk hB, tbx hB, fC_at, fC_begin, fC_place, fC_setg, fC_fare, fC_stays, fC_tired, fC_long, fC_min, CTh_eq, CXh_eq, ix_lit, lt_lit, cl_lit, nz_lit, in5, in12, abs_sz, gn1, fC_may]
  have := loop m 0 none (by omega)
  simp only [pkF] at this
  exact this
end C4

