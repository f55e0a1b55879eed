/-! the reference: until a passenger rides, until a taxi is in the line -/
section F4
variable {l : Launch} {L : Nat} {I : Nat → Nat → Int32} {Q : Nat → Nat → Option Nat} {P : Option Value → PH → Prop} {z : Nat → Int32} {n m k : Nat} {y : Nat → Int32}
/-- one minute more, as the reference asks -/
theorem ra_step {b c p t0 : Nat} {s : Int32} {r0 : Nat} (hM : MV z n k) (hE : EX z n k b c) (hA : AT z k s (nI t0) r0) (ht : t0 ≤ c) (hp : z 1 = nI p) (hp2 : p ≤ 240) (hc : c < 1000000) : ∃ k', MV (zMn z) n k' ∧ EX (zMn z) n k' b (c + 1) ∧ zMn z 1 = nI p ∧ zMn z 5 = nI (c + 1) ∧ ((p + t0 ≤ c + 1 ∧ NT (zMn z) k' s ∧ (zMin s z 0).2 = 0) ∨ (¬ p + t0 ≤ c + 1 ∧ (((∃ r', AT (zMn z) k' s (nI t0) r') ∧ (zMin s z 0).2 = 0) ∨ (NT (zMn z) k' s ∧ (zMin s z 0).2 = 1)))) := by
  obtain ⟨k', m1, m2, ⟨m3, m4⟩, m5, m6⟩ := min_tk s 0 hM hE (Or.inl rfl)
  rw [zMin_1] at m1 m2 m3 m4 m5 m6
  have e5 : z 5 + 1 - nI t0 = nI (c + 1 - t0) := by rw [hE.2.1, nI_up, nI_sub (by omega)]
  have key : (z 1 ≤ z 5 + 1 - nI t0) ↔ p + t0 ≤ c + 1 := by
    rw [e5, hp, nI_leI (by omega) (by omega)]
    omega
  refine ⟨k', m1, m2, m3.trans hp, by rw [m4, hE.2.1, nI_up], ?_⟩
  by_cases g : p + t0 ≤ c + 1
  · exact Or.inl ⟨g, m6 _ r0 hA (key.mpr g)⟩
  · exact Or.inr ⟨g, m5 _ r0 hA (fun q => g (key.mp q))⟩
theorem RA_out {s : Int32} {t0 d j : Nat} {k' : Nat} (hM : MV (zMn z) n k') (hN : NT (zMn z) k' s) : RA s (nI t0) (d + 1) z j = if zMn z 1 ≤ zMn z 5 - nI t0 then -5 else nI (j + 1) := by
  have e13 : ix (zMn z 13) = k' := by rw [hM.2.2.2.1]; exact ix_nI (by have := hM.2.2.2.2.1; omega)
  simp only [RA, e13, hasN_f hN]
  rfl
theorem RA_in {s : Int32} {t0 d j : Nat} {k' r' : Nat} (hM : MV (zMn z) n k') (hA : AT (zMn z) k' s (nI t0) r') : RA s (nI t0) (d + 1) z j = RA s (nI t0) d (zMn z) (j + 1) := by
  have e13 : ix (zMn z 13) = k' := by rw [hM.2.2.2.1]; exact ix_nI (by have := hM.2.2.2.2.1; omega)
  simp only [RA, e13]
  rw [if_pos (hasN_t.mpr ⟨r', hA.1, hA.2.2⟩)]
set_option maxRecDepth 100000 in
theorem r_ridesEnd (hQ : QM Q) (a1 : Value) {N : Nat} {a4 : Option Value} (hN : N < 1000) (hh : y 11 = 0 ∨ y 11 = 1) (h1 : P (some (.int (if y 11 = 0 then -5 else nI N))) (SC L, uR (uR I 149 y) 150 (va_cpy (I 151) z 0 0 228), Q)) : Sy l 147 (156, 3525) 51 [some (.ref 149), some a1, some (.int (nI N)), some (.int 0), a4] [] (SC L, uR (uR I 149 y) 150 z, Q) P := by
  have u1 : ∀ (f : Nat → Nat → Int32) (g : Nat → Int32), uR f 150 g 151 = f 151 := fun f g => uR_n _ _ (by omega)
  have u2 : ∀ (f : Nat → Nat → Int32) (g : Nat → Int32), uR f 149 g 151 = f 151 := fun f g => uR_n _ _ (by omega)
  refine wk (fn3_ok l L) ok_147 40 (fun pc => pc == 55) ?_
  simp only [fn3, kk_147, Option.toList_some, Option.toList_none, ex, sym, popN, goC, callOK, swL, List.map_cons, List.map_nil, List.replicate_zero, List.replicate_succ, List.append_nil, List.nil_append, List.cons_append, List.getElem?_cons_zero, List.getElem?_cons_succ, List.set_cons_zero, List.set_cons_succ, List.length_cons, List.length_nil, List.head?_cons, Nat.reduceAdd, Nat.reduceLT, Nat.reduceLeDiff, Nat.reduceBEq, Nat.reduceEqDiff, Nat.succ_ne_zero, Nat.zero_lt_succ, Nat.le_refl, sc_rows, kc_lit, nc_lit, wlk_rows, uR_s, uR_uR, true_and, and_true, true_or, or_true, false_or, or_false, and_false, false_and, or_self, and_self, if_true, if_false, Bool.false_eq_true, Bool.or_false, Bool.or_true, Bool.false_or, Bool.true_or, not_true_eq_false, not_false_eq_true, forall_const, true_implies, false_implies, implies_true, reduceIte, reduceCtorEq, hQ.1, hQ.2.1, fA_in, fA_size, fA_of, fA_lay, fA_tally, fA_waits, MOKh_eq, setZ_eq, ix_lit, in_lit, lt_lit, cl_lit, nz_lit, fn1, fn2, fA_stays, fA_tired, fA_begin, fA_fare, fA_place, fA_may]
  refine r_copyState (p := 151) (q := 150) (s := 0) (d := 0) ⟨rfl, by omega⟩ ⟨rfl, by omega⟩ (by omega) (by rw [(rq L).2.2.2.2.2.2.1]; omega) (by rw [(rq L).2.2.2.2.2.1]; omega) (by rw [(rq L).2.2.2.2.2.2.1]; omega) (by rw [(rq L).2.2.2.2.2.1]; omega) ?_
  rw [u1, u2, uR_s, uR_uR]
  rcases hh with e | e
  · rw [if_pos e] at h1
    refine wk (fn3_ok l L) ok_147 40 (fun pc => false) ?_
    simp only [fn3, kk_147, Option.toList_some, Option.toList_none, ex, sym, popN, goC, callOK, swL, List.map_cons, List.map_nil, List.replicate_zero, List.replicate_succ, List.append_nil, List.nil_append, List.cons_append, List.getElem?_cons_zero, List.getElem?_cons_succ, List.set_cons_zero, List.set_cons_succ, List.length_cons, List.length_nil, List.head?_cons, Nat.reduceAdd, Nat.reduceLT, Nat.reduceLeDiff, Nat.reduceBEq, Nat.reduceEqDiff, Nat.succ_ne_zero, Nat.zero_lt_succ, Nat.le_refl, sc_rows, kc_lit, nc_lit, wlk_rows, uR_s, uR_uR, true_and, and_true, true_or, or_true, false_or, or_false, and_false, false_and, or_self, and_self, if_true, if_false, Bool.false_eq_true, Bool.or_false, Bool.or_true, Bool.false_or, Bool.true_or, not_true_eq_false, not_false_eq_true, forall_const, true_implies, false_implies, implies_true, reduceIte, reduceCtorEq, hQ.1, uR_149, uR_r149, e, fA_in, fA_size, fA_of, fA_lay, fA_tally, fA_waits, MOKh_eq, setZ_eq, ix_lit, in_lit, lt_lit, cl_lit, nz_lit, fn1, fn2, fA_stays, fA_tired, fA_begin, fA_fare, fA_place, fA_may]
    exact h1
  · rw [if_neg (by rw [e]; decide)] at h1
    refine wk (fn3_ok l L) ok_147 40 (fun pc => false) ?_
    simp only [fn3, kk_147, Option.toList_some, Option.toList_none, ex, sym, popN, goC, callOK, swL, List.map_cons, List.map_nil, List.replicate_zero, List.replicate_succ, List.append_nil, List.nil_append, List.cons_append, List.getElem?_cons_zero, List.getElem?_cons_succ, List.set_cons_zero, List.set_cons_succ, List.length_cons, List.length_nil, List.head?_cons, Nat.reduceAdd, Nat.reduceLT, Nat.reduceLeDiff, Nat.reduceBEq, Nat.reduceEqDiff, Nat.succ_ne_zero, Nat.zero_lt_succ, Nat.le_refl, sc_rows, kc_lit, nc_lit, wlk_rows, uR_s, uR_uR, true_and, and_true, true_or, or_true, false_or, or_false, and_false, false_and, or_self, and_self, if_true, if_false, Bool.false_eq_true, Bool.or_false, Bool.or_true, Bool.false_or, Bool.true_or, not_true_eq_false, not_false_eq_true, forall_const, true_implies, false_implies, implies_true, reduceIte, reduceCtorEq, hQ.1, uR_149, uR_r149, e, nz_lit, fA_in, fA_size, fA_of, fA_lay, fA_tally, fA_waits, MOKh_eq, setZ_eq, ix_lit, in_lit, lt_lit, cl_lit, nz_lit, fn1, fn2, fA_stays, fA_tired, fA_begin, fA_fare, fA_place, fA_may]
    exact h1
set_option maxRecDepth 100000 in
theorem r_ridesLoop (hQ : QM Q) (a1 : Value) {s : Int32} {t0 p b : Nat} (hp2 : p ≤ 240) {V : Int32} (h1 : ∀ y' z', (∀ j, j ≠ 11 → y' j = y j) → P (some (.int V)) (SC L, uR (uR I 149 y') 150 (va_cpy (I 151) z' 0 0 228), Q)) (hs : y 10 = s) : ∀ d j (z : Nat → Int32) k c r0 y' a4, j + d < 240 → MV z n k → EX z n k b c → AT z k s (nI t0) r0 → t0 ≤ c → z 1 = nI p → c + d < 900000 → p + t0 ≤ c + (d + 1) → RA s (nI t0) (d + 1) z j = V → (∀ q, q ≠ 11 → y' q = y q) → y' 11 = 0 → Sy l 147 (156, 3525) 51 [some (.ref 149), some a1, some (.int (nI j)), some (.int 1), a4] [] (SC L, uR (uR I 149 y') 150 z, Q) P := by
  intro d
  induction d with
  | zero =>
    intro j z k c r0 y' a4 hj hM hE hA ht hp hc hpt hR hy h11
    obtain ⟨k', m1, m2, m3, m4, m5⟩ := ra_step hM hE hA ht hp hp2 (by omega)
    refine wk (fn3_ok l L) ok_147 20 (fun pc => pc == 112) ?_
    simp only [fn3, kk_147, Option.toList_some, Option.toList_none, ex, sym, popN, goC, callOK, swL, List.map_cons, List.map_nil, List.replicate_zero, List.replicate_succ, List.append_nil, List.nil_append, List.cons_append, List.getElem?_cons_zero, List.getElem?_cons_succ, List.set_cons_zero, List.set_cons_succ, List.length_cons, List.length_nil, List.head?_cons, Nat.reduceAdd, Nat.reduceLT, Nat.reduceLeDiff, Nat.reduceBEq, Nat.reduceEqDiff, Nat.succ_ne_zero, Nat.zero_lt_succ, Nat.le_refl, sc_rows, kc_lit, nc_lit, wlk_rows, uR_s, uR_uR, true_and, and_true, true_or, or_true, false_or, or_false, and_false, false_and, or_self, and_self, if_true, if_false, Bool.false_eq_true, Bool.or_false, Bool.or_true, Bool.false_or, Bool.true_or, not_true_eq_false, not_false_eq_true, forall_const, true_implies, false_implies, implies_true, reduceIte, reduceCtorEq, nz_lit, fA_in, fA_size, fA_of, fA_lay, fA_tally, fA_waits, MOKh_eq, setZ_eq, ix_lit, in_lit, lt_lit, cl_lit, nz_lit, fn1, fn2, fA_stays, fA_tired, fA_begin, fA_fare, fA_place, fA_may]
    refine rz_mn hQ hM ?_
    have e10 : y' 10 = s := (hy 10 (by omega)).trans hs
    rw [e10, h11]
    have hy2 : ∀ (v : Int32) q, q ≠ 11 → upd y' 11 v q = y q := fun v q hq => by rw [upd_n _ _ hq]; exact hy q hq
    rcases m5 with ⟨g1, g2, g3⟩ | ⟨g1, g2⟩
    · rw [g3]
      rw [RA_out m1 g2, if_pos (by rw [m3, m4, nI_sub (by omega), nI_leI (by omega) (by omega)]; omega)] at hR
      refine wk (fn3_ok l L) ok_147 20 (fun pc => pc == 62) ?_
      simp only [fn3, kk_147, Option.toList_some, Option.toList_none, ex, sym, popN, goC, callOK, swL, List.map_cons, List.map_nil, List.replicate_zero, List.replicate_succ, List.append_nil, List.nil_append, List.cons_append, List.getElem?_cons_zero, List.getElem?_cons_succ, List.set_cons_zero, List.set_cons_succ, List.length_cons, List.length_nil, List.head?_cons, Nat.reduceAdd, Nat.reduceLT, Nat.reduceLeDiff, Nat.reduceBEq, Nat.reduceEqDiff, Nat.succ_ne_zero, Nat.zero_lt_succ, Nat.le_refl, sc_rows, kc_lit, nc_lit, wlk_rows, uR_s, uR_uR, true_and, and_true, true_or, or_true, false_or, or_false, and_false, false_and, or_self, and_self, if_true, if_false, Bool.false_eq_true, Bool.or_false, Bool.or_true, Bool.false_or, Bool.true_or, not_true_eq_false, not_false_eq_true, forall_const, true_implies, false_implies, implies_true, reduceIte, reduceCtorEq, nI_up, fA_in, fA_size, fA_of, fA_lay, fA_tally, fA_waits, MOKh_eq, setZ_eq, ix_lit, in_lit, lt_lit, cl_lit, nz_lit, fn1, fn2, fA_stays, fA_tired, fA_begin, fA_fare, fA_place, fA_may]
      refine (r_has (P := P) (I := I) (y := upd y' 11 0) (a2 := some (.int (nI (j + 1)))) hQ a1 s m1 (by rw [upd_n _ _ (by omega)]; exact e10) (fun a4 => ?_)).2 _
      rw [hasN_f g2, b2_f (show ¬ false = true by decide)]
      refine r_ridesEnd hQ a1 (by omega) (Or.inl (upd_e _ _ _)) ?_
      rw [if_pos (upd_e _ _ _), hR]
      exact h1 _ _ (hy2 0)
    · exact absurd hpt (by omega)
  | succ d ih =>
    intro j z k c r0 y' a4 hj hM hE hA ht hp hc hpt hR hy h11
    obtain ⟨k', m1, m2, m3, m4, m5⟩ := ra_step hM hE hA ht hp hp2 (by omega)
    refine wk (fn3_ok l L) ok_147 20 (fun pc => pc == 112) ?_
    simp only [fn3, kk_147, Option.toList_some, Option.toList_none, ex, sym, popN, goC, callOK, swL, List.map_cons, List.map_nil, List.replicate_zero, List.replicate_succ, List.append_nil, List.nil_append, List.cons_append, List.getElem?_cons_zero, List.getElem?_cons_succ, List.set_cons_zero, List.set_cons_succ, List.length_cons, List.length_nil, List.head?_cons, Nat.reduceAdd, Nat.reduceLT, Nat.reduceLeDiff, Nat.reduceBEq, Nat.reduceEqDiff, Nat.succ_ne_zero, Nat.zero_lt_succ, Nat.le_refl, sc_rows, kc_lit, nc_lit, wlk_rows, uR_s, uR_uR, true_and, and_true, true_or, or_true, false_or, or_false, and_false, false_and, or_self, and_self, if_true, if_false, Bool.false_eq_true, Bool.or_false, Bool.or_true, Bool.false_or, Bool.true_or, not_true_eq_false, not_false_eq_true, forall_const, true_implies, false_implies, implies_true, reduceIte, reduceCtorEq, nz_lit, fA_in, fA_size, fA_of, fA_lay, fA_tally, fA_waits, MOKh_eq, setZ_eq, ix_lit, in_lit, lt_lit, cl_lit, nz_lit, fn1, fn2, fA_stays, fA_tired, fA_begin, fA_fare, fA_place, fA_may]
    refine rz_mn hQ hM ?_
    have e10 : y' 10 = s := (hy 10 (by omega)).trans hs
    rw [e10, h11]
    have hy2 : ∀ (v : Int32) q, q ≠ 11 → upd y' 11 v q = y q := fun v q hq => by rw [upd_n _ _ hq]; exact hy q hq
    rcases m5 with ⟨g1, g2, g3⟩ | ⟨g1, ⟨⟨r', g2⟩, g3⟩ | ⟨g2, g3⟩⟩
    · rw [g3]
      rw [RA_out m1 g2, if_pos (by rw [m3, m4, nI_sub (by omega), nI_leI (by omega) (by omega)]; omega)] at hR
      refine wk (fn3_ok l L) ok_147 20 (fun pc => pc == 62) ?_
      simp only [fn3, kk_147, Option.toList_some, Option.toList_none, ex, sym, popN, goC, callOK, swL, List.map_cons, List.map_nil, List.replicate_zero, List.replicate_succ, List.append_nil, List.nil_append, List.cons_append, List.getElem?_cons_zero, List.getElem?_cons_succ, List.set_cons_zero, List.set_cons_succ, List.length_cons, List.length_nil, List.head?_cons, Nat.reduceAdd, Nat.reduceLT, Nat.reduceLeDiff, Nat.reduceBEq, Nat.reduceEqDiff, Nat.succ_ne_zero, Nat.zero_lt_succ, Nat.le_refl, sc_rows, kc_lit, nc_lit, wlk_rows, uR_s, uR_uR, true_and, and_true, true_or, or_true, false_or, or_false, and_false, false_and, or_self, and_self, if_true, if_false, Bool.false_eq_true, Bool.or_false, Bool.or_true, Bool.false_or, Bool.true_or, not_true_eq_false, not_false_eq_true, forall_const, true_implies, false_implies, implies_true, reduceIte, reduceCtorEq, nI_up, fA_in, fA_size, fA_of, fA_lay, fA_tally, fA_waits, MOKh_eq, setZ_eq, ix_lit, in_lit, lt_lit, cl_lit, nz_lit, fn1, fn2, fA_stays, fA_tired, fA_begin, fA_fare, fA_place, fA_may]
      refine (r_has (P := P) (I := I) (y := upd y' 11 0) (a2 := some (.int (nI (j + 1)))) hQ a1 s m1 (by rw [upd_n _ _ (by omega)]; exact e10) (fun a4 => ?_)).2 _
      rw [hasN_f g2, b2_f (show ¬ false = true by decide)]
      refine r_ridesEnd hQ a1 (by omega) (Or.inl (upd_e _ _ _)) ?_
      rw [if_pos (upd_e _ _ _), hR]
      exact h1 _ _ (hy2 0)
    · rw [g3]
      rw [RA_in m1 g2] at hR
      refine wk (fn3_ok l L) ok_147 20 (fun pc => pc == 62) ?_
      simp only [fn3, kk_147, Option.toList_some, Option.toList_none, ex, sym, popN, goC, callOK, swL, List.map_cons, List.map_nil, List.replicate_zero, List.replicate_succ, List.append_nil, List.nil_append, List.cons_append, List.getElem?_cons_zero, List.getElem?_cons_succ, List.set_cons_zero, List.set_cons_succ, List.length_cons, List.length_nil, List.head?_cons, Nat.reduceAdd, Nat.reduceLT, Nat.reduceLeDiff, Nat.reduceBEq, Nat.reduceEqDiff, Nat.succ_ne_zero, Nat.zero_lt_succ, Nat.le_refl, sc_rows, kc_lit, nc_lit, wlk_rows, uR_s, uR_uR, true_and, and_true, true_or, or_true, false_or, or_false, and_false, false_and, or_self, and_self, if_true, if_false, Bool.false_eq_true, Bool.or_false, Bool.or_true, Bool.false_or, Bool.true_or, not_true_eq_false, not_false_eq_true, forall_const, true_implies, false_implies, implies_true, reduceIte, reduceCtorEq, nI_up, fA_in, fA_size, fA_of, fA_lay, fA_tally, fA_waits, MOKh_eq, setZ_eq, ix_lit, in_lit, lt_lit, cl_lit, nz_lit, fn1, fn2, fA_stays, fA_tired, fA_begin, fA_fare, fA_place, fA_may]
      refine (r_has (P := P) (I := I) (y := upd y' 11 0) (a2 := some (.int (nI (j + 1)))) hQ a1 s m1 (by rw [upd_n _ _ (by omega)]; exact e10) (fun a4 => ?_)).2 _
      rw [hasN_t.mpr ⟨r', g2.1, g2.2.2⟩, b2_t (rfl : true = true)]
      exact ih (j + 1) _ k' (c + 1) r' _ _ (by omega) m1 m2 g2 (by omega) m3 (by omega) (by omega) hR (hy2 0) (upd_e _ _ _)
    · rw [g3]
      rw [RA_out m1 g2, if_neg (by rw [m3, m4, nI_sub (by omega), nI_leI (by omega) (by omega)]; omega)] at hR
      refine wk (fn3_ok l L) ok_147 20 (fun pc => pc == 62) ?_
      simp only [fn3, kk_147, Option.toList_some, Option.toList_none, ex, sym, popN, goC, callOK, swL, List.map_cons, List.map_nil, List.replicate_zero, List.replicate_succ, List.append_nil, List.nil_append, List.cons_append, List.getElem?_cons_zero, List.getElem?_cons_succ, List.set_cons_zero, List.set_cons_succ, List.length_cons, List.length_nil, List.head?_cons, Nat.reduceAdd, Nat.reduceLT, Nat.reduceLeDiff, Nat.reduceBEq, Nat.reduceEqDiff, Nat.succ_ne_zero, Nat.zero_lt_succ, Nat.le_refl, sc_rows, kc_lit, nc_lit, wlk_rows, uR_s, uR_uR, true_and, and_true, true_or, or_true, false_or, or_false, and_false, false_and, or_self, and_self, if_true, if_false, Bool.false_eq_true, Bool.or_false, Bool.or_true, Bool.false_or, Bool.true_or, not_true_eq_false, not_false_eq_true, forall_const, true_implies, false_implies, implies_true, reduceIte, reduceCtorEq, nI_up, fA_in, fA_size, fA_of, fA_lay, fA_tally, fA_waits, MOKh_eq, setZ_eq, ix_lit, in_lit, lt_lit, cl_lit, nz_lit, fn1, fn2, fA_stays, fA_tired, fA_begin, fA_fare, fA_place, fA_may]
      refine (r_has (P := P) (I := I) (y := upd y' 11 1) (a2 := some (.int (nI (j + 1)))) hQ a1 s m1 (by rw [upd_n _ _ (by omega)]; exact e10) (fun a4 => ?_)).2 _
      rw [hasN_f g2, b2_f (show ¬ false = true by decide)]
      refine r_ridesEnd hQ a1 (by omega) (Or.inr (upd_e _ _ _)) ?_
      rw [if_neg (by rw [upd_e]; decide), hR]
      exact h1 _ _ (hy2 1)
set_option maxRecDepth 100000 in
theorem r_ridesIn (hQ : QM Q) {b c : Nat} (hM : MV (I 150) n k) (hE : EX (I 150) n k b c) (hc : c ≤ 99999) (x : Int32) (h1 : ¬ (0 ≤ x ∧ x < nI k) → P (some (.int (-1))) (SC L, I, Q)) (h2 : ∀ r, r < k → x = nI r → ∀ I', RQ I I' → P (some (.int (RA (I 150 (27 + 3 * r + 2)) (I 150 (27 + 3 * r + 1)) 240 (I 150) 0))) (SC L, I', Q)) : Runs l 147 [.ref 149, .int x] (SC L, I, Q) P := by
  have hk := hM.2.2.2.2.1
  have hkz := hM.2.2.2.1
  refine run0 (n := 3) mok_147 ⟨rfl, rfl⟩ rfl ?_
  have ek : (0 ≤ x ∧ x ≤ nI k - 1) ↔ (0 ≤ x ∧ x < nI k) := by
    by_cases k0 : k = 0
    · subst k0
      have e1 : (nI 0 - 1).toInt = -1 := by decide
      have e0 : (0 : Int32).toInt = 0 := by decide
      have e2 : (nI 0).toInt = 0 := by decide
      rw [Int32.le_iff_toInt_le (x := 0), Int32.le_iff_toInt_le (y := nI 0 - 1), Int32.lt_iff_toInt_lt (y := nI 0)]
      omega
    · rw [(nI_dn (show 0 < k by omega)).2]
      have e1 : (nI (k - 1)).toInt = ((k - 1 : Nat) : Int) := nI_toInt (by omega)
      have e2 : (nI k).toInt = (k : Int) := nI_toInt (by omega)
      rw [Int32.le_iff_toInt_le (x := 0), Int32.le_iff_toInt_le (y := nI (k - 1)), Int32.lt_iff_toInt_lt (y := nI k)]
      omega
  by_cases g : 0 ≤ x ∧ x < nI k
  · have hx : ∃ r, r < k ∧ x = nI r := by
      obtain ⟨r, hr, rfl⟩ := nI_of (Int32.not_lt.mpr g.1)
      exact ⟨r, (nI_ltI hr (by omega)).mp g.2, rfl⟩
    obtain ⟨r, hr, rfl⟩ := hx
    obtain ⟨a, a1, a2, a3⟩ := hE.2.2.1
    obtain ⟨t0, q0, t1, t2, t3, t4⟩ := a3 r hr
    obtain ⟨p, hp2, hp⟩ := nI_of2 (M := 240) (n := 240) (x := I 150 1) rfl (nn_of1 hM.2.2.1.2.1.1) hM.2.2.1.2.1.2
    have h2' := h2 r hr rfl
    generalize hs : I 150 (27 + 3 * r + 2) = s at h2'
    rw [t1] at h2'
    refine wk (fn3_ok l L) ok_147 20 (fun pc => pc == 17) ?_
    simp only [fn3, kk_147, Option.toList_some, Option.toList_none, ex, sym, popN, goC, callOK, swL, List.map_cons, List.map_nil, List.replicate_zero, List.replicate_succ, List.append_nil, List.nil_append, List.cons_append, List.getElem?_cons_zero, List.getElem?_cons_succ, List.set_cons_zero, List.set_cons_succ, List.length_cons, List.length_nil, List.head?_cons, Nat.reduceAdd, Nat.reduceLT, Nat.reduceLeDiff, Nat.reduceBEq, Nat.reduceEqDiff, Nat.succ_ne_zero, Nat.zero_lt_succ, Nat.le_refl, sc_rows, kc_lit, nc_lit, wlk_rows, uR_s, uR_uR, true_and, and_true, true_or, or_true, false_or, or_false, and_false, false_and, or_self, and_self, if_true, if_false, Bool.false_eq_true, Bool.or_false, Bool.or_true, Bool.false_or, Bool.true_or, not_true_eq_false, not_false_eq_true, forall_const, true_implies, false_implies, implies_true, reduceIte, reduceCtorEq, hQ.1, hQ.2.1, hkz, b2_t (ek.mpr g), nz_lit, fA_in, fA_size, fA_of, fA_lay, fA_tally, fA_waits, MOKh_eq, setZ_eq, ix_lit, in_lit, lt_lit, cl_lit, nz_lit, fn1, fn2, fA_stays, fA_tired, fA_begin, fA_fare, fA_place, fA_may]
    refine r_copyState (p := 150) (q := 151) (s := 0) (d := 0) ⟨rfl, by omega⟩ ⟨rfl, by omega⟩ (by omega) (by rw [(rq L).2.2.2.2.2.1]; omega) (by rw [(rq L).2.2.2.2.2.2.1]; omega) (by rw [(rq L).2.2.2.2.2.1]; omega) (by rw [(rq L).2.2.2.2.2.2.1]; omega) ?_
    have u1 : ∀ (f : Nat → Nat → Int32) (g : Nat → Int32), uR f 151 g 150 = f 150 := fun f g => uR_n _ _ (by omega)
    have u2 : ∀ (f : Nat → Nat → Int32) (g : Nat → Int32), uR f 149 g 150 = f 150 := fun f g => uR_n _ _ (by omega)
    refine wk (fn3_ok l L) ok_147 30 (fun pc => pc == 51) ?_
    simp only [fn3, kk_147, Option.toList_some, Option.toList_none, ex, sym, popN, goC, callOK, swL, List.map_cons, List.map_nil, List.replicate_zero, List.replicate_succ, List.append_nil, List.nil_append, List.cons_append, List.getElem?_cons_zero, List.getElem?_cons_succ, List.set_cons_zero, List.set_cons_succ, List.length_cons, List.length_nil, List.head?_cons, Nat.reduceAdd, Nat.reduceLT, Nat.reduceLeDiff, Nat.reduceBEq, Nat.reduceEqDiff, Nat.succ_ne_zero, Nat.zero_lt_succ, Nat.le_refl, sc_rows, kc_lit, nc_lit, wlk_rows, uR_s, uR_uR, true_and, and_true, true_or, or_true, false_or, or_false, and_false, false_and, or_self, and_self, if_true, if_false, Bool.false_eq_true, Bool.or_false, Bool.or_true, Bool.false_or, Bool.true_or, not_true_eq_false, not_false_eq_true, forall_const, true_implies, false_implies, implies_true, reduceIte, reduceCtorEq, hQ, hQ.1, u1, u2, smI (show r < 2147483648 by omega), show r < 15 by omega, hs, fA_in, fA_size, fA_of, fA_lay, fA_tally, fA_waits, MOKh_eq, setZ_eq, ix_lit, in_lit, lt_lit, cl_lit, nz_lit, fn1, fn2, fA_stays, fA_tired, fA_begin, fA_fare, fA_place, fA_may]
    have e149 : uR I 151 (va_cpy (I 150) (I 151) 0 0 228) 149 = I 149 := uR_n _ _ (by omega)
    rw [e149]
    have shape : uR (uR I 151 (va_cpy (I 150) (I 151) 0 0 228)) 149 (upd (upd (I 149) 10 s) 11 0) = uR (uR (uR I 151 (va_cpy (I 150) (I 151) 0 0 228)) 149 (upd (upd (I 149) 10 s) 11 0)) 150 (I 150) := by
      funext q
      by_cases e : q = 150
      · subst e; rw [uR_s, u2, u1]
      · rw [uR_n _ _ e]
    rw [shape]
    refine r_ridesLoop (n := n) (I := uR I 151 (va_cpy (I 150) (I 151) 0 0 228)) (y := upd (upd (I 149) 10 s) 11 0) (b := b) (p := p) (t0 := t0) hQ (.int (nI r)) hp2 (fun y' z' hy => ?_) (by rw [upd_n _ _ (by omega), upd_e]) 239 0 (I 150) k c r _ _ (by omega) hM hE ⟨hr, t1, hs⟩ t2 hp (by omega) (by omega) rfl (fun _ _ => rfl) (upd_e _ _ _)
    refine h2' _ ⟨?_, fun q q1 q2 _ _ => ?_, fun q hq => ?_⟩
    · rw [uR_s, uR_s]
      have e1 := cpy_to (I 150) (I 151) 0
      have e2 := cpy_to (va_cpy (I 150) (I 151) 0 0 228) z' 0
      intro q hq
      rw [e2 q hq]
      simp only [Nat.zero_add]
      rw [e1 q hq]
      simp only [Nat.zero_add]
    · rw [uR_n _ _ (by omega), uR_s, hy q q2, upd_n _ _ q2, upd_n _ _ q1]
    · rw [uR_n _ _ (by omega), uR_n _ _ (by omega), uR_n _ _ (by omega)]
  · refine wk (fn3_ok l L) ok_147 20 (fun pc => false) ?_
    simp only [fn3, kk_147, Option.toList_some, Option.toList_none, ex, sym, popN, goC, callOK, swL, List.map_cons, List.map_nil, List.replicate_zero, List.replicate_succ, List.append_nil, List.nil_append, List.cons_append, List.getElem?_cons_zero, List.getElem?_cons_succ, List.set_cons_zero, List.set_cons_succ, List.length_cons, List.length_nil, List.head?_cons, Nat.reduceAdd, Nat.reduceLT, Nat.reduceLeDiff, Nat.reduceBEq, Nat.reduceEqDiff, Nat.succ_ne_zero, Nat.zero_lt_succ, Nat.le_refl, sc_rows, kc_lit, nc_lit, wlk_rows, uR_s, uR_uR, true_and, and_true, true_or, or_true, false_or, or_false, and_false, false_and, or_self, and_self, if_true, if_false, Bool.false_eq_true, Bool.or_false, Bool.or_true, Bool.false_or, Bool.true_or, not_true_eq_false, not_false_eq_true, forall_const, true_implies, false_implies, implies_true, reduceIte, reduceCtorEq, hQ.1, hkz, b2_f (fun q => g (ek.mp q)), fA_in, fA_size, fA_of, fA_lay, fA_tally, fA_waits, MOKh_eq, setZ_eq, ix_lit, in_lit, lt_lit, cl_lit, nz_lit, fn1, fn2, fA_stays, fA_tired, fA_begin, fA_fare, fA_place, fA_may]
    exact h1 g
set_option maxRecDepth 100000 in
theorem r_inLineIn (hQ : QM Q) (hM : MV (I 150) n k) (hL : Ln (I 150) n m) (p : Int32) (h1 : ftz (I 150) p n = none → P (some (.int (-1))) (SC L, I, Q)) (h2 : ∀ i, ftz (I 150) p n = some i → i < n → ∀ I', RQ I I' → P (some (.int (if I 150 (tp i 1) = 5 then -5 else LA i 1001 (I 150) 0))) (SC L, I', Q)) : Runs l 148 [.ref 149, .int p] (SC L, I, Q) P := by
  have hn := hL.2.1
  refine run0 (n := 2) mok_148 ⟨rfl, rfl⟩ rfl ?_
  refine wk (fn3_ok l L) ok_148 10 (fun pc => false) ?_
  simp only [fn3, kk_148, Option.toList_some, Option.toList_none, ex, sym, popN, goC, callOK, swL, List.map_cons, List.map_nil, List.replicate_zero, List.replicate_succ, List.append_nil, List.nil_append, List.cons_append, List.getElem?_cons_zero, List.getElem?_cons_succ, List.set_cons_zero, List.set_cons_succ, List.length_cons, List.length_nil, List.head?_cons, Nat.reduceAdd, Nat.reduceLT, Nat.reduceLeDiff, Nat.reduceBEq, Nat.reduceEqDiff, Nat.succ_ne_zero, Nat.zero_lt_succ, Nat.le_refl, sc_rows, kc_lit, nc_lit, wlk_rows, uR_s, uR_uR, true_and, and_true, true_or, or_true, false_or, or_false, and_false, false_and, or_self, and_self, if_true, if_false, Bool.false_eq_true, Bool.or_false, Bool.or_true, Bool.false_or, Bool.true_or, not_true_eq_false, not_false_eq_true, forall_const, true_implies, false_implies, implies_true, reduceIte, reduceCtorEq, fA_in, fA_size, fA_of, fA_lay, fA_tally, fA_waits, MOKh_eq, setZ_eq, ix_lit, in_lit, lt_lit, cl_lit, nz_lit, fn1, fn2, fA_stays, fA_tired, fA_begin, fA_fare, fA_place, fA_may]
  refine r_taxiWith hQ hL.1 hn p (fun i hi he => ?_) (fun hno => ?_)
  · have hf := ftz_u hL hi he
    have h2 := h2 i hf hi
    by_cases g : I 150 (tp i 1) = 5
    · rw [if_pos g] at h2
      refine wk (fn3_ok l L) ok_148 20 (fun pc => pc == 27) ?_
      simp only [fn3, kk_148, Option.toList_some, Option.toList_none, ex, sym, popN, goC, callOK, swL, List.map_cons, List.map_nil, List.replicate_zero, List.replicate_succ, List.append_nil, List.nil_append, List.cons_append, List.getElem?_cons_zero, List.getElem?_cons_succ, List.set_cons_zero, List.set_cons_succ, List.length_cons, List.length_nil, List.head?_cons, Nat.reduceAdd, Nat.reduceLT, Nat.reduceLeDiff, Nat.reduceBEq, Nat.reduceEqDiff, Nat.succ_ne_zero, Nat.zero_lt_succ, Nat.le_refl, sc_rows, kc_lit, nc_lit, wlk_rows, uR_s, uR_uR, true_and, and_true, true_or, or_true, false_or, or_false, and_false, false_and, or_self, and_self, if_true, if_false, Bool.false_eq_true, Bool.or_false, Bool.or_true, Bool.false_or, Bool.true_or, not_true_eq_false, not_false_eq_true, forall_const, true_implies, false_implies, implies_true, reduceIte, reduceCtorEq, hQ, hQ.1, n5F (show i < 2147483648 by omega), smI (show i < 2147483648 by omega), show i < 12 by omega, g, fA_in, fA_size, fA_of, fA_lay, fA_tally, fA_waits, MOKh_eq, setZ_eq, ix_lit, in_lit, lt_lit, cl_lit, nz_lit, fn1, fn2, fA_stays, fA_tired, fA_begin, fA_fare, fA_place, fA_may]
      exact h2 I (RQ.rf I)
    · rw [if_neg g] at h2
      generalize hV : LA i 1001 (I 150) 0 = V at h2
      refine wk (fn3_ok l L) ok_148 20 (fun pc => pc == 27) ?_
      simp only [fn3, kk_148, Option.toList_some, Option.toList_none, ex, sym, popN, goC, callOK, swL, List.map_cons, List.map_nil, List.replicate_zero, List.replicate_succ, List.append_nil, List.nil_append, List.cons_append, List.getElem?_cons_zero, List.getElem?_cons_succ, List.set_cons_zero, List.set_cons_succ, List.length_cons, List.length_nil, List.head?_cons, Nat.reduceAdd, Nat.reduceLT, Nat.reduceLeDiff, Nat.reduceBEq, Nat.reduceEqDiff, Nat.succ_ne_zero, Nat.zero_lt_succ, Nat.le_refl, sc_rows, kc_lit, nc_lit, wlk_rows, uR_s, uR_uR, true_and, and_true, true_or, or_true, false_or, or_false, and_false, false_and, or_self, and_self, if_true, if_false, Bool.false_eq_true, Bool.or_false, Bool.or_true, Bool.false_or, Bool.true_or, not_true_eq_false, not_false_eq_true, forall_const, true_implies, false_implies, implies_true, reduceIte, reduceCtorEq, hQ, hQ.1, n5F (show i < 2147483648 by omega), smI (show i < 2147483648 by omega), show i < 12 by omega, eq_false g, fA_in, fA_size, fA_of, fA_lay, fA_tally, fA_waits, MOKh_eq, setZ_eq, ix_lit, in_lit, lt_lit, cl_lit, nz_lit, fn1, fn2, fA_stays, fA_tired, fA_begin, fA_fare, fA_place, fA_may]
      refine wk (fn3_ok l L) ok_148 20 (fun pc => false) ?_
      simp only [fn3, kk_148, Option.toList_some, Option.toList_none, ex, sym, popN, goC, callOK, swL, List.map_cons, List.map_nil, List.replicate_zero, List.replicate_succ, List.append_nil, List.nil_append, List.cons_append, List.getElem?_cons_zero, List.getElem?_cons_succ, List.set_cons_zero, List.set_cons_succ, List.length_cons, List.length_nil, List.head?_cons, Nat.reduceAdd, Nat.reduceLT, Nat.reduceLeDiff, Nat.reduceBEq, Nat.reduceEqDiff, Nat.succ_ne_zero, Nat.zero_lt_succ, Nat.le_refl, sc_rows, kc_lit, nc_lit, wlk_rows, uR_s, uR_uR, true_and, and_true, true_or, or_true, false_or, or_false, and_false, false_and, or_self, and_self, if_true, if_false, Bool.false_eq_true, Bool.or_false, Bool.or_true, Bool.false_or, Bool.true_or, not_true_eq_false, not_false_eq_true, forall_const, true_implies, false_implies, implies_true, reduceIte, reduceCtorEq, hQ.1, hQ.2.1, fA_in, fA_size, fA_of, fA_lay, fA_tally, fA_waits, MOKh_eq, setZ_eq, ix_lit, in_lit, lt_lit, cl_lit, nz_lit, fn1, fn2, fA_stays, fA_tired, fA_begin, fA_fare, fA_place, fA_may]
      refine r_copyState (p := 150) (q := 151) (s := 0) (d := 0) ⟨rfl, by omega⟩ ⟨rfl, by omega⟩ (by omega) (by rw [(rq L).2.2.2.2.2.1]; omega) (by rw [(rq L).2.2.2.2.2.2.1]; omega) (by rw [(rq L).2.2.2.2.2.1]; omega) (by rw [(rq L).2.2.2.2.2.2.1]; omega) ?_
      refine wk (fn3_ok l L) ok_148 20 (fun pc => pc == 42) ?_
      simp only [fn3, kk_148, Option.toList_some, Option.toList_none, ex, sym, popN, goC, callOK, swL, List.map_cons, List.map_nil, List.replicate_zero, List.replicate_succ, List.append_nil, List.nil_append, List.cons_append, List.getElem?_cons_zero, List.getElem?_cons_succ, List.set_cons_zero, List.set_cons_succ, List.length_cons, List.length_nil, List.head?_cons, Nat.reduceAdd, Nat.reduceLT, Nat.reduceLeDiff, Nat.reduceBEq, Nat.reduceEqDiff, Nat.succ_ne_zero, Nat.zero_lt_succ, Nat.le_refl, sc_rows, kc_lit, nc_lit, wlk_rows, uR_s, uR_uR, true_and, and_true, true_or, or_true, false_or, or_false, and_false, false_and, or_self, and_self, if_true, if_false, Bool.false_eq_true, Bool.or_false, Bool.or_true, Bool.false_or, Bool.true_or, not_true_eq_false, not_false_eq_true, forall_const, true_implies, false_implies, implies_true, reduceIte, reduceCtorEq, fA_in, fA_size, fA_of, fA_lay, fA_tally, fA_waits, MOKh_eq, setZ_eq, ix_lit, in_lit, lt_lit, cl_lit, nz_lit, fn1, fn2, fA_stays, fA_tired, fA_begin, fA_fare, fA_place, fA_may]
      have shape : uR I 151 (va_cpy (I 150) (I 151) 0 0 228) = uR (uR (uR I 151 (va_cpy (I 150) (I 151) 0 0 228)) 149 (I 149)) 150 (I 150) := by
        funext q
        by_cases e : q = 150
        · subst e; rw [uR_s, uR_n _ _ (by omega)]
        · rw [uR_n _ _ e]
          by_cases e2 : q = 149
          · subst e2; rw [uR_s, uR_n _ _ (by omega)]
          · rw [uR_n _ _ e2]
      rw [shape]
      have fin : ∀ y' z' N, N ≤ 1001 → (∀ q, q ≠ 11 → y' q = I 149 q) → V = (if N = 1001 then -5 else nI N) → Sy l 148 (156, 3525) 68 [some (.ref 149), some (.int p), some (.int (nI i)), some (.int (nI N))] [] (SC L, uR (uR (uR I 151 (va_cpy (I 150) (I 151) 0 0 228)) 149 y') 150 z', Q) P := by
        intro y' z' N hN hy hR
        have u1 : ∀ (f : Nat → Nat → Int32) (g : Nat → Int32), uR f 150 g 151 = f 151 := fun f g => uR_n _ _ (by omega)
        have u2 : ∀ (f : Nat → Nat → Int32) (g : Nat → Int32), uR f 149 g 151 = f 151 := fun f g => uR_n _ _ (by omega)
        refine wk (fn3_ok l L) ok_148 20 (fun pc => false) ?_
        simp only [fn3, kk_148, Option.toList_some, Option.toList_none, ex, sym, popN, goC, callOK, swL, List.map_cons, List.map_nil, List.replicate_zero, List.replicate_succ, List.append_nil, List.nil_append, List.cons_append, List.getElem?_cons_zero, List.getElem?_cons_succ, List.set_cons_zero, List.set_cons_succ, List.length_cons, List.length_nil, List.head?_cons, Nat.reduceAdd, Nat.reduceLT, Nat.reduceLeDiff, Nat.reduceBEq, Nat.reduceEqDiff, Nat.succ_ne_zero, Nat.zero_lt_succ, Nat.le_refl, sc_rows, kc_lit, nc_lit, wlk_rows, uR_s, uR_uR, true_and, and_true, true_or, or_true, false_or, or_false, and_false, false_and, or_self, and_self, if_true, if_false, Bool.false_eq_true, Bool.or_false, Bool.or_true, Bool.false_or, Bool.true_or, not_true_eq_false, not_false_eq_true, forall_const, true_implies, false_implies, implies_true, reduceIte, reduceCtorEq, hQ.1, hQ.2.1, fA_in, fA_size, fA_of, fA_lay, fA_tally, fA_waits, MOKh_eq, setZ_eq, ix_lit, in_lit, lt_lit, cl_lit, nz_lit, fn1, fn2, fA_stays, fA_tired, fA_begin, fA_fare, fA_place, fA_may]
        refine r_copyState (p := 151) (q := 150) (s := 0) (d := 0) ⟨rfl, by omega⟩ ⟨rfl, by omega⟩ (by omega) (by rw [(rq L).2.2.2.2.2.2.1]; omega) (by rw [(rq L).2.2.2.2.2.1]; omega) (by rw [(rq L).2.2.2.2.2.2.1]; omega) (by rw [(rq L).2.2.2.2.2.1]; omega) ?_
        rw [u1, u2, uR_s, uR_s, uR_uR]
        have h2' := h2 (uR (uR (uR I 151 (va_cpy (I 150) (I 151) 0 0 228)) 149 y') 150 (va_cpy (va_cpy (I 150) (I 151) 0 0 228) z' 0 0 228)) ⟨by
          rw [uR_s]
          have e1 := cpy_to (I 150) (I 151) 0
          have e2 := cpy_to (va_cpy (I 150) (I 151) 0 0 228) z' 0
          intro q hq
          rw [e2 q hq]
          simp only [Nat.zero_add]
          rw [e1 q hq]
          simp only [Nat.zero_add], fun q q1 q2 _ _ => by rw [uR_n _ _ (by omega), uR_s, hy q q2], fun q hq => by rw [uR_n _ _ (by omega), uR_n _ _ (by omega), uR_n _ _ (by omega)]⟩
        rw [hR] at h2'
        by_cases e : N = 1001
        · subst e
          rw [if_pos rfl] at h2'
          refine wk (fn3_ok l L) ok_148 20 (fun pc => false) ?_
          simp only [fn3, kk_148, Option.toList_some, Option.toList_none, ex, sym, popN, goC, callOK, swL, List.map_cons, List.map_nil, List.replicate_zero, List.replicate_succ, List.append_nil, List.nil_append, List.cons_append, List.getElem?_cons_zero, List.getElem?_cons_succ, List.set_cons_zero, List.set_cons_succ, List.length_cons, List.length_nil, List.head?_cons, Nat.reduceAdd, Nat.reduceLT, Nat.reduceLeDiff, Nat.reduceBEq, Nat.reduceEqDiff, Nat.succ_ne_zero, Nat.zero_lt_succ, Nat.le_refl, sc_rows, kc_lit, nc_lit, wlk_rows, uR_s, uR_uR, true_and, and_true, true_or, or_true, false_or, or_false, and_false, false_and, or_self, and_self, if_true, if_false, Bool.false_eq_true, Bool.or_false, Bool.or_true, Bool.false_or, Bool.true_or, not_true_eq_false, not_false_eq_true, forall_const, true_implies, false_implies, implies_true, reduceIte, reduceCtorEq, show (nI 1001 ≤ (1000 : Int32)) = False by decide, fA_in, fA_size, fA_of, fA_lay, fA_tally, fA_waits, MOKh_eq, setZ_eq, ix_lit, in_lit, lt_lit, cl_lit, nz_lit, fn1, fn2, fA_stays, fA_tired, fA_begin, fA_fare, fA_place, fA_may]
          exact h2'
        · rw [if_neg e] at h2'
          have l1 : (nI N ≤ (1000 : Int32)) = True := by rw [show (1000 : Int32) = nI 1000 from rfl]; exact leT (by omega) (by omega)
          refine wk (fn3_ok l L) ok_148 20 (fun pc => false) ?_
          simp only [fn3, kk_148, Option.toList_some, Option.toList_none, ex, sym, popN, goC, callOK, swL, List.map_cons, List.map_nil, List.replicate_zero, List.replicate_succ, List.append_nil, List.nil_append, List.cons_append, List.getElem?_cons_zero, List.getElem?_cons_succ, List.set_cons_zero, List.set_cons_succ, List.length_cons, List.length_nil, List.head?_cons, Nat.reduceAdd, Nat.reduceLT, Nat.reduceLeDiff, Nat.reduceBEq, Nat.reduceEqDiff, Nat.succ_ne_zero, Nat.zero_lt_succ, Nat.le_refl, sc_rows, kc_lit, nc_lit, wlk_rows, uR_s, uR_uR, true_and, and_true, true_or, or_true, false_or, or_false, and_false, false_and, or_self, and_self, if_true, if_false, Bool.false_eq_true, Bool.or_false, Bool.or_true, Bool.false_or, Bool.true_or, not_true_eq_false, not_false_eq_true, forall_const, true_implies, false_implies, implies_true, reduceIte, reduceCtorEq, l1, fA_in, fA_size, fA_of, fA_lay, fA_tally, fA_waits, MOKh_eq, setZ_eq, ix_lit, in_lit, lt_lit, cl_lit, nz_lit, fn1, fn2, fA_stays, fA_tired, fA_begin, fA_fare, fA_place, fA_may]
          exact h2'
      have loop : ∀ d j (z0 : Nat → Int32) k0 y', j + d = 1001 → MV z0 n k0 → (∀ q, q ≠ 11 → y' q = I 149 q) → LA i d z0 j = V → Sy l 148 (156, 3525) 42 [some (.ref 149), some (.int p), some (.int (nI i)), some (.int (nI j))] [] (SC L, uR (uR (uR I 151 (va_cpy (I 150) (I 151) 0 0 228)) 149 y') 150 z0, Q) P := by
        intro d
        induction d with
        | zero =>
          intro j z0 k0 y' hj hM0 hy hR
          have : j = 1001 := by omega
          subst this
          simp only [LA] at hR
          refine wk (fn3_ok l L) ok_148 20 (fun pc => pc == 68 || pc == 49) ?_
          simp only [fn3, kk_148, Option.toList_some, Option.toList_none, ex, sym, popN, goC, callOK, swL, List.map_cons, List.map_nil, List.replicate_zero, List.replicate_succ, List.append_nil, List.nil_append, List.cons_append, List.getElem?_cons_zero, List.getElem?_cons_succ, List.set_cons_zero, List.set_cons_succ, List.length_cons, List.length_nil, List.head?_cons, Nat.reduceAdd, Nat.reduceLT, Nat.reduceLeDiff, Nat.reduceBEq, Nat.reduceEqDiff, Nat.succ_ne_zero, Nat.zero_lt_succ, Nat.le_refl, sc_rows, kc_lit, nc_lit, wlk_rows, uR_s, uR_uR, true_and, and_true, true_or, or_true, false_or, or_false, and_false, false_and, or_self, and_self, if_true, if_false, Bool.false_eq_true, Bool.or_false, Bool.or_true, Bool.false_or, Bool.true_or, not_true_eq_false, not_false_eq_true, forall_const, true_implies, false_implies, implies_true, reduceIte, reduceCtorEq, show ((1000 : Int32) < nI 1001) = True by decide, fA_in, fA_size, fA_of, fA_lay, fA_tally, fA_waits, MOKh_eq, setZ_eq, ix_lit, in_lit, lt_lit, cl_lit, nz_lit, fn1, fn2, fA_stays, fA_tired, fA_begin, fA_fare, fA_place, fA_may]
          exact fin y' z0 1001 (by omega) hy (by rw [← hR, if_pos rfl])
        | succ d ih =>
          intro j z0 k0 y' hj hM0 hy hR
          have l2 : ((1000 : Int32) < nI j) = False := by rw [show (1000 : Int32) = nI 1000 from rfl]; exact ltF (by omega) (by omega)
          simp only [LA] at hR
          by_cases g0 : z0 (tp i 1) = 0
          · rw [if_pos g0] at hR
            refine wk (fn3_ok l L) ok_148 20 (fun pc => pc == 68 || pc == 58) ?_
            simp only [fn3, kk_148, Option.toList_some, Option.toList_none, ex, sym, popN, goC, callOK, swL, List.map_cons, List.map_nil, List.replicate_zero, List.replicate_succ, List.append_nil, List.nil_append, List.cons_append, List.getElem?_cons_zero, List.getElem?_cons_succ, List.set_cons_zero, List.set_cons_succ, List.length_cons, List.length_nil, List.head?_cons, Nat.reduceAdd, Nat.reduceLT, Nat.reduceLeDiff, Nat.reduceBEq, Nat.reduceEqDiff, Nat.succ_ne_zero, Nat.zero_lt_succ, Nat.le_refl, sc_rows, kc_lit, nc_lit, wlk_rows, uR_s, uR_uR, true_and, and_true, true_or, or_true, false_or, or_false, and_false, false_and, or_self, and_self, if_true, if_false, Bool.false_eq_true, Bool.or_false, Bool.or_true, Bool.false_or, Bool.true_or, not_true_eq_false, not_false_eq_true, forall_const, true_implies, false_implies, implies_true, reduceIte, reduceCtorEq, hQ, hQ.1, l2, smI (show i < 2147483648 by omega), show i < 12 by omega, g0, fA_in, fA_size, fA_of, fA_lay, fA_tally, fA_waits, MOKh_eq, setZ_eq, ix_lit, in_lit, lt_lit, cl_lit, nz_lit, fn1, fn2, fA_stays, fA_tired, fA_begin, fA_fare, fA_place, fA_may]
            exact fin y' z0 j (by omega) hy (by rw [← hR, if_neg (by omega)])
          · rw [if_neg g0] at hR
            refine wk (fn3_ok l L) ok_148 20 (fun pc => pc == 68 || pc == 58) ?_
            simp only [fn3, kk_148, Option.toList_some, Option.toList_none, ex, sym, popN, goC, callOK, swL, List.map_cons, List.map_nil, List.replicate_zero, List.replicate_succ, List.append_nil, List.nil_append, List.cons_append, List.getElem?_cons_zero, List.getElem?_cons_succ, List.set_cons_zero, List.set_cons_succ, List.length_cons, List.length_nil, List.head?_cons, Nat.reduceAdd, Nat.reduceLT, Nat.reduceLeDiff, Nat.reduceBEq, Nat.reduceEqDiff, Nat.succ_ne_zero, Nat.zero_lt_succ, Nat.le_refl, sc_rows, kc_lit, nc_lit, wlk_rows, uR_s, uR_uR, true_and, and_true, true_or, or_true, false_or, or_false, and_false, false_and, or_self, and_self, if_true, if_false, Bool.false_eq_true, Bool.or_false, Bool.or_true, Bool.false_or, Bool.true_or, not_true_eq_false, not_false_eq_true, forall_const, true_implies, false_implies, implies_true, reduceIte, reduceCtorEq, hQ, hQ.1, l2, smI (show i < 2147483648 by omega), show i < 12 by omega, eq_false g0, fA_in, fA_size, fA_of, fA_lay, fA_tally, fA_waits, MOKh_eq, setZ_eq, ix_lit, in_lit, lt_lit, cl_lit, nz_lit, fn1, fn2, fA_stays, fA_tired, fA_begin, fA_fare, fA_place, fA_may]
            obtain ⟨k1, hM1⟩ := hM0.mn0
            refine wk (fn3_ok l L) ok_148 20 (fun pc => pc == 42) ?_
            simp only [fn3, kk_148, Option.toList_some, Option.toList_none, ex, sym, popN, goC, callOK, swL, List.map_cons, List.map_nil, List.replicate_zero, List.replicate_succ, List.append_nil, List.nil_append, List.cons_append, List.getElem?_cons_zero, List.getElem?_cons_succ, List.set_cons_zero, List.set_cons_succ, List.length_cons, List.length_nil, List.head?_cons, Nat.reduceAdd, Nat.reduceLT, Nat.reduceLeDiff, Nat.reduceBEq, Nat.reduceEqDiff, Nat.succ_ne_zero, Nat.zero_lt_succ, Nat.le_refl, sc_rows, kc_lit, nc_lit, wlk_rows, uR_s, uR_uR, true_and, and_true, true_or, or_true, false_or, or_false, and_false, false_and, or_self, and_self, if_true, if_false, Bool.false_eq_true, Bool.or_false, Bool.or_true, Bool.false_or, Bool.true_or, not_true_eq_false, not_false_eq_true, forall_const, true_implies, false_implies, implies_true, reduceIte, reduceCtorEq, fA_in, fA_size, fA_of, fA_lay, fA_tally, fA_waits, MOKh_eq, setZ_eq, ix_lit, in_lit, lt_lit, cl_lit, nz_lit, fn1, fn2, fA_stays, fA_tired, fA_begin, fA_fare, fA_place, fA_may]
            refine rz_mn hQ hM0 ?_
            refine wk (fn3_ok l L) ok_148 20 (fun pc => pc == 42) ?_
            simp only [fn3, kk_148, Option.toList_some, Option.toList_none, ex, sym, popN, goC, callOK, swL, List.map_cons, List.map_nil, List.replicate_zero, List.replicate_succ, List.append_nil, List.nil_append, List.cons_append, List.getElem?_cons_zero, List.getElem?_cons_succ, List.set_cons_zero, List.set_cons_succ, List.length_cons, List.length_nil, List.head?_cons, Nat.reduceAdd, Nat.reduceLT, Nat.reduceLeDiff, Nat.reduceBEq, Nat.reduceEqDiff, Nat.succ_ne_zero, Nat.zero_lt_succ, Nat.le_refl, sc_rows, kc_lit, nc_lit, wlk_rows, uR_s, uR_uR, true_and, and_true, true_or, or_true, false_or, or_false, and_false, false_and, or_self, and_self, if_true, if_false, Bool.false_eq_true, Bool.or_false, Bool.or_true, Bool.false_or, Bool.true_or, not_true_eq_false, not_false_eq_true, forall_const, true_implies, false_implies, implies_true, reduceIte, reduceCtorEq, nI_up, fA_in, fA_size, fA_of, fA_lay, fA_tally, fA_waits, MOKh_eq, setZ_eq, ix_lit, in_lit, lt_lit, cl_lit, nz_lit, fn1, fn2, fA_stays, fA_tired, fA_begin, fA_fare, fA_place, fA_may]
            exact ih (j + 1) _ k1 _ (by omega) hM1 (fun q hq => by rw [upd_n _ _ hq]; exact hy q hq) hR
      exact loop 1001 0 (I 150) k (I 149) (by omega) hM (fun _ _ => rfl) hV
  · have hf : ftz (I 150) p n = none := by
      cases h : ftz (I 150) p n with
      | none => rfl
      | some j => exact absurd (ftz_s h).2 (hno j (ftz_s h).1)
    refine wk (fn3_ok l L) ok_148 20 (fun pc => false) ?_
    simp only [fn3, kk_148, Option.toList_some, Option.toList_none, ex, sym, popN, goC, callOK, swL, List.map_cons, List.map_nil, List.replicate_zero, List.replicate_succ, List.append_nil, List.nil_append, List.cons_append, List.getElem?_cons_zero, List.getElem?_cons_succ, List.set_cons_zero, List.set_cons_succ, List.length_cons, List.length_nil, List.head?_cons, Nat.reduceAdd, Nat.reduceLT, Nat.reduceLeDiff, Nat.reduceBEq, Nat.reduceEqDiff, Nat.succ_ne_zero, Nat.zero_lt_succ, Nat.le_refl, sc_rows, kc_lit, nc_lit, wlk_rows, uR_s, uR_uR, true_and, and_true, true_or, or_true, false_or, or_false, and_false, false_and, or_self, and_self, if_true, if_false, Bool.false_eq_true, Bool.or_false, Bool.or_true, Bool.false_or, Bool.true_or, not_true_eq_false, not_false_eq_true, forall_const, true_implies, false_implies, implies_true, reduceIte, reduceCtorEq, fA_in, fA_size, fA_of, fA_lay, fA_tally, fA_waits, MOKh_eq, setZ_eq, ix_lit, in_lit, lt_lit, cl_lit, nz_lit, fn1, fn2, fA_stays, fA_tired, fA_begin, fA_fare, fA_place, fA_may]
    exact h1 hf
end F4
