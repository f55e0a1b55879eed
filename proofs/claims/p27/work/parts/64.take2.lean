/-! a call is taken, on -/
section E8
variable {l : Launch} {L : Nat} {I : Nat → Nat → Int32} {Q : Nat → Nat → Option Nat} {P : Option Value → PH → Prop} {B : Nat} {σ : Nat → Nat} {z : Nat → Int32} {n m k : Nat}
set_option maxRecDepth 100000 in
theorem c_acc (hB : TB B) (hQ : QT0 Q B) (hS : QS Q B σ) (hM : MV z n k) (hL : Ln z n m) (hC : CA I B σ z n m k) {i : Nat} (hi : i < n) (a b : Int32) (h1 : ∀ I', CA I' B σ (zFare (zLv z i m) i a b 0) n (mLv z i m) k → Fr I I' B → P none (SC L, I', Q)) : Runs l 47 [.ref B, .ref (B + 2 + σ i), .int a, .int b] (SC L, I, Q) P := by
  refine run0 (n := 0) mok_47 ⟨rfl, rfl⟩ rfl ?_
  refine wk (gn1_ok l L) ok_47 3 (fun pc => false) ?_
  simp only [gn1, kk_47, Option.toList_some, Option.toList_none, ex, catS, vC, isMk, sym, popN, goC, callOK, swL, List.map_cons, List.map_nil, List.replicate_zero, List.replicate_succ, List.append_nil, List.nil_append, List.cons_append, List.getElem?_cons_zero, List.getElem?_cons_succ, List.set_cons_zero, List.set_cons_succ, List.length_cons, List.length_nil, List.head?_cons, Nat.reduceAdd, Nat.reduceLT, Nat.reduceLeDiff, Nat.reduceBEq, Nat.reduceEqDiff, Nat.succ_ne_zero, Nat.zero_lt_succ, Nat.le_refl, sc_rows, kc_lit, nc_lit, wlk_rows, uR_s, uR_uR, true_and, and_true, true_or, or_true, false_or, or_false, and_false, false_and, or_self, and_self, if_true, if_false, Bool.false_eq_true, Bool.or_false, Bool.or_true, Bool.false_or, Bool.true_or, not_true_eq_false, not_false_eq_true, forall_const, true_implies, false_implies, implies_true, reduceIte, reduceCtorEq, tbk hB, tbx hB, fC_at, fC_begin, fC_place, fC_setg, fC_fare, fC_stays, fC_tired, fC_long, fC_min, CTh_eq, CXh_eq, ix_lit, lt_lit, cl_lit, nz_lit, in5, in12, abs_sz]
  refine c_lv hB hQ hS hM hL hC hi (fun I1 hI1 hF1 => ?_)
  have hml : mLv z i m ≤ 12 := by have := hL.2.2.2.2.2.2.2; unfold mLv; split <;> omega
  exact c_accept2 hB hQ hS hI1 hL.2.1 hml hM.2.2.2.2.1 hi a b (fun I' hI' hF => h1 I' hI' (hF1.tr hF))
set_option maxRecDepth 100000 in
theorem c_takeCall (hB : TB B) (hQ : QT0 Q B) (hS : QS Q B σ) (hM : MV z n k) (hL : Ln z n m) (hC : CA I B σ z n m k) (f to : Int32) (h1 : whyC z n m f to < 0 → P (some (.int (whyC z n m f to))) (SC L, I, Q)) (h2 : whyC z n m f to = 0 → ∀ t, calZ z n m f = some t → t < n → cnd z t → ∀ I', CA I' B σ (zCl z t f to m) n (mLv z t m) k → Fr I I' B → P (some (.int (z (tp t 0)))) (SC L, I', Q)) : Runs l 29 [.ref B, .int f, .int to] (SC L, I, Q) P := by
  have hk := hM.2.2.2.2.1
  have hn := hM.n.2
  have hm := hL.2.2.2.2.2.2.2
  refine run0 (n := 2) mok_29 ⟨rfl, rfl⟩ rfl ?_
  unfold whyC at h1 h2
  by_cases g : (0 ≤ f ∧ f ≤ 20) ∧ 0 ≤ to ∧ to ≤ 20
  · rw [if_neg (fun q => q g)] at h1 h2
    obtain ⟨gf, gt⟩ := g
    by_cases g2 : f = to
    · rw [if_pos g2] at h1
      subst g2
      refine wk (gn1_ok l L) ok_29 40 (fun pc => false) ?_
      simp only [gn1, kk_29, Option.toList_some, Option.toList_none, ex, catS, vC, isMk, sym, popN, goC, callOK, swL, List.map_cons, List.map_nil, List.replicate_zero, List.replicate_succ, List.append_nil, List.nil_append, List.cons_append, List.getElem?_cons_zero, List.getElem?_cons_succ, List.set_cons_zero, List.set_cons_succ, List.length_cons, List.length_nil, List.head?_cons, Nat.reduceAdd, Nat.reduceLT, Nat.reduceLeDiff, Nat.reduceBEq, Nat.reduceEqDiff, Nat.succ_ne_zero, Nat.zero_lt_succ, Nat.le_refl, sc_rows, kc_lit, nc_lit, wlk_rows, uR_s, uR_uR, true_and, and_true, true_or, or_true, false_or, or_false, and_false, false_and, or_self, and_self, if_true, if_false, Bool.false_eq_true, Bool.or_false, Bool.or_true, Bool.false_or, Bool.true_or, not_true_eq_false, not_false_eq_true, forall_const, true_implies, false_implies, implies_true, reduceIte, reduceCtorEq, b2_t gf, nz_lit, fC_at, fC_begin, fC_place, fC_setg, fC_fare, fC_stays, fC_tired, fC_long, fC_min, CTh_eq, CXh_eq, ix_lit, lt_lit, cl_lit, nz_lit, in5, in12, abs_sz]
      exact h1 (by decide)
    · rw [if_neg g2] at h1 h2
      refine wk (gn1_ok l L) ok_29 40 (fun pc => false) ?_
      simp only [gn1, kk_29, Option.toList_some, Option.toList_none, ex, catS, vC, isMk, sym, popN, goC, callOK, swL, List.map_cons, List.map_nil, List.replicate_zero, List.replicate_succ, List.append_nil, List.nil_append, List.cons_append, List.getElem?_cons_zero, List.getElem?_cons_succ, List.set_cons_zero, List.set_cons_succ, List.length_cons, List.length_nil, List.head?_cons, Nat.reduceAdd, Nat.reduceLT, Nat.reduceLeDiff, Nat.reduceBEq, Nat.reduceEqDiff, Nat.succ_ne_zero, Nat.zero_lt_succ, Nat.le_refl, sc_rows, kc_lit, nc_lit, wlk_rows, uR_s, uR_uR, true_and, and_true, true_or, or_true, false_or, or_false, and_false, false_and, or_self, and_self, if_true, if_false, Bool.false_eq_true, Bool.or_false, Bool.or_true, Bool.false_or, Bool.true_or, not_true_eq_false, not_false_eq_true, forall_const, true_implies, false_implies, implies_true, reduceIte, reduceCtorEq, b2_t gf, b2_t gt, nz_lit, eq_false g2, tbk hB, tbx hB, fC_at, fC_begin, fC_place, fC_setg, fC_fare, fC_stays, fC_tired, fC_long, fC_min, CTh_eq, CXh_eq, ix_lit, lt_lit, cl_lit, nz_lit, in5, in12, abs_sz]
      refine c_callee hB hQ hS hM hL hC f ?_
      cases hc : calZ z n m f with
      | none =>
        rw [hc] at h1
        simp only at h1
        refine wk (gn1_ok l L) ok_29 40 (fun pc => false) ?_
        simp only [gn1, kk_29, Option.toList_some, Option.toList_none, ex, catS, vC, isMk, sym, popN, goC, callOK, swL, List.map_cons, List.map_nil, List.replicate_zero, List.replicate_succ, List.append_nil, List.nil_append, List.cons_append, List.getElem?_cons_zero, List.getElem?_cons_succ, List.set_cons_zero, List.set_cons_succ, List.length_cons, List.length_nil, List.head?_cons, Nat.reduceAdd, Nat.reduceLT, Nat.reduceLeDiff, Nat.reduceBEq, Nat.reduceEqDiff, Nat.succ_ne_zero, Nat.zero_lt_succ, Nat.le_refl, sc_rows, kc_lit, nc_lit, wlk_rows, uR_s, uR_uR, true_and, and_true, true_or, or_true, false_or, or_false, and_false, false_and, or_self, and_self, if_true, if_false, Bool.false_eq_true, Bool.or_false, Bool.or_true, Bool.false_or, Bool.true_or, not_true_eq_false, not_false_eq_true, forall_const, true_implies, false_implies, implies_true, reduceIte, reduceCtorEq, rvo, fC_at, fC_begin, fC_place, fC_setg, fC_fare, fC_stays, fC_tired, fC_long, fC_min, CTh_eq, CXh_eq, ix_lit, lt_lit, cl_lit, nz_lit, in5, in12, abs_sz]
        exact h1 (by decide)
      | some t =>
        rw [hc] at h2
        simp only at h2
        obtain ⟨ht, hcn⟩ := calZ_in hL hc
        have hs := hS.2.1 t (by omega)
        have e4 : minR I B (B + 2 + σ t) f = nd z t f := min_eq hC ht hcn (hM.2.1 t ht).1 f
        refine wk (gn1_ok l L) ok_29 40 (fun pc => false) ?_
        simp only [gn1, kk_29, Option.toList_some, Option.toList_none, ex, catS, vC, isMk, sym, popN, goC, callOK, swL, List.map_cons, List.map_nil, List.replicate_zero, List.replicate_succ, List.append_nil, List.nil_append, List.cons_append, List.getElem?_cons_zero, List.getElem?_cons_succ, List.set_cons_zero, List.set_cons_succ, List.length_cons, List.length_nil, List.head?_cons, Nat.reduceAdd, Nat.reduceLT, Nat.reduceLeDiff, Nat.reduceBEq, Nat.reduceEqDiff, Nat.succ_ne_zero, Nat.zero_lt_succ, Nat.le_refl, sc_rows, kc_lit, nc_lit, wlk_rows, uR_s, uR_uR, true_and, and_true, true_or, or_true, false_or, or_false, and_false, false_and, or_self, and_self, if_true, if_false, Bool.false_eq_true, Bool.or_false, Bool.or_true, Bool.false_or, Bool.true_or, not_true_eq_false, not_false_eq_true, forall_const, true_implies, false_implies, implies_true, reduceIte, reduceCtorEq, rvo, hB, hQ, tbk hB, tbx hB, tbt hB hs, e4, fC_at, fC_begin, fC_place, fC_setg, fC_fare, fC_stays, fC_tired, fC_long, fC_min, CTh_eq, CXh_eq, ix_lit, lt_lit, cl_lit, nz_lit, in5, in12, abs_sz]
        refine c_acc hB hQ hS hM hL hC ht f to (fun I1 hI1 hF1 => ?_)
        have hml : mLv z t m ≤ 12 := by unfold mLv; split <;> omega
        have w8 : zFare (zLv z t m) t f to 0 8 = z 8 := by rw [zFare_o _ _ _ _ (by omega), zLv_o hL ht (by omega)]
        have e9 : I1 B 9 = z 8 := by rw [hI1.tw.2.2.2.2.2.1, w8]
        have c1 := hI1.cnt hml hk hS.2.1 hn 9 (by omega) (z 8 + 1)
        have c1' : CA (uR I1 B (upd (I1 B) 9 (z 8 + 1))) B σ (wCl z t f to m) n (mLv z t m) k := c1
        have wp : wCl z t f to m (tp t 0) = z (tp t 0) := wCl_t hL ht f to t 0 (by omega) (by omega)
        by_cases g0 : nd z t f = 0
        · have ez : zCl z t f to m = zRide (wCl z t f to m) t := by unfold zCl; rw [if_pos g0]
          have h3 := h2 trivial t rfl ht hcn
          rw [ez] at h3
          refine wk (gn1_ok l L) ok_29 40 (fun pc => false) ?_
          simp only [gn1, kk_29, Option.toList_some, Option.toList_none, ex, catS, vC, isMk, sym, popN, goC, callOK, swL, List.map_cons, List.map_nil, List.replicate_zero, List.replicate_succ, List.append_nil, List.nil_append, List.cons_append, List.getElem?_cons_zero, List.getElem?_cons_succ, List.set_cons_zero, List.set_cons_succ, List.length_cons, List.length_nil, List.head?_cons, Nat.reduceAdd, Nat.reduceLT, Nat.reduceLeDiff, Nat.reduceBEq, Nat.reduceEqDiff, Nat.succ_ne_zero, Nat.zero_lt_succ, Nat.le_refl, sc_rows, kc_lit, nc_lit, wlk_rows, uR_s, uR_uR, true_and, and_true, true_or, or_true, false_or, or_false, and_false, false_and, or_self, and_self, if_true, if_false, Bool.false_eq_true, Bool.or_false, Bool.or_true, Bool.false_or, Bool.true_or, not_true_eq_false, not_false_eq_true, forall_const, true_implies, false_implies, implies_true, reduceIte, reduceCtorEq, tbk hB, tbx hB, e9, g0, fC_at, fC_begin, fC_place, fC_setg, fC_fare, fC_stays, fC_tired, fC_long, fC_min, CTh_eq, CXh_eq, ix_lit, lt_lit, cl_lit, nz_lit, in5, in12, abs_sz]
          refine c_startRide hB hQ hS c1' hn hml hk ht (fun I2 hI2 hF2 => ?_)
          have e0 : I2 (B + 2 + σ t) 0 = z (tp t 0) := by rw [(hI2.tx ht).1, zRide_t _ t 0 (by omega)]; simp; exact wp
          refine wk (gn1_ok l L) ok_29 40 (fun pc => false) ?_
          simp only [gn1, kk_29, Option.toList_some, Option.toList_none, ex, catS, vC, isMk, sym, popN, goC, callOK, swL, List.map_cons, List.map_nil, List.replicate_zero, List.replicate_succ, List.append_nil, List.nil_append, List.cons_append, List.getElem?_cons_zero, List.getElem?_cons_succ, List.set_cons_zero, List.set_cons_succ, List.length_cons, List.length_nil, List.head?_cons, Nat.reduceAdd, Nat.reduceLT, Nat.reduceLeDiff, Nat.reduceBEq, Nat.reduceEqDiff, Nat.succ_ne_zero, Nat.zero_lt_succ, Nat.le_refl, sc_rows, kc_lit, nc_lit, wlk_rows, uR_s, uR_uR, true_and, and_true, true_or, or_true, false_or, or_false, and_false, false_and, or_self, and_self, if_true, if_false, Bool.false_eq_true, Bool.or_false, Bool.or_true, Bool.false_or, Bool.true_or, not_true_eq_false, not_false_eq_true, forall_const, true_implies, false_implies, implies_true, reduceIte, reduceCtorEq, tbt hB hs, e0, fC_at, fC_begin, fC_place, fC_setg, fC_fare, fC_stays, fC_tired, fC_long, fC_min, CTh_eq, CXh_eq, ix_lit, lt_lit, cl_lit, nz_lit, in5, in12, abs_sz]
          exact h3 I2 hI2 ((hF1.tr (Fr.up _ _ (by omega))).tr hF2)
        · have ez : zCl z t f to m = upd (upd (wCl z t f to m) (tp t 1) 1) (tp t 2) (nd z t f) := by unfold zCl; rw [if_neg g0]
          have h3 := h2 trivial t rfl ht hcn
          rw [ez] at h3
          have c2 := c1'.fld hS hn hml hk ht 1 (by omega) 1
          have c3 := c2.fld hS hn hml hk ht 2 (by omega) (nd z t f)
          simp only [uR_s, uR_uR, rws B hs, cm_lit] at c3
          have e0 : upd (upd (I1 (B + 2 + σ t)) 1 1) 2 (nd z t f) 0 = z (tp t 0) := by
            rw [upd_n _ _ (by omega), upd_n _ _ (by omega), (hI1.tx ht).1, zFare_t _ _ _ _ t 0 (by omega), if_pos rfl, if_neg (by omega), if_neg (by omega), if_neg (by omega), if_neg (by omega), if_neg (by omega), zLv_t hL ht t 0 (by omega), if_neg (by omega)]
          refine wk (gn1_ok l L) ok_29 40 (fun pc => false) ?_
          simp only [gn1, kk_29, Option.toList_some, Option.toList_none, ex, catS, vC, isMk, sym, popN, goC, callOK, swL, List.map_cons, List.map_nil, List.replicate_zero, List.replicate_succ, List.append_nil, List.nil_append, List.cons_append, List.getElem?_cons_zero, List.getElem?_cons_succ, List.set_cons_zero, List.set_cons_succ, List.length_cons, List.length_nil, List.head?_cons, Nat.reduceAdd, Nat.reduceLT, Nat.reduceLeDiff, Nat.reduceBEq, Nat.reduceEqDiff, Nat.succ_ne_zero, Nat.zero_lt_succ, Nat.le_refl, sc_rows, kc_lit, nc_lit, wlk_rows, uR_s, uR_uR, true_and, and_true, true_or, or_true, false_or, or_false, and_false, false_and, or_self, and_self, if_true, if_false, Bool.false_eq_true, Bool.or_false, Bool.or_true, Bool.false_or, Bool.true_or, not_true_eq_false, not_false_eq_true, forall_const, true_implies, false_implies, implies_true, reduceIte, reduceCtorEq, tbk hB, tbx hB, tbt hB hs, rws B hs, e9, eq_false g0, e0, fC_at, fC_begin, fC_place, fC_setg, fC_fare, fC_stays, fC_tired, fC_long, fC_min, CTh_eq, CXh_eq, ix_lit, lt_lit, cl_lit, nz_lit, in5, in12, abs_sz]
          exact h3 _ c3 ((hF1.tr (Fr.up _ _ (by omega))).tr (Fr.up _ _ (by omega)))
  · rw [if_pos g] at h1
    by_cases gf : 0 ≤ f ∧ f ≤ 20
    · have gt : ¬ (0 ≤ to ∧ to ≤ 20) := fun q => g ⟨gf, q⟩
      refine wk (gn1_ok l L) ok_29 40 (fun pc => false) ?_
      simp only [gn1, kk_29, Option.toList_some, Option.toList_none, ex, catS, vC, isMk, sym, popN, goC, callOK, swL, List.map_cons, List.map_nil, List.replicate_zero, List.replicate_succ, List.append_nil, List.nil_append, List.cons_append, List.getElem?_cons_zero, List.getElem?_cons_succ, List.set_cons_zero, List.set_cons_succ, List.length_cons, List.length_nil, List.head?_cons, Nat.reduceAdd, Nat.reduceLT, Nat.reduceLeDiff, Nat.reduceBEq, Nat.reduceEqDiff, Nat.succ_ne_zero, Nat.zero_lt_succ, Nat.le_refl, sc_rows, kc_lit, nc_lit, wlk_rows, uR_s, uR_uR, true_and, and_true, true_or, or_true, false_or, or_false, and_false, false_and, or_self, and_self, if_true, if_false, Bool.false_eq_true, Bool.or_false, Bool.or_true, Bool.false_or, Bool.true_or, not_true_eq_false, not_false_eq_true, forall_const, true_implies, false_implies, implies_true, reduceIte, reduceCtorEq, b2_t gf, b2_f gt, nz_lit, fC_at, fC_begin, fC_place, fC_setg, fC_fare, fC_stays, fC_tired, fC_long, fC_min, CTh_eq, CXh_eq, ix_lit, lt_lit, cl_lit, nz_lit, in5, in12, abs_sz]
      exact h1 (by decide)
    · refine wk (gn1_ok l L) ok_29 40 (fun pc => false) ?_
      simp only [gn1, kk_29, Option.toList_some, Option.toList_none, ex, catS, vC, isMk, sym, popN, goC, callOK, swL, List.map_cons, List.map_nil, List.replicate_zero, List.replicate_succ, List.append_nil, List.nil_append, List.cons_append, List.getElem?_cons_zero, List.getElem?_cons_succ, List.set_cons_zero, List.set_cons_succ, List.length_cons, List.length_nil, List.head?_cons, Nat.reduceAdd, Nat.reduceLT, Nat.reduceLeDiff, Nat.reduceBEq, Nat.reduceEqDiff, Nat.succ_ne_zero, Nat.zero_lt_succ, Nat.le_refl, sc_rows, kc_lit, nc_lit, wlk_rows, uR_s, uR_uR, true_and, and_true, true_or, or_true, false_or, or_false, and_false, false_and, or_self, and_self, if_true, if_false, Bool.false_eq_true, Bool.or_false, Bool.or_true, Bool.false_or, Bool.true_or, not_true_eq_false, not_false_eq_true, forall_const, true_implies, false_implies, implies_true, reduceIte, reduceCtorEq, b2_f gf, fC_at, fC_begin, fC_place, fC_setg, fC_fare, fC_stays, fC_tired, fC_long, fC_min, CTh_eq, CXh_eq, ix_lit, lt_lit, cl_lit, nz_lit, in5, in12, abs_sz]
      exact h1 (by decide)
end E8

