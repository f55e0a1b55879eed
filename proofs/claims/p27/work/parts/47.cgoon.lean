/-! the class: what a taxi does in a minute -/
section C8
variable {l : Launch} {L : Nat} {I : Nat → Nat → Int32} {Q : Nat → Nat → Option Nat} {P : Option Value → PH → Prop} {B : Nat} {σ : Nat → Nat} {z : Nat → Int32} {n m k : Nat}
theorem sub_ten {x : Int32} : (x - 10 = 0) ↔ x = 10 := ⟨fun h => by
  have e := Int32.sub_add_cancel x 10
  rw [h] at e
  exact e.symm, fun h => by rw [h]; decide⟩
theorem sw_lit : ((2 : Int32) = 1) = False ∧ ((3 : Int32) = 1) = False ∧ ((3 : Int32) = 2) = False ∧ ((4 : Int32) = 1) = False ∧ ((4 : Int32) = 2) = False ∧ ((4 : Int32) = 3) = False := by decide
set_option maxRecDepth 100000 in
theorem c_goOn2 (hB : TB B) (hQ : QT0 Q B) (hS : QS Q B σ) (hC : CA I B σ z n m k) {i : Nat} (hX : LnX z n m i) (hk : k ≤ 15) (hi : i < n) (hd : z (tp i 1) = 1 ∨ z (tp i 1) = 2 ∨ z (tp i 1) = 3 ∨ z (tp i 1) = 4) (hT : ∀ j, j < n → TxW z j) (hz0 : z (tp i 2) ≤ 0 ↔ z (tp i 2) = 0) {z' : Nat → Int32} (hz : z' = if z (tp i 2) = 0 then zEnd z i n m else z) (h1 : ∀ I' m', m' ≤ 12 → z' 12 = nI m' → CA I' B σ z' n m' k → Fr I I' B → P none (SC L, I', Q)) : Sy l 44 (149, 1788) 37 [some (.ref B), some (.ref (B + 2 + σ i))] [] (SC L, I, Q) P := by
  obtain ⟨hnz, hn, hmz, hU, hL1, hL2, hL3, hm2⟩ := id hX
  have hm : m < 12 := by have := hX.lt hi; omega
  have hs := hS.2.1 i (by omega)
  have t := hC.tx hi
  have w := hC.tw
  obtain ⟨w1, w2, w3, w4, w5, w6⟩ := hT i hi
  have h0 : ¬ z (tp i 1) = 0 := by rcases hd with e | e | e | e <;> rw [e] <;> decide
  subst hz
  by_cases g : z (tp i 2) = 0
  · rw [if_pos g] at h1
    have g0 := hz0.mpr g
    have hT8 : ∀ j, j < n → z (tp j 8) = 0 ∨ z (tp j 8) = 1 := fun j hj => (hT j hj).2.2.1
    rcases hd with d | d | d | d
    · have e : zEnd z i n m = zRide z i := by unfold zEnd; rw [if_pos d]
      rw [e] at h1
      refine wk (gn1_ok l L) ok_44 30 (fun pc => false) ?_
      simp only [gn1, kk_44, Option.toList_some, Option.toList_none, ex, catS, vC, isMk, sym, popN, goC, callOK, swL, List.map_cons, List.map_nil, List.replicate_zero, List.replicate_succ, List.append_nil, List.nil_append, List.cons_append, List.getElem?_cons_zero, List.getElem?_cons_succ, List.set_cons_zero, List.set_cons_succ, List.length_cons, List.length_nil, List.head?_cons, Nat.reduceAdd, Nat.reduceLT, Nat.reduceLeDiff, Nat.reduceBEq, Nat.reduceEqDiff, Nat.succ_ne_zero, Nat.zero_lt_succ, Nat.le_refl, sc_rows, kc_lit, nc_lit, wlk_rows, uR_s, uR_uR, true_and, and_true, true_or, or_true, false_or, or_false, and_false, false_and, or_self, and_self, if_true, if_false, Bool.false_eq_true, Bool.or_false, Bool.or_true, Bool.false_or, Bool.true_or, not_true_eq_false, not_false_eq_true, forall_const, true_implies, false_implies, implies_true, reduceIte, reduceCtorEq, tbk hB, tbx hB, tbt hB hs, t, g, d, Int32.le_refl, sw_lit, false_implies, not_false, forall_const, true_and, fC_at, fC_begin, fC_place, fC_setg, fC_fare, fC_stays, fC_tired, fC_long, fC_min, CTh_eq, CXh_eq, ix_lit, lt_lit, cl_lit, nz_lit, in5, in12, abs_sz]
      refine c_startRide hB hQ hS hC hn hm2 hk hi (fun I' hI' hF => ?_)
      refine wk (gn1_ok l L) ok_44 10 (fun pc => false) ?_
      simp only [gn1, kk_44, Option.toList_some, Option.toList_none, ex, catS, vC, isMk, sym, popN, goC, callOK, swL, List.map_cons, List.map_nil, List.replicate_zero, List.replicate_succ, List.append_nil, List.nil_append, List.cons_append, List.getElem?_cons_zero, List.getElem?_cons_succ, List.set_cons_zero, List.set_cons_succ, List.length_cons, List.length_nil, List.head?_cons, Nat.reduceAdd, Nat.reduceLT, Nat.reduceLeDiff, Nat.reduceBEq, Nat.reduceEqDiff, Nat.succ_ne_zero, Nat.zero_lt_succ, Nat.le_refl, sc_rows, kc_lit, nc_lit, wlk_rows, uR_s, uR_uR, true_and, and_true, true_or, or_true, false_or, or_false, and_false, false_and, or_self, and_self, if_true, if_false, Bool.false_eq_true, Bool.or_false, Bool.or_true, Bool.false_or, Bool.true_or, not_true_eq_false, not_false_eq_true, forall_const, true_implies, false_implies, implies_true, reduceIte, reduceCtorEq, fC_at, fC_begin, fC_place, fC_setg, fC_fare, fC_stays, fC_tired, fC_long, fC_min, CTh_eq, CXh_eq, ix_lit, lt_lit, cl_lit, nz_lit, in5, in12, abs_sz]
      exact h1 I' m hm2 (by rw [zRide_o z (by omega), if_neg (by omega)]; exact hmz) hI' hF
    · have e : zEnd z i n m = zPaid z i n m := by unfold zEnd; rw [if_neg (by rw [d]; decide), if_pos d]
      rw [e] at h1
      refine wk (gn1_ok l L) ok_44 30 (fun pc => false) ?_
      simp only [gn1, kk_44, Option.toList_some, Option.toList_none, ex, catS, vC, isMk, sym, popN, goC, callOK, swL, List.map_cons, List.map_nil, List.replicate_zero, List.replicate_succ, List.append_nil, List.nil_append, List.cons_append, List.getElem?_cons_zero, List.getElem?_cons_succ, List.set_cons_zero, List.set_cons_succ, List.length_cons, List.length_nil, List.head?_cons, Nat.reduceAdd, Nat.reduceLT, Nat.reduceLeDiff, Nat.reduceBEq, Nat.reduceEqDiff, Nat.succ_ne_zero, Nat.zero_lt_succ, Nat.le_refl, sc_rows, kc_lit, nc_lit, wlk_rows, uR_s, uR_uR, true_and, and_true, true_or, or_true, false_or, or_false, and_false, false_and, or_self, and_self, if_true, if_false, Bool.false_eq_true, Bool.or_false, Bool.or_true, Bool.false_or, Bool.true_or, not_true_eq_false, not_false_eq_true, forall_const, true_implies, false_implies, implies_true, reduceIte, reduceCtorEq, tbk hB, tbx hB, tbt hB hs, t, g, d, Int32.le_refl, sw_lit, false_implies, not_false, forall_const, true_and, fC_at, fC_begin, fC_place, fC_setg, fC_fare, fC_stays, fC_tired, fC_long, fC_min, CTh_eq, CXh_eq, ix_lit, lt_lit, cl_lit, nz_lit, in5, in12, abs_sz]
      refine c_payFare hB hQ hS hC hn hm2 hk hi (fun I1 hI1 hF1 => ?_)
      have t1 := hI1.tx hi
      have w1' := hI1.tw
      have p : ∀ u, u < 13 → u ≠ 6 → zPaid1 z i (tp i u) = z (tp i u) := fun u hu h6 => by rw [zPaid1_t z i u hu, if_neg (fun q => h6 q.2)]
      by_cases g1 : z (tp i 11) - 10 = 0
      · have e2 : zPaid z i n m = zBack (zPaid1 z i) i n m := by unfold zPaid; rw [if_pos g1]
        rw [e2] at h1
        have hX1 : LnX (zPaid1 z i) n m i := fld_same hX (by rw [zPaid1_t z i 0 (by omega), if_neg (by omega)]) (fun j u hu hj => by rw [zPaid1_t z j u hu, if_neg (fun q => hj q.1)]) (fun k a b => by rw [zPaid1_o z (by omega), if_neg (by omega)])
        refine wk (gn1_ok l L) ok_44 30 (fun pc => false) ?_
        simp only [gn1, kk_44, Option.toList_some, Option.toList_none, ex, catS, vC, isMk, sym, popN, goC, callOK, swL, List.map_cons, List.map_nil, List.replicate_zero, List.replicate_succ, List.append_nil, List.nil_append, List.cons_append, List.getElem?_cons_zero, List.getElem?_cons_succ, List.set_cons_zero, List.set_cons_succ, List.length_cons, List.length_nil, List.head?_cons, Nat.reduceAdd, Nat.reduceLT, Nat.reduceLeDiff, Nat.reduceBEq, Nat.reduceEqDiff, Nat.succ_ne_zero, Nat.zero_lt_succ, Nat.le_refl, sc_rows, kc_lit, nc_lit, wlk_rows, uR_s, uR_uR, true_and, and_true, true_or, or_true, false_or, or_false, and_false, false_and, or_self, and_self, if_true, if_false, Bool.false_eq_true, Bool.or_false, Bool.or_true, Bool.false_or, Bool.true_or, not_true_eq_false, not_false_eq_true, forall_const, true_implies, false_implies, implies_true, reduceIte, reduceCtorEq, tbk hB, tbx hB, tbt hB hs, t1, p 11 (by omega) (by omega), sub_ten.mp g1, fC_at, fC_begin, fC_place, fC_setg, fC_fare, fC_stays, fC_tired, fC_long, fC_min, CTh_eq, CXh_eq, ix_lit, lt_lit, cl_lit, nz_lit, in5, in12, abs_sz]
        refine c_comeBack hB hQ hS hI1 hX1 hk hi (by rw [p 8 (by omega) (by omega)]; exact w2 h0) (by rw [p 12 (by omega) (by omega)]; exact w4) (fun j hj => by rw [zPaid1_t z j 8 (by omega), if_neg (by omega)]; exact hT8 j hj) (fun I' m' a b c f => ?_) rfl
        refine wk (gn1_ok l L) ok_44 10 (fun pc => false) ?_
        simp only [gn1, kk_44, Option.toList_some, Option.toList_none, ex, catS, vC, isMk, sym, popN, goC, callOK, swL, List.map_cons, List.map_nil, List.replicate_zero, List.replicate_succ, List.append_nil, List.nil_append, List.cons_append, List.getElem?_cons_zero, List.getElem?_cons_succ, List.set_cons_zero, List.set_cons_succ, List.length_cons, List.length_nil, List.head?_cons, Nat.reduceAdd, Nat.reduceLT, Nat.reduceLeDiff, Nat.reduceBEq, Nat.reduceEqDiff, Nat.succ_ne_zero, Nat.zero_lt_succ, Nat.le_refl, sc_rows, kc_lit, nc_lit, wlk_rows, uR_s, uR_uR, true_and, and_true, true_or, or_true, false_or, or_false, and_false, false_and, or_self, and_self, if_true, if_false, Bool.false_eq_true, Bool.or_false, Bool.or_true, Bool.false_or, Bool.true_or, not_true_eq_false, not_false_eq_true, forall_const, true_implies, false_implies, implies_true, reduceIte, reduceCtorEq, fC_at, fC_begin, fC_place, fC_setg, fC_fare, fC_stays, fC_tired, fC_long, fC_min, CTh_eq, CXh_eq, ix_lit, lt_lit, cl_lit, nz_lit, in5, in12, abs_sz]
        exact h1 I' m' a b c (hF1.tr f)
      · have e2 : zPaid z i n m = upd (upd (upd (zPaid1 z i) (tp i 1) 3) (tp i 2) (sz32 (z (tp i 11) - 10) * z 0)) (tp i 9) (if z (tp i 11) - 10 < 0 then -1 else 1) := by unfold zPaid; rw [if_neg g1]
        rw [e2] at h1
        have z10 : zPaid1 z i 0 = z 0 := by rw [zPaid1_o z (by omega), if_neg (by omega)]
        refine wk (gn1_ok l L) ok_44 40 (fun pc => false) ?_
        simp only [gn1, kk_44, Option.toList_some, Option.toList_none, ex, catS, vC, isMk, sym, popN, goC, callOK, swL, List.map_cons, List.map_nil, List.replicate_zero, List.replicate_succ, List.append_nil, List.nil_append, List.cons_append, List.getElem?_cons_zero, List.getElem?_cons_succ, List.set_cons_zero, List.set_cons_succ, List.length_cons, List.length_nil, List.head?_cons, Nat.reduceAdd, Nat.reduceLT, Nat.reduceLeDiff, Nat.reduceBEq, Nat.reduceEqDiff, Nat.succ_ne_zero, Nat.zero_lt_succ, Nat.le_refl, sc_rows, kc_lit, nc_lit, wlk_rows, uR_s, uR_uR, true_and, and_true, true_or, or_true, false_or, or_false, and_false, false_and, or_self, and_self, if_true, if_false, Bool.false_eq_true, Bool.or_false, Bool.or_true, Bool.false_or, Bool.true_or, not_true_eq_false, not_false_eq_true, forall_const, true_implies, false_implies, implies_true, reduceIte, reduceCtorEq, hB, hQ, tbk hB, tbx hB, tbn L hB, qt hQ, rws B hs, tbt hB hs, t1, w1', p 11 (by omega) (by omega), z10, eq_false (fun q => g1 (sub_ten.mpr q)), not_false, false_implies, forall_const, and_true, abs_sz, fC_at, fC_begin, fC_place, fC_setg, fC_fare, fC_stays, fC_tired, fC_long, fC_min, CTh_eq, CXh_eq, ix_lit, lt_lit, cl_lit, nz_lit, in5, in12, abs_sz]
        have hf : ∀ g, Fr I (uR I1 (B + 2 + σ i) g) B := fun g => hF1.tr (Fr.up _ _ (by omega))
        refine h1 _ m hm2 (by rw [upd_l _ _ _ _ (by omega), upd_l _ _ _ _ (by omega), upd_l _ _ _ _ (by omega), zPaid1_o z (by omega), if_neg (by omega)]; exact hmz) ?_ (hf _)
        have c2 := hI1.fld hS hn hm2 hk hi 1 (by omega) 3
        have c3 := c2.fld hS hn hm2 hk hi 2 (by omega) (sz32 (z (tp i 11) - 10) * z 0)
        simp only [uR_s, uR_uR, rws B hs, cm_lit] at c3
        refine c3.same hm2 hk (fun j u hj hu h9 => ?_) (fun c hc => ?_)
        · rw [upd_t _ _ _ _ _ _ hu (by omega), if_neg (fun q => h9 q.2)]
        · rw [upd_l _ _ _ _ (by omega)]
    · have e : zEnd z i n m = zBack z i n m := by unfold zEnd; rw [if_neg (by rw [d]; decide), if_neg (by rw [d]; decide), if_pos d]
      rw [e] at h1
      refine wk (gn1_ok l L) ok_44 30 (fun pc => false) ?_
      simp only [gn1, kk_44, Option.toList_some, Option.toList_none, ex, catS, vC, isMk, sym, popN, goC, callOK, swL, List.map_cons, List.map_nil, List.replicate_zero, List.replicate_succ, List.append_nil, List.nil_append, List.cons_append, List.getElem?_cons_zero, List.getElem?_cons_succ, List.set_cons_zero, List.set_cons_succ, List.length_cons, List.length_nil, List.head?_cons, Nat.reduceAdd, Nat.reduceLT, Nat.reduceLeDiff, Nat.reduceBEq, Nat.reduceEqDiff, Nat.succ_ne_zero, Nat.zero_lt_succ, Nat.le_refl, sc_rows, kc_lit, nc_lit, wlk_rows, uR_s, uR_uR, true_and, and_true, true_or, or_true, false_or, or_false, and_false, false_and, or_self, and_self, if_true, if_false, Bool.false_eq_true, Bool.or_false, Bool.or_true, Bool.false_or, Bool.true_or, not_true_eq_false, not_false_eq_true, forall_const, true_implies, false_implies, implies_true, reduceIte, reduceCtorEq, tbk hB, tbx hB, tbt hB hs, t, g, d, Int32.le_refl, sw_lit, false_implies, not_false, forall_const, true_and, fC_at, fC_begin, fC_place, fC_setg, fC_fare, fC_stays, fC_tired, fC_long, fC_min, CTh_eq, CXh_eq, ix_lit, lt_lit, cl_lit, nz_lit, in5, in12, abs_sz]
      refine c_comeBack hB hQ hS hC hX hk hi (w2 h0) w4 hT8 (fun I' m' a b c f => ?_) rfl
      refine wk (gn1_ok l L) ok_44 10 (fun pc => false) ?_
      simp only [gn1, kk_44, Option.toList_some, Option.toList_none, ex, catS, vC, isMk, sym, popN, goC, callOK, swL, List.map_cons, List.map_nil, List.replicate_zero, List.replicate_succ, List.append_nil, List.nil_append, List.cons_append, List.getElem?_cons_zero, List.getElem?_cons_succ, List.set_cons_zero, List.set_cons_succ, List.length_cons, List.length_nil, List.head?_cons, Nat.reduceAdd, Nat.reduceLT, Nat.reduceLeDiff, Nat.reduceBEq, Nat.reduceEqDiff, Nat.succ_ne_zero, Nat.zero_lt_succ, Nat.le_refl, sc_rows, kc_lit, nc_lit, wlk_rows, uR_s, uR_uR, true_and, and_true, true_or, or_true, false_or, or_false, and_false, false_and, or_self, and_self, if_true, if_false, Bool.false_eq_true, Bool.or_false, Bool.or_true, Bool.false_or, Bool.true_or, not_true_eq_false, not_false_eq_true, forall_const, true_implies, false_implies, implies_true, reduceIte, reduceCtorEq, fC_at, fC_begin, fC_place, fC_setg, fC_fare, fC_stays, fC_tired, fC_long, fC_min, CTh_eq, CXh_eq, ix_lit, lt_lit, cl_lit, nz_lit, in5, in12, abs_sz]
      exact h1 I' m' a b c f
    · have e : zEnd z i n m = zStand (upd z (tp i 3) 0) i m m := by unfold zEnd; rw [if_neg (by rw [d]; decide), if_neg (by rw [d]; decide), if_neg (by rw [d]; decide)]
      rw [e] at h1
      refine wk (gn1_ok l L) ok_44 30 (fun pc => false) ?_
      simp only [gn1, kk_44, Option.toList_some, Option.toList_none, ex, catS, vC, isMk, sym, popN, goC, callOK, swL, List.map_cons, List.map_nil, List.replicate_zero, List.replicate_succ, List.append_nil, List.nil_append, List.cons_append, List.getElem?_cons_zero, List.getElem?_cons_succ, List.set_cons_zero, List.set_cons_succ, List.length_cons, List.length_nil, List.head?_cons, Nat.reduceAdd, Nat.reduceLT, Nat.reduceLeDiff, Nat.reduceBEq, Nat.reduceEqDiff, Nat.succ_ne_zero, Nat.zero_lt_succ, Nat.le_refl, sc_rows, kc_lit, nc_lit, wlk_rows, uR_s, uR_uR, true_and, and_true, true_or, or_true, false_or, or_false, and_false, false_and, or_self, and_self, if_true, if_false, Bool.false_eq_true, Bool.or_false, Bool.or_true, Bool.false_or, Bool.true_or, not_true_eq_false, not_false_eq_true, forall_const, true_implies, false_implies, implies_true, reduceIte, reduceCtorEq, tbk hB, tbx hB, tbt hB hs, t, g, d, Int32.le_refl, sw_lit, false_implies, not_false, forall_const, true_and, fC_at, fC_begin, fC_place, fC_setg, fC_fare, fC_stays, fC_tired, fC_long, fC_min, CTh_eq, CXh_eq, ix_lit, lt_lit, cl_lit, nz_lit, in5, in12, abs_sz]
      have c1 := hC.fld hS hn hm2 hk hi 3 (by omega) 0
      simp only [cm_lit] at c1
      refine c_standLast hB hQ hS c1 (by rw [upd_l _ _ _ _ (by omega)]; exact hmz) hn hm hk hi (by rw [upd_t _ _ _ _ _ _ (by omega) (by omega), if_neg (by omega)]; exact w2 h0) (fun I' hI' hF => ?_)
      refine wk (gn1_ok l L) ok_44 10 (fun pc => false) ?_
      simp only [gn1, kk_44, Option.toList_some, Option.toList_none, ex, catS, vC, isMk, sym, popN, goC, callOK, swL, List.map_cons, List.map_nil, List.replicate_zero, List.replicate_succ, List.append_nil, List.nil_append, List.cons_append, List.getElem?_cons_zero, List.getElem?_cons_succ, List.set_cons_zero, List.set_cons_succ, List.length_cons, List.length_nil, List.head?_cons, Nat.reduceAdd, Nat.reduceLT, Nat.reduceLeDiff, Nat.reduceBEq, Nat.reduceEqDiff, Nat.succ_ne_zero, Nat.zero_lt_succ, Nat.le_refl, sc_rows, kc_lit, nc_lit, wlk_rows, uR_s, uR_uR, true_and, and_true, true_or, or_true, false_or, or_false, and_false, false_and, or_self, and_self, if_true, if_false, Bool.false_eq_true, Bool.or_false, Bool.or_true, Bool.false_or, Bool.true_or, not_true_eq_false, not_false_eq_true, forall_const, true_implies, false_implies, implies_true, reduceIte, reduceCtorEq, fC_at, fC_begin, fC_place, fC_setg, fC_fare, fC_stays, fC_tired, fC_long, fC_min, CTh_eq, CXh_eq, ix_lit, lt_lit, cl_lit, nz_lit, in5, in12, abs_sz]
      exact h1 I' (m + 1) (by omega) (zStand_12 _) hI' ((Fr.up _ _ (by omega)).tr hF)
  · rw [if_neg g] at h1
    have g0 : ¬ z (tp i 2) ≤ 0 := fun q => g (hz0.mp q)
    refine wk (gn1_ok l L) ok_44 30 (fun pc => false) ?_
    simp only [gn1, kk_44, Option.toList_some, Option.toList_none, ex, catS, vC, isMk, sym, popN, goC, callOK, swL, List.map_cons, List.map_nil, List.replicate_zero, List.replicate_succ, List.append_nil, List.nil_append, List.cons_append, List.getElem?_cons_zero, List.getElem?_cons_succ, List.set_cons_zero, List.set_cons_succ, List.length_cons, List.length_nil, List.head?_cons, Nat.reduceAdd, Nat.reduceLT, Nat.reduceLeDiff, Nat.reduceBEq, Nat.reduceEqDiff, Nat.succ_ne_zero, Nat.zero_lt_succ, Nat.le_refl, sc_rows, kc_lit, nc_lit, wlk_rows, uR_s, uR_uR, true_and, and_true, true_or, or_true, false_or, or_false, and_false, false_and, or_self, and_self, if_true, if_false, Bool.false_eq_true, Bool.or_false, Bool.or_true, Bool.false_or, Bool.true_or, not_true_eq_false, not_false_eq_true, forall_const, true_implies, false_implies, implies_true, reduceIte, reduceCtorEq, tbk hB, tbx hB, tbt hB hs, t, g0, fC_at, fC_begin, fC_place, fC_setg, fC_fare, fC_stays, fC_tired, fC_long, fC_min, CTh_eq, CXh_eq, ix_lit, lt_lit, cl_lit, nz_lit, in5, in12, abs_sz]
    exact h1 I m hm2 hmz hC (Fr.rf I B)
/-- the first half: a minute more at the wheel, one less to go -/
theorem CA.tick1 (hC : CA I B σ z n m k) (hS : QS Q B σ) (hn : n ≤ 12) (hm : m ≤ 12) (hk : k ≤ 15) {i : Nat} (hi : i < n) (h4 : ¬ z (tp i 1) = 4) : CA (uR (uR (uR I (B + 2 + σ i) (upd (I (B + 2 + σ i)) 3 (z (tp i 3) + 1))) B (upd (I B) 11 (z 10 + 1))) (B + 2 + σ i) (upd (upd (I (B + 2 + σ i)) 3 (z (tp i 3) + 1)) 2 (z (tp i 2) - 1))) B σ (zT1 z i) n m k := by
  have hs := hS.2.1 i (by omega)
  have c1 := hC.fld hS hn hm hk hi 3 (by omega) (z (tp i 3) + 1)
  have c2 := c1.cnt hm hk hS.2.1 hn 11 (by omega) (z 10 + 1)
  have c3 := c2.fld hS hn hm hk hi 2 (by omega) (z (tp i 2) - 1)
  simp only [uR_s, uR_uR, rws B hs, cm_lit] at c3
  unfold zT1
  rw [b2_t h4]
  exact c3
theorem CA.tick2 (hC : CA I B σ z n m k) (hS : QS Q B σ) (hn : n ≤ 12) (hm : m ≤ 12) (hk : k ≤ 15) {i : Nat} (hi : i < n) (h4 : z (tp i 1) = 4) : CA (uR I (B + 2 + σ i) (upd (I (B + 2 + σ i)) 2 (z (tp i 2) - 1))) B σ (zT1 z i) n m k := by
  have c3 := hC.fld hS hn hm hk hi 2 (by omega) (z (tp i 2) - 1)
  simp only [cm_lit] at c3
  unfold zT1
  rw [b2_f (fun q => q h4), show z (tp i 3) + 0 = z (tp i 3) from Int32.add_zero _, show z 10 + 0 = z 10 from Int32.add_zero _, upd_id, upd_id]
  exact c3
set_option maxRecDepth 100000 in
theorem c_goOn (hB : TB B) (hQ : QT0 Q B) (hS : QS Q B σ) {k0 : Nat} (hC : CA I B σ z n m k) (hM : MV z n k0) (hL : Ln z n m) (hk : k ≤ 15) {i : Nat} (hi : i < n) (hd : z (tp i 1) = 1 ∨ z (tp i 1) = 2 ∨ z (tp i 1) = 3 ∨ z (tp i 1) = 4) (h1 : ∀ I' m', m' ≤ 12 → zTick z i 12 = nI m' → CA I' B σ (zTick z i) n m' k → Fr I I' B → P none (SC L, I', Q)) : Runs l 44 [.ref B, .ref (B + 2 + σ i)] (SC L, I, Q) P := by
  obtain ⟨hnz, hn, hmz, hU, hL1, hL2, hL3, hm2⟩ := id hL
  have hs := hS.2.1 i (by omega)
  have t := hC.tx hi
  have w := hC.tw
  obtain ⟨-, ht, hset, -, -, -⟩ := hM
  obtain ⟨wi, wp⟩ := ht i hi
  have h0 : ¬ z (tp i 1) = 0 := by rcases hd with e | e | e | e <;> rw [e] <;> decide
  have hX : LnX (zT1 z i) n m i := fld_same (LnX.out hL hi h0) (by rw [zT1_t z i 0 (by omega)]; simp) (fun j u hu hj => by rw [zT1_t z j u hu, if_neg hj]) (fun k a b => by rw [zT1_o z (by omega), if_neg (by omega)])
  have e : ∀ j u, u < 13 → u ≠ 2 → u ≠ 3 → zT1 z i (tp j u) = z (tp j u) := fun j u hu h2 h3 => by
    rw [zT1_t z j u hu]
    by_cases q : j = i
    · subst q; simp [h2, h3]
    · rw [if_neg q]
  have e2 : zT1 z i (tp i 2) = z (tp i 2) - 1 := by rw [zT1_t z i 2 (by omega)]; simp
  have hT : ∀ j, j < n → TxW (zT1 z i) j := fun j hj => by
    have wj := (ht j hj).1
    unfold TxW
    rw [e j 1 (by omega) (by omega) (by omega), e j 8 (by omega) (by omega) (by omega), e j 9 (by omega) (by omega) (by omega), e j 10 (by omega) (by omega) (by omega), e j 11 (by omega) (by omega) (by omega), e j 12 (by omega) (by omega) (by omega)]
    exact wj
  have hz0 : zT1 z i (tp i 2) ≤ 0 ↔ zT1 z i (tp i 2) = 0 := by
    rw [e2]
    refine ⟨fun q => Decidable.byContradiction (fun c => ?_), fun q => by rw [q]; exact Int32.le_refl 0⟩
    exact absurd q (Int32.not_le.mpr (i32_01 (wp hd) c))
  have e11 : ix (z 11) = n := by rw [hnz]; exact ix_nI (by omega)
  have e12 : ix (z 12) = m := by rw [hmz]; exact ix_nI (by omega)
  have ez : zTick z i = if zT1 z i (tp i 2) = 0 then zEnd (zT1 z i) i n m else zT1 z i := by
    unfold zTick
    rw [if_pos ((doing14 wi.1).mpr hd), e2, e11, e12]
  have hd1 : zT1 z i (tp i 1) = 1 ∨ zT1 z i (tp i 1) = 2 ∨ zT1 z i (tp i 1) = 3 ∨ zT1 z i (tp i 1) = 4 := by rw [e i 1 (by omega) (by omega) (by omega)]; exact hd
  refine run0 (n := 0) mok_44 ⟨rfl, rfl⟩ rfl ?_
  by_cases h4 : z (tp i 1) = 4
  · have eb : b2 ((4 : Int32) = 1 ∨ (4 : Int32) = 2 ∨ (4 : Int32) = 3) = 0 := by decide
    refine wk (gn1_ok l L) ok_44 40 (fun pc => pc == 37) ?_
    simp only [gn1, kk_44, Option.toList_some, Option.toList_none, ex, catS, vC, isMk, sym, popN, goC, callOK, swL, List.map_cons, List.map_nil, List.replicate_zero, List.replicate_succ, List.append_nil, List.nil_append, List.cons_append, List.getElem?_cons_zero, List.getElem?_cons_succ, List.set_cons_zero, List.set_cons_succ, List.length_cons, List.length_nil, List.head?_cons, Nat.reduceAdd, Nat.reduceLT, Nat.reduceLeDiff, Nat.reduceBEq, Nat.reduceEqDiff, Nat.succ_ne_zero, Nat.zero_lt_succ, Nat.le_refl, sc_rows, kc_lit, nc_lit, wlk_rows, uR_s, uR_uR, true_and, and_true, true_or, or_true, false_or, or_false, and_false, false_and, or_self, and_self, if_true, if_false, Bool.false_eq_true, Bool.or_false, Bool.or_true, Bool.false_or, Bool.true_or, not_true_eq_false, not_false_eq_true, forall_const, true_implies, false_implies, implies_true, reduceIte, reduceCtorEq, hB, hQ, tbk hB, tbx hB, tbt hB hs, t, h4, eb, fC_at, fC_begin, fC_place, fC_setg, fC_fare, fC_stays, fC_tired, fC_long, fC_min, CTh_eq, CXh_eq, ix_lit, lt_lit, cl_lit, nz_lit, in5, in12, abs_sz]
    refine c_goOn2 hB hQ hS (hC.tick2 hS hn hm2 hk hi h4) hX hk hi hd1 hT hz0 ez (fun I' m' a b c f => h1 I' m' a b c ((Fr.up _ _ (by omega)).tr f))
  · have eb : b2 (z (tp i 1) = 1 ∨ z (tp i 1) = 2 ∨ z (tp i 1) = 3) = 1 := by
      rw [b2_t]
      rcases hd with d | d | d | d
      · exact Or.inl d
      · exact Or.inr (Or.inl d)
      · exact Or.inr (Or.inr d)
      · exact absurd d h4
    have q2 : upd (I (B + 2 + σ i)) 3 (z (tp i 3) + 1) 2 = z (tp i 2) := by rw [upd_n _ _ (by omega)]; exact t.2.2.1
    refine wk (gn1_ok l L) ok_44 40 (fun pc => pc == 37) ?_
    simp only [gn1, kk_44, Option.toList_some, Option.toList_none, ex, catS, vC, isMk, sym, popN, goC, callOK, swL, List.map_cons, List.map_nil, List.replicate_zero, List.replicate_succ, List.append_nil, List.nil_append, List.cons_append, List.getElem?_cons_zero, List.getElem?_cons_succ, List.set_cons_zero, List.set_cons_succ, List.length_cons, List.length_nil, List.head?_cons, Nat.reduceAdd, Nat.reduceLT, Nat.reduceLeDiff, Nat.reduceBEq, Nat.reduceEqDiff, Nat.succ_ne_zero, Nat.zero_lt_succ, Nat.le_refl, sc_rows, kc_lit, nc_lit, wlk_rows, uR_s, uR_uR, true_and, and_true, true_or, or_true, false_or, or_false, and_false, false_and, or_self, and_self, if_true, if_false, Bool.false_eq_true, Bool.or_false, Bool.or_true, Bool.false_or, Bool.true_or, not_true_eq_false, not_false_eq_true, forall_const, true_implies, false_implies, implies_true, reduceIte, reduceCtorEq, hB, hQ, tbk hB, tbx hB, tbt hB hs, t, w, eb, nz_lit, q2, rws B hs, fC_at, fC_begin, fC_place, fC_setg, fC_fare, fC_stays, fC_tired, fC_long, fC_min, CTh_eq, CXh_eq, ix_lit, lt_lit, cl_lit, nz_lit, in5, in12, abs_sz]
    refine c_goOn2 hB hQ hS (hC.tick1 hS hn hm2 hk hi h4) hX hk hi hd1 hT hz0 ez (fun I' m' a b c f => h1 I' m' a b c ((((Fr.up I _ (by omega)).tr (Fr.up _ _ (by omega))).tr (Fr.up _ _ (by omega))).tr f))
end C8

