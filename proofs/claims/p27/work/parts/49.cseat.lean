/-! the class: the seats, and the minute -/
section D1
variable {l : Launch} {L : Nat} {I : Nat → Nat → Int32} {Q : Nat → Nat → Option Nat} {P : Option Value → PH → Prop} {B : Nat} {σ : Nat → Nat} {z : Nat → Int32} {n m k : Nat}
theorem zFare_12 (z : Nat → Int32) (t : Nat) (a b x y : Int32) (hy : y = b2 (¬ x = 0 ∧ ¬ isLongZ z a b)) : ∀ j u, u < 13 → upd (zFare z t a b 0) (tp t 12) y (tp j u) = zFare z t a b x (tp j u) := by
  intro j u hu
  rw [upd_t _ _ _ _ _ _ hu (by omega), zFare_t _ _ _ _ j u hu, zFare_t _ _ _ _ j u hu]
  by_cases q : j = t
  · rw [if_pos q, if_pos q]
    by_cases q2 : u = 12
    · rw [if_pos ⟨q, q2⟩, q2, hy]; simp
    · rw [if_neg (fun c => q2 c.2)]; simp [q2]
  · rw [if_neg (fun c => q c.1), if_neg q, if_neg q]
theorem c_seat1 (hB : TB B) (hQ : QT0 Q B) (hS : QS Q B σ) (hM : MV z n k) (hL : Ln z n m) (hC : CA I B σ z n m k) {t r : Nat} (hr : r < k) (ht : t < n) (hin : ∃ q, q < m ∧ z (15 + q) = z (tp t 0)) {d1 : Int32} (h1 : ∀ I', CA I' B σ (zSit z t r) n (m - 1) (k - 1) → Fr I I' B → Sy l 46 (149, 1788) 96 [some (.ref B), some (.int (nI r)), some (.int d1), some (.int (z (27 + 3 * r))), some (.ref (B + 2 + σ t))] [] (SC L, I', Q) P) : Sy l 46 (149, 1788) 53 [some (.ref B), some (.int (nI r)), some (.int d1), some (.int (z (27 + 3 * r))), some (.ref (B + 2 + σ t))] [] (SC L, I, Q) P := by
  obtain ⟨hnz, hn, hmz, hU, hL1, hL2, hL3, hm2⟩ := id hL
  have hkz := hM.2.2.2.1
  have hk := hM.2.2.2.2.1
  have hs := hS.2.1 t (by omega)
  obtain ⟨p1, p2⟩ := plF_ok z (z (tp t 0)) m hin
  refine wk ((fn0_ok l)) ok_46 30 (fun pc => false) ?_
  simp only [fn0, kk_46, Option.toList_some, Option.toList_none, ex, catS, vC, isMk, sym, popN, goC, callOK, swL, List.map_cons, List.map_nil, List.replicate_zero, List.replicate_succ, List.append_nil, List.nil_append, List.cons_append, List.getElem?_cons_zero, List.getElem?_cons_succ, List.set_cons_zero, List.set_cons_succ, List.length_cons, List.length_nil, List.head?_cons, Nat.reduceAdd, Nat.reduceLT, Nat.reduceLeDiff, Nat.reduceBEq, Nat.reduceEqDiff, Nat.succ_ne_zero, Nat.zero_lt_succ, Nat.le_refl, sc_rows, kc_lit, nc_lit, wlk_rows, uR_s, uR_uR, true_and, and_true, true_or, or_true, false_or, or_false, and_false, false_and, or_self, and_self, if_true, if_false, Bool.false_eq_true, Bool.or_false, Bool.or_true, Bool.false_or, Bool.true_or, not_true_eq_false, not_false_eq_true, forall_const, true_implies, false_implies, implies_true, reduceIte, reduceCtorEq, tbk hB, tbx hB]
  refine c_accept hB hQ hS hC hmz hn hm2 hk ht _ _ (fun p hp he I1 hI1 hF1 => ?_) (fun hno => ?_)
  · obtain rfl : p = plF z (z (tp t 0)) m := hL3 p _ hp p1 (he.trans p2.symm)
    have w := hI1.tw
    have z2 : zFare (zLeave z t (plF z (z (tp t 0)) m) m) t 10 (z (27 + 3 * r)) 0 2 = zLeave z t (plF z (z (tp t 0)) m) m 2 := by rw [zFare_o _ _ _ _ (by omega)]
    have elong : (I1 (B + 19) 2 ≤ sz32 (z (27 + 3 * r) - 10)) = isLongZ (zLeave z t (plF z (z (tp t 0)) m) m) 10 (z (27 + 3 * r)) := by rw [w.2.2.2.2.2.2.2.2.2.2.1, z2]
    have rest : ∀ y, y = b2 (¬ (1 : Int32) = 0 ∧ ¬ isLongZ (zLeave z t (plF z (z (tp t 0)) m) m) 10 (z (27 + 3 * r))) → Sy l 46 (149, 1788) 82 [some (.ref B), some (.int (nI r)), some (.int d1), some (.int (z (27 + 3 * r))), some (.ref (B + 2 + σ t))] [] (SC L, uR I1 (B + 2 + σ t) (upd (I1 (B + 2 + σ t)) 9 y), Q) P := by
      intro y hy
      have c2 := hI1.fld hS hn (by omega) hk ht 9 (by omega) y
      simp only [cm_lit] at c2
      have c3 := c2.same (z' := zFare (zLeave z t (plF z (z (tp t 0)) m) m) t 10 (z (27 + 3 * r)) 1) (by omega) hk (fun j u _ hu _ => (zFare_12 _ t 10 _ 1 y hy j u hu).symm) (fun c hc => by rw [upd_l _ _ _ _ (by omega), zFare_o _ _ _ _ (by omega), zFare_o _ _ _ _ (by omega)])
      refine wk ((fn0_ok l)) ok_46 30 (fun pc => pc == 96) ?_
      simp only [fn0, kk_46, Option.toList_some, Option.toList_none, ex, catS, vC, isMk, sym, popN, goC, callOK, swL, List.map_cons, List.map_nil, List.replicate_zero, List.replicate_succ, List.append_nil, List.nil_append, List.cons_append, List.getElem?_cons_zero, List.getElem?_cons_succ, List.set_cons_zero, List.set_cons_succ, List.length_cons, List.length_nil, List.head?_cons, Nat.reduceAdd, Nat.reduceLT, Nat.reduceLeDiff, Nat.reduceBEq, Nat.reduceEqDiff, Nat.succ_ne_zero, Nat.zero_lt_succ, Nat.le_refl, sc_rows, kc_lit, nc_lit, wlk_rows, uR_s, uR_uR, true_and, and_true, true_or, or_true, false_or, or_false, and_false, false_and, or_self, and_self, if_true, if_false, Bool.false_eq_true, Bool.or_false, Bool.or_true, Bool.false_or, Bool.true_or, not_true_eq_false, not_false_eq_true, forall_const, true_implies, false_implies, implies_true, reduceIte, reduceCtorEq, tbk hB, tbx hB]
      refine c_startRide hB hQ hS c3 hn (by omega) hk ht (fun I2 hI2 hF2 => ?_)
      have hI2' : CA I2 B σ (zOff z t m (z (27 + 3 * r))) n (m - 1) k := hI2
      have ez : zSit z t r = zGoes (zOff z t m (z (27 + 3 * r))) r k := by
        unfold zSit
        rw [show ix (z 12) = m by rw [hmz]; exact ix_nI (by omega), show ix (z 13) = k by rw [hkz]; exact ix_nI (by omega)]
      rw [ez] at h1
      have e13 : zOff z t m (z (27 + 3 * r)) 13 = nI k := by rw [zOff_o z hm2 p1 (by omega), if_neg (by omega)]; exact hkz
      refine wk ((fn0_ok l)) ok_46 30 (fun pc => pc == 96) ?_
      simp only [fn0, kk_46, Option.toList_some, Option.toList_none, ex, catS, vC, isMk, sym, popN, goC, callOK, swL, List.map_cons, List.map_nil, List.replicate_zero, List.replicate_succ, List.append_nil, List.nil_append, List.cons_append, List.getElem?_cons_zero, List.getElem?_cons_succ, List.set_cons_zero, List.set_cons_succ, List.length_cons, List.length_nil, List.head?_cons, Nat.reduceAdd, Nat.reduceLT, Nat.reduceLeDiff, Nat.reduceBEq, Nat.reduceEqDiff, Nat.succ_ne_zero, Nat.zero_lt_succ, Nat.le_refl, sc_rows, kc_lit, nc_lit, wlk_rows, uR_s, uR_uR, true_and, and_true, true_or, or_true, false_or, or_false, and_false, false_and, or_self, and_self, if_true, if_false, Bool.false_eq_true, Bool.or_false, Bool.or_true, Bool.false_or, Bool.true_or, not_true_eq_false, not_false_eq_true, forall_const, true_implies, false_implies, implies_true, reduceIte, reduceCtorEq, tbk hB, tbx hB, qt hQ]
      refine c_removeAt hB hQ hS hI2' e13 hn (by omega) hk hr (fun I3 hI3 hF3 => ?_)
      exact h1 I3 hI3 (((hF1.tr (Fr.up _ _ (by omega))).tr hF2).tr hF3)
    refine wk (gn1_ok l L) ok_46 60 (fun pc => pc == 82) ?_
    simp only [gn1, kk_46, Option.toList_some, Option.toList_none, ex, catS, vC, isMk, sym, popN, goC, callOK, swL, List.map_cons, List.map_nil, List.replicate_zero, List.replicate_succ, List.append_nil, List.nil_append, List.cons_append, List.getElem?_cons_zero, List.getElem?_cons_succ, List.set_cons_zero, List.set_cons_succ, List.length_cons, List.length_nil, List.head?_cons, Nat.reduceAdd, Nat.reduceLT, Nat.reduceLeDiff, Nat.reduceBEq, Nat.reduceEqDiff, Nat.succ_ne_zero, Nat.zero_lt_succ, Nat.le_refl, sc_rows, kc_lit, nc_lit, wlk_rows, uR_s, uR_uR, true_and, and_true, true_or, or_true, false_or, or_false, and_false, false_and, or_self, and_self, if_true, if_false, Bool.false_eq_true, Bool.or_false, Bool.or_true, Bool.false_or, Bool.true_or, not_true_eq_false, not_false_eq_true, forall_const, true_implies, false_implies, implies_true, reduceIte, reduceCtorEq, hB, hQ, tbk hB, tbx hB, tbt hB hs, elong, b2_0, b2_n0, Decidable.not_not, fC_at, fC_begin, fC_place, fC_setg, fC_fare, fC_stays, fC_tired, fC_long, fC_min, CTh_eq, CXh_eq, ix_lit, lt_lit, cl_lit, nz_lit, in5, in12, abs_sz]
    refine ⟨fun g => ?_, fun g => ?_⟩
    · exact rest 0 (b2_f (fun q => q.2 g)).symm
    · exact rest 1 (b2_t ⟨by decide, g⟩).symm
  · obtain ⟨q, q1, q2⟩ := hin
    exact absurd q2 (hno q q1)
set_option maxRecDepth 100000 in
theorem c_seats (hB : TB B) (hQ : QT0 Q B) (hS : QS Q B σ) {n : Nat} (s : Int32) : ∀ d r (z : Nat → Int32) k m I hr, MV z n k → Ln z n m → CA I B σ z n m k → r + d = k → (∀ I' k' m', MV (seat s d z hr r).1 n k' → Ln (seat s d z hr r).1 n m' → CA I' B σ (seat s d z hr r).1 n m' k' → Fr I I' B → P none (SC L, I', Q)) → ∀ a3 a4, Sy l 46 (149, 1788) 10 [some (.ref B), some (.int (nI r)), some (.int (nI d)), a3, a4] [] (SC L, I, Q) P := by
  intro d
  induction d with
  | zero =>
    intro r z k m I hr hM hL hC he h1 a3 a4
    refine wk ((fn0_ok l)) ok_46 30 (fun pc => pc == 14) ?_
    simp only [fn0, kk_46, Option.toList_some, Option.toList_none, ex, catS, vC, isMk, sym, popN, goC, callOK, swL, List.map_cons, List.map_nil, List.replicate_zero, List.replicate_succ, List.append_nil, List.nil_append, List.cons_append, List.getElem?_cons_zero, List.getElem?_cons_succ, List.set_cons_zero, List.set_cons_succ, List.length_cons, List.length_nil, List.head?_cons, Nat.reduceAdd, Nat.reduceLT, Nat.reduceLeDiff, Nat.reduceBEq, Nat.reduceEqDiff, Nat.succ_ne_zero, Nat.zero_lt_succ, Nat.le_refl, sc_rows, kc_lit, nc_lit, wlk_rows, uR_s, uR_uR, true_and, and_true, true_or, or_true, false_or, or_false, and_false, false_and, or_self, and_self, if_true, if_false, Bool.false_eq_true, Bool.or_false, Bool.or_true, Bool.false_or, Bool.true_or, not_true_eq_false, not_false_eq_true, forall_const, true_implies, false_implies, implies_true, reduceIte, reduceCtorEq, show (nI 0 ≤ 0) = True by decide]
    exact h1 I k m hM hL hC (Fr.rf I B)
  | succ d ih =>
    intro r z k m I hr hM hL hC he h1 a3 a4
    have hk := hM.2.2.2.2.1
    have hkz := hM.2.2.2.1
    have hn := hM.n.2
    have e11 : ix (z 11) = n := by rw [hM.n.1]; exact ix_nI (by omega)
    have e12 : ix (z 12) = m := by rw [hL.2.2.1]; exact ix_nI (by have := hL.2.2.2.2.2.2.2; omega)
    have wr := (hC.2.2.2.2.2.2 r (by omega)).1
    have eq15 : I (B + 15) 0 = nI k := hC.2.2.2.2.2.1.1.trans hkz
    have e0 : (nI (d + 1) ≤ 0) = False := by rw [show (0 : Int32) = nI 0 from rfl]; exact leF (by omega) (by omega)
    simp only [seat, e11, e12] at h1
    refine wk ((fn0_ok l)) ok_46 30 (fun pc => pc == 10 || pc == 102) ?_
    simp only [fn0, kk_46, Option.toList_some, Option.toList_none, ex, catS, vC, isMk, sym, popN, goC, callOK, swL, List.map_cons, List.map_nil, List.replicate_zero, List.replicate_succ, List.append_nil, List.nil_append, List.cons_append, List.getElem?_cons_zero, List.getElem?_cons_succ, List.set_cons_zero, List.set_cons_succ, List.length_cons, List.length_nil, List.head?_cons, Nat.reduceAdd, Nat.reduceLT, Nat.reduceLeDiff, Nat.reduceBEq, Nat.reduceEqDiff, Nat.succ_ne_zero, Nat.zero_lt_succ, Nat.le_refl, sc_rows, kc_lit, nc_lit, wlk_rows, uR_s, uR_uR, true_and, and_true, true_or, or_true, false_or, or_false, and_false, false_and, or_self, and_self, if_true, if_false, Bool.false_eq_true, Bool.or_false, Bool.or_true, Bool.false_or, Bool.true_or, not_true_eq_false, not_false_eq_true, forall_const, true_implies, false_implies, implies_true, reduceIte, reduceCtorEq, e0, eq15, leF (show r < k by omega) (show k < 2147483648 by omega), qt hQ, tbk hB, tbx hB, tbn L hB, wr, ixp (show r < 15 by omega) (by omega)]
    refine c_rider hB hQ hS hC hL _ ?_
    cases hrd : rider z n m (z (27 + 3 * r)) with
    | none =>
      rw [hrd] at h1
      refine wk ((fn0_ok l)) ok_46 30 (fun pc => pc == 10) ?_
      simp only [fn0, kk_46, Option.toList_some, Option.toList_none, ex, catS, vC, isMk, sym, popN, goC, callOK, swL, List.map_cons, List.map_nil, List.replicate_zero, List.replicate_succ, List.append_nil, List.nil_append, List.cons_append, List.getElem?_cons_zero, List.getElem?_cons_succ, List.set_cons_zero, List.set_cons_succ, List.length_cons, List.length_nil, List.head?_cons, Nat.reduceAdd, Nat.reduceLT, Nat.reduceLeDiff, Nat.reduceBEq, Nat.reduceEqDiff, Nat.succ_ne_zero, Nat.zero_lt_succ, Nat.le_refl, sc_rows, kc_lit, nc_lit, wlk_rows, uR_s, uR_uR, true_and, and_true, true_or, or_true, false_or, or_false, and_false, false_and, or_self, and_self, if_true, if_false, Bool.false_eq_true, Bool.or_false, Bool.or_true, Bool.false_or, Bool.true_or, not_true_eq_false, not_false_eq_true, forall_const, true_implies, false_implies, implies_true, reduceIte, reduceCtorEq, nI_up, (nI_dn (show 0 < d + 1 by omega)).1, Nat.add_sub_cancel]
      exact ih (r + 1) z k m I hr hM hL hC (by omega) h1 _ _
    | some t =>
      rw [hrd] at h1
      obtain ⟨t1, t2, t3, t4⟩ := rider_in hL hrd
      have hM2 := hM.sit hL (show r < k by omega) hrd
      refine wk ((fn0_ok l)) ok_46 30 (fun pc => pc == 53) ?_
      simp only [fn0, kk_46, Option.toList_some, Option.toList_none, ex, catS, vC, isMk, sym, popN, goC, callOK, swL, List.map_cons, List.map_nil, List.replicate_zero, List.replicate_succ, List.append_nil, List.nil_append, List.cons_append, List.getElem?_cons_zero, List.getElem?_cons_succ, List.set_cons_zero, List.set_cons_succ, List.length_cons, List.length_nil, List.head?_cons, Nat.reduceAdd, Nat.reduceLT, Nat.reduceLeDiff, Nat.reduceBEq, Nat.reduceEqDiff, Nat.succ_ne_zero, Nat.zero_lt_succ, Nat.le_refl, sc_rows, kc_lit, nc_lit, wlk_rows, uR_s, uR_uR, true_and, and_true, true_or, or_true, false_or, or_false, and_false, false_and, or_self, and_self, if_true, if_false, Bool.false_eq_true, Bool.or_false, Bool.or_true, Bool.false_or, Bool.true_or, not_true_eq_false, not_false_eq_true, forall_const, true_implies, false_implies, implies_true, reduceIte, reduceCtorEq]
      refine c_seat1 hB hQ hS hM hL hC (show r < k by omega) t1 t4 (fun I' hC' hF => ?_)
      refine wk ((fn0_ok l)) ok_46 30 (fun pc => pc == 10) ?_
      simp only [fn0, kk_46, Option.toList_some, Option.toList_none, ex, catS, vC, isMk, sym, popN, goC, callOK, swL, List.map_cons, List.map_nil, List.replicate_zero, List.replicate_succ, List.append_nil, List.nil_append, List.cons_append, List.getElem?_cons_zero, List.getElem?_cons_succ, List.set_cons_zero, List.set_cons_succ, List.length_cons, List.length_nil, List.head?_cons, Nat.reduceAdd, Nat.reduceLT, Nat.reduceLeDiff, Nat.reduceBEq, Nat.reduceEqDiff, Nat.succ_ne_zero, Nat.zero_lt_succ, Nat.le_refl, sc_rows, kc_lit, nc_lit, wlk_rows, uR_s, uR_uR, true_and, and_true, true_or, or_true, false_or, or_false, and_false, false_and, or_self, and_self, if_true, if_false, Bool.false_eq_true, Bool.or_false, Bool.or_true, Bool.false_or, Bool.true_or, not_true_eq_false, not_false_eq_true, forall_const, true_implies, false_implies, implies_true, reduceIte, reduceCtorEq, (nI_dn (show 0 < d + 1 by omega)).1, Nat.add_sub_cancel]
      obtain ⟨m2, hL2⟩ := hM2.1
      have e : m2 = m - 1 := by
        have e1 : zSit z t r 12 = nI (m - 1) := by
          obtain ⟨p1, p2⟩ := plF_ok z (z (tp t 0)) m t4
          unfold zSit
          rw [e12, show ix (z 13) = k by rw [hkz]; exact ix_nI (by omega), zGoes_o _ hk (by omega)]
          unfold zOff
          rw [zRide_o _ (by omega), if_neg (by omega), zFare_o _ _ _ _ (by omega)]
          exact (LnX.leave hL t1 p1 p2).2.2.1
        exact (nI_eq (by have := hL2.2.2.2.2.2.2.2; omega) (by have := hL.2.2.2.2.2.2.2; omega)).mp (hL2.2.2.1.symm.trans e1)
      subst e
      exact ih r (zSit z t r) (k - 1) (m - 1) I' _ hM2 hL2 hC' (by omega) (fun I2 k2 m2 a b c f => h1 I2 k2 m2 a b c (hF.tr f)) _ _
theorem MV.ln (h : MV z n k) (e : z 12 = nI m) (hm : m ≤ 12) : Ln z n m := by
  obtain ⟨⟨m', hl⟩, -⟩ := h
  have : m' = m := (nI_eq (by have := hl.2.2.2.2.2.2.2; omega) (by omega)).mp (hl.2.2.1.symm.trans e)
  subst this
  exact hl
theorem zDis_12 : ∀ r (z : Nat → Int32) k, MV z n k → r ≤ k → zDis z r 12 = z 12 := by
  intro r
  induction r with
  | zero => intro z k _ _; rfl
  | succ r ih =>
    intro z k hM hr
    obtain ⟨k', a, b⟩ := hM.ds (r := r) (by omega)
    have e : zDis z (r + 1) 12 = zDs z r 12 := ih _ k' a b
    rw [e]
    unfold zDs
    split
    · rw [upd_n _ _ (by omega), zGoes_o z (by rw [hM.2.2.2.1, ix_nI (by have := hM.2.2.2.2.1; omega)]; exact hM.2.2.2.2.1) (by omega)]
    · rfl
set_option maxRecDepth 100000 in
theorem c_minute (hB : TB B) (hQ : QT0 Q B) (hS : QS Q B σ) (s hr : Int32) (hM : MV z n k) (hL : Ln z n m) (hC : CA I B σ z n m k) (h1 : ∀ I' k' m', MV (zMin s z hr).1 n k' → Ln (zMin s z hr).1 n m' → CA I' B σ (zMin s z hr).1 n m' k' → Fr I I' B → P none (SC L, I', Q)) : Runs l 43 [.ref B] (SC L, I, Q) P := by
  have hk := hM.2.2.2.2.1
  have hkz := hM.2.2.2.1
  have hn := hM.n.2
  have hm : m ≤ 12 := hL.2.2.2.2.2.2.2
  have w := hC.tw
  have hc := hM.clock (z 5 + 1)
  have e11' : ix (z 11) = n := by rw [hM.n.1]; exact ix_nI (by omega)
  have e13' : ix (z 13) = k := by rw [hkz]; exact ix_nI (by omega)
  have hnz : ∀ i, i ≤ n → MV (zTs (upd z 5 (z 5 + 1)) i) n k ∧ zTs (upd z 5 (z 5 + 1)) i 11 = nI n := fun i hi => ⟨zTs_inv hc i hi, (zTs_inv hc i hi).n.1⟩
  have hL0 : Ln (upd z 5 (z 5 + 1)) n m := LnX.same hL (fun j => upd_n _ _ (by have := tp_ge j 0; omega)) (fun j _ => upd_n _ _ (by have := tp_ge j 1; omega)) (fun q _ _ _ _ => upd_n _ _ (by omega))
  have hC0 : CA (uR I B (upd (I B) 6 (z 5 + 1))) B σ (upd z 5 (z 5 + 1)) n m k := hC.cnt hm hk hS.2.1 hn 6 (by omega) (z 5 + 1)
  refine run0 (n := 2) mok_43 ⟨rfl, rfl⟩ rfl ?_
  refine wk ((fn0_ok l)) ok_43 30 (fun pc => pc == 12) ?_
  simp only [fn0, kk_43, Option.toList_some, Option.toList_none, ex, catS, vC, isMk, sym, popN, goC, callOK, swL, List.map_cons, List.map_nil, List.replicate_zero, List.replicate_succ, List.append_nil, List.nil_append, List.cons_append, List.getElem?_cons_zero, List.getElem?_cons_succ, List.set_cons_zero, List.set_cons_succ, List.length_cons, List.length_nil, List.head?_cons, Nat.reduceAdd, Nat.reduceLT, Nat.reduceLeDiff, Nat.reduceBEq, Nat.reduceEqDiff, Nat.succ_ne_zero, Nat.zero_lt_succ, Nat.le_refl, sc_rows, kc_lit, nc_lit, wlk_rows, uR_s, uR_uR, true_and, and_true, true_or, or_true, false_or, or_false, and_false, false_and, or_self, and_self, if_true, if_false, Bool.false_eq_true, Bool.or_false, Bool.or_true, Bool.false_or, Bool.true_or, not_true_eq_false, not_false_eq_true, forall_const, true_implies, false_implies, implies_true, reduceIte, reduceCtorEq, tbk hB, tbx hB, w]
  refine c_ticks (z := upd z 5 (z 5 + 1)) (I := I) hB hQ hS hk (fun I1 m1 hm1 hC1 hL1 hF1 a2 => ?_) hn hnz n 0 (by omega) _ m hC0 hL0 (Fr.up _ _ (by omega)) none
  refine wk ((fn0_ok l)) ok_43 30 (fun pc => false) ?_
  simp only [fn0, kk_43, Option.toList_some, Option.toList_none, ex, catS, vC, isMk, sym, popN, goC, callOK, swL, List.map_cons, List.map_nil, List.replicate_zero, List.replicate_succ, List.append_nil, List.nil_append, List.cons_append, List.getElem?_cons_zero, List.getElem?_cons_succ, List.set_cons_zero, List.set_cons_succ, List.length_cons, List.length_nil, List.head?_cons, Nat.reduceAdd, Nat.reduceLT, Nat.reduceLeDiff, Nat.reduceBEq, Nat.reduceEqDiff, Nat.succ_ne_zero, Nat.zero_lt_succ, Nat.le_refl, sc_rows, kc_lit, nc_lit, wlk_rows, uR_s, uR_uR, true_and, and_true, true_or, or_true, false_or, or_false, and_false, false_and, or_self, and_self, if_true, if_false, Bool.false_eq_true, Bool.or_false, Bool.or_true, Bool.false_or, Bool.true_or, not_true_eq_false, not_false_eq_true, forall_const, true_implies, false_implies, implies_true, reduceIte, reduceCtorEq, tbk hB, tbx hB]
  refine c_dismiss hB hQ hS hm1 (hnz n (Nat.le_refl n)).1 hC1 (fun I2 k2 hM2 hC2 hF2 => ?_)
  have e12 : zDis (zTs (upd z 5 (z 5 + 1)) n) k 12 = nI m1 := by rw [zDis_12 k _ k (hnz n (Nat.le_refl n)).1 (Nat.le_refl k)]; exact hL1.2.2.1
  have e3 : zDis (zTs (upd z 5 (z 5 + 1)) n) k = zM3 z := by simp only [zM3, e11', e13']
  refine wk ((fn0_ok l)) ok_43 30 (fun pc => false) ?_
  simp only [fn0, kk_43, Option.toList_some, Option.toList_none, ex, catS, vC, isMk, sym, popN, goC, callOK, swL, List.map_cons, List.map_nil, List.replicate_zero, List.replicate_succ, List.append_nil, List.nil_append, List.cons_append, List.getElem?_cons_zero, List.getElem?_cons_succ, List.set_cons_zero, List.set_cons_succ, List.length_cons, List.length_nil, List.head?_cons, Nat.reduceAdd, Nat.reduceLT, Nat.reduceLeDiff, Nat.reduceBEq, Nat.reduceEqDiff, Nat.succ_ne_zero, Nat.zero_lt_succ, Nat.le_refl, sc_rows, kc_lit, nc_lit, wlk_rows, uR_s, uR_uR, true_and, and_true, true_or, or_true, false_or, or_false, and_false, false_and, or_self, and_self, if_true, if_false, Bool.false_eq_true, Bool.or_false, Bool.or_true, Bool.false_or, Bool.true_or, not_true_eq_false, not_false_eq_true, forall_const, true_implies, false_implies, implies_true, reduceIte, reduceCtorEq, tbk hB, tbx hB]
  rw [e3] at hM2 hC2 e12
  have hk2 := hM2.2.2.2.2.1
  have e1 : I2 (B + 15) 0 = nI k2 := hC2.2.2.2.2.2.1.1.trans hM2.2.2.2.1
  refine run0 (n := 4) mok_46 ⟨rfl, rfl⟩ rfl ?_
  refine wk ((fn0_ok l)) ok_46 30 (fun pc => pc == 10) ?_
  simp only [fn0, kk_46, Option.toList_some, Option.toList_none, ex, catS, vC, isMk, sym, popN, goC, callOK, swL, List.map_cons, List.map_nil, List.replicate_zero, List.replicate_succ, List.append_nil, List.nil_append, List.cons_append, List.getElem?_cons_zero, List.getElem?_cons_succ, List.set_cons_zero, List.set_cons_succ, List.length_cons, List.length_nil, List.head?_cons, Nat.reduceAdd, Nat.reduceLT, Nat.reduceLeDiff, Nat.reduceBEq, Nat.reduceEqDiff, Nat.succ_ne_zero, Nat.zero_lt_succ, Nat.le_refl, sc_rows, kc_lit, nc_lit, wlk_rows, uR_s, uR_uR, true_and, and_true, true_or, or_true, false_or, or_false, and_false, false_and, or_self, and_self, if_true, if_false, Bool.false_eq_true, Bool.or_false, Bool.or_true, Bool.false_or, Bool.true_or, not_true_eq_false, not_false_eq_true, forall_const, true_implies, false_implies, implies_true, reduceIte, reduceCtorEq, qt hQ, tbk hB, tbx hB, e1]
  refine c_seats hB hQ hS s k2 0 (zM3 z) k2 m1 I2 hr hM2 (hM2.ln e12 hm1) hC2 (by omega) (fun I3 k3 m3 a b c f => ?_) none none
  refine wk ((fn0_ok l)) ok_43 30 (fun pc => false) ?_
  simp only [fn0, kk_43, Option.toList_some, Option.toList_none, ex, catS, vC, isMk, sym, popN, goC, callOK, swL, List.map_cons, List.map_nil, List.replicate_zero, List.replicate_succ, List.append_nil, List.nil_append, List.cons_append, List.getElem?_cons_zero, List.getElem?_cons_succ, List.set_cons_zero, List.set_cons_succ, List.length_cons, List.length_nil, List.head?_cons, Nat.reduceAdd, Nat.reduceLT, Nat.reduceLeDiff, Nat.reduceBEq, Nat.reduceEqDiff, Nat.succ_ne_zero, Nat.zero_lt_succ, Nat.le_refl, sc_rows, kc_lit, nc_lit, wlk_rows, uR_s, uR_uR, true_and, and_true, true_or, or_true, false_or, or_false, and_false, false_and, or_self, and_self, if_true, if_false, Bool.false_eq_true, Bool.or_false, Bool.or_true, Bool.false_or, Bool.true_or, not_true_eq_false, not_false_eq_true, forall_const, true_implies, false_implies, implies_true, reduceIte, reduceCtorEq]
  have ez : (zMin s z hr).1 = (seat s k2 (zM3 z) hr 0).1 := by
    simp only [zMin]
    rw [show ix (zM3 z 13) = k2 by rw [hM2.2.2.2.1]; exact ix_nI (by omega)]
  rw [ez] at h1
  exact h1 I3 k3 m3 a b c ((hF1.tr hF2).tr f)
end D1

