/-! p27: the law's act -/
theorem XZ.join {z : Nat → Int32} {n k N : Nat} {to : Int32} (h : XZ z n k N) (hM : MV z n k) (hk15 : k < 15) (hN : N ≤ 100) : XZ (zJoin z to) n (k + 1) (N + 1) := by
  obtain ⟨c, a, b, d, e⟩ := h
  exact ⟨c, a.join hM.2.2.2.1 hk15 (by omega), by omega, (d.join hM.2.2.2.1 hk15 to).mono (by omega), e.join a hM.2.2.2.1 hk15 (by omega) to⟩
theorem XZ.set {z : Nat → Int32} {n k N j : Nat} {v : Int32} (h : XZ z n k N) (hM : MV z n k) (hj : j < 5) : XZ (upd z j v) n k (N + 1) := by
  obtain ⟨c, a, b, d, e⟩ := h
  have o : ∀ q, q ≠ j → upd z j v q = z q := fun q hq => upd_n _ _ hq
  refine ⟨c, (a.same hM.2.2.2.2.1 (o 5 (by omega)) (o 14 (by omega)) (fun q x _ => o q (by omega)) (fun i hi => (a.1 i hi).same (o _ (by have := tp_ge i 1; omega)) (o _ (by have := tp_ge i 2; omega)))).mono (by omega), by omega, (d.set hj v).mono (by omega), e.set hM.2.2.2.2.1 hj v⟩
section LA
variable {l : Launch} {L : Nat} {I : Nat → Nat → Int32} {Q : Nat → Nat → Option Nat} {P : Option Value → PH → Prop} {τ : Nat → Nat → Nat} {b : Nat → Nat} {z : Nat → Int32} {w : Nat → Nat → Int32} {a n m k N : Nat}
theorem rem_nI {x d : Nat} (hx : x < 2147483648) (hd : 0 < d) (hd2 : d < 2147483648) : nI x - nI x / nI d * nI d = nI (x % d) := pk_rem (by omega) hd (by omega)
theorem div_nI {x d : Nat} (hx : x < 2147483648) (hd : 0 < d) (hd2 : d < 2147483648) : nI x / nI d = nI (x / d) := pk_div (by omega) hd (by omega)
set_option maxHeartbeats 1000000 in
set_option maxRecDepth 100000 in
theorem l_actJoin (h : CT I Q τ b z w a n m k) (hT : TXI I) (hX : XZ z n k N) (hN : N ≤ 100) {y : Nat} (hy : y < 2147483648) (h1 : AN L I Q τ b z w a n m k P) (h2 : AP L I τ z w a N P) (x1 x2 x4 x5 x6 x7 x8 x9 : Option Value) : Sy l 90 (149, 1788) 104 [some (.ref 0), x1, x2, some (.int (nI y)), x4, x5, x6, x7, x8, x9] [] (SC L, I, Q) P := by
  have hR := fR_ok (l := l) (L := L) h hT.1
  obtain ⟨hM, hL⟩ := h.2.1.2
  have hk := hM.2.2.2.2.1
  have hkz := hM.2.2.2.1
  have e21 : nI y - nI y / 21 * 21 = nI (y % 21) := rem_nI (d := 21) hy (by omega) (by omega)
  have hr : y % 21 < 21 := Nat.mod_lt _ (by omega)
  generalize y % 21 = r at e21 hr
  have pr := pl21 r hr
  refine wk2 hR ok_90 20 (fun pc => false) ?_
  simp only [kk_90, Option.toList_some, Option.toList_none, ex2, ex, catS, vC, isMk, sym2, popN, goC, callOK, swL, List.map_cons, List.map_nil, List.replicate_zero, List.replicate_succ, List.append_nil, List.nil_append, List.cons_append, List.getElem?_cons_zero, List.getElem?_cons_succ, List.set_cons_zero, List.set_cons_succ, List.length_cons, List.length_nil, List.head?_cons, Nat.reduceAdd, Nat.reduceLT, Nat.reduceLeDiff, Nat.reduceBEq, Nat.reduceEqDiff, Nat.succ_ne_zero, Nat.zero_lt_succ, Nat.le_refl, sc_rows, kc_lit, nc_lit, wlk_rows, uR_s, uR_uR, true_and, and_true, true_or, or_true, false_or, or_false, and_false, false_and, or_self, and_self, if_true, if_false, Bool.false_eq_true, Bool.or_false, Bool.or_true, Bool.false_or, Bool.true_or, not_true_eq_false, not_false_eq_true, forall_const, true_implies, false_implies, implies_true, ↓reduceIte, reduceCtorEq, fR, rd1, rd2, rd3, eq_self, ansCo_s, e21, nzL, k0 L]
  by_cases g : r = 10
  · have hw : whyJ z (nI r) = -2 := by unfold whyJ; rw [if_neg (fun q => q pr), if_pos (by rw [g]; rfl)]
    have e10 : (nI r = 10) = True := by rw [g]; decide
    refine m_arrive h (nI r) (fun _ J g1 q1 => ?_) (fun c => absurd c (by rw [hw]; decide))
    refine wk2 (fn0_ok l) ok_90 40 (fun pc => false) ?_
    simp only [kk_90, Option.toList_some, Option.toList_none, ex2, ex, catS, vC, isMk, sym2, popN, goC, callOK, swL, List.map_cons, List.map_nil, List.replicate_zero, List.replicate_succ, List.append_nil, List.nil_append, List.cons_append, List.getElem?_cons_zero, List.getElem?_cons_succ, List.set_cons_zero, List.set_cons_succ, List.length_cons, List.length_nil, List.head?_cons, Nat.reduceAdd, Nat.reduceLT, Nat.reduceLeDiff, Nat.reduceBEq, Nat.reduceEqDiff, Nat.succ_ne_zero, Nat.zero_lt_succ, Nat.le_refl, sc_rows, kc_lit, nc_lit, wlk_rows, uR_s, uR_uR, true_and, and_true, true_or, or_true, false_or, or_false, and_false, false_and, or_self, and_self, if_true, if_false, Bool.false_eq_true, Bool.or_false, Bool.or_true, Bool.false_or, Bool.true_or, not_true_eq_false, not_false_eq_true, forall_const, true_implies, false_implies, implies_true, ↓reduceIte, reduceCtorEq, fn0, eq_self, hw, e21, e10, cmpL, nzL, k0 L]
    exact h1 (-2) J (by decide) (by decide) g1 (FL.of q1)
  · have e10 : (nI r = 10) = False := eqF (b := 10) g (by omega) (by omega)
    have ne : nI r ≠ 10 := fun q => by rw [q] at e10; exact absurd rfl (by rw [e10]; exact not_false)
    by_cases g15 : k = 15
    · have hw : whyJ z (nI r) = -3 := by unfold whyJ; rw [if_neg (fun q => q pr), if_neg ne, hkz, g15, if_pos (by decide)]
      have e15 : (nI k = 15) = True := by rw [g15]; decide
      refine m_arrive h (nI r) (fun _ J g1 q1 => ?_) (fun c => absurd c (by rw [hw]; decide))
      refine wk2 (fn0_ok l) ok_90 40 (fun pc => false) ?_
      simp only [kk_90, Option.toList_some, Option.toList_none, ex2, ex, catS, vC, isMk, sym2, popN, goC, callOK, swL, List.map_cons, List.map_nil, List.replicate_zero, List.replicate_succ, List.append_nil, List.nil_append, List.cons_append, List.getElem?_cons_zero, List.getElem?_cons_succ, List.set_cons_zero, List.set_cons_succ, List.length_cons, List.length_nil, List.head?_cons, Nat.reduceAdd, Nat.reduceLT, Nat.reduceLeDiff, Nat.reduceBEq, Nat.reduceEqDiff, Nat.succ_ne_zero, Nat.zero_lt_succ, Nat.le_refl, sc_rows, kc_lit, nc_lit, wlk_rows, uR_s, uR_uR, true_and, and_true, true_or, or_true, false_or, or_false, and_false, false_and, or_self, and_self, if_true, if_false, Bool.false_eq_true, Bool.or_false, Bool.or_true, Bool.false_or, Bool.true_or, not_true_eq_false, not_false_eq_true, forall_const, true_implies, false_implies, implies_true, ↓reduceIte, reduceCtorEq, fn0, eq_self, hw, e21, e10, e15, cmpL, nzL, k0 L]
      exact h1 (-3) J (by decide) (by decide) g1 (FL.of q1)
    · have e15 : (nI k = 15) = False := eqF (b := 15) g15 (by omega) (by omega)
      have ne15 : ¬ z 13 = 15 := fun q => by rw [hkz] at q; rw [q] at e15; exact absurd rfl (by rw [e15]; exact not_false)
      have hw : whyJ z (nI r) = 0 := by unfold whyJ; rw [if_neg (fun q => q pr), if_neg ne, if_neg ne15]
      refine m_arrive h (nI r) (fun c => absurd c (by rw [hw]; decide)) (fun _ J Q2 b2' n2 m2 k2 g1 q1 => ?_)
      have hk15 : k < 15 := by omega
      have hM2 := hM.join hk15 ⟨pr, ne⟩
      have hL2 : Ln (zJoin z (nI r)) n m := hM2.ln (by rw [zJoin_o z _ (by omega)]; exact hL.2.2.1) hL.2.2.2.2.2.2.2
      obtain ⟨x1', x2', x3'⟩ := g1.nm hM2 hL2
      subst x1' x2' x3'
      have hR2 := fR_ok (l := l) (L := L) g1 (hT.fl (FL.of q1)).1
      obtain ⟨wa0, wa1⟩ := ansWa_j (z := zJoin z (nI r)) (show k < k + 1 by omega) (by omega)
      obtain ⟨j0, j1, -⟩ := zJoin_w z (nI r)
      rw [hkz, ix_nI (by omega)] at j0 j1
      rw [j0] at wa0
      rw [j1, zJoin_o z _ (by omega), Int32.sub_self] at wa1
      have k0' := nI_lt0 (show k + 1 < 2147483648 by omega)
      refine wk2 hR2 ok_90 60 (fun pc => false) ?_
      simp only [kk_90, Option.toList_some, Option.toList_none, ex2, ex, catS, vC, isMk, sym2, popN, goC, callOK, swL, List.map_cons, List.map_nil, List.replicate_zero, List.replicate_succ, List.append_nil, List.nil_append, List.cons_append, List.getElem?_cons_zero, List.getElem?_cons_succ, List.set_cons_zero, List.set_cons_succ, List.length_cons, List.length_nil, List.head?_cons, Nat.reduceAdd, Nat.reduceLT, Nat.reduceLeDiff, Nat.reduceBEq, Nat.reduceEqDiff, Nat.succ_ne_zero, Nat.zero_lt_succ, Nat.le_refl, sc_rows, kc_lit, nc_lit, wlk_rows, uR_s, uR_uR, true_and, and_true, true_or, or_true, false_or, or_false, and_false, false_and, or_self, and_self, if_true, if_false, Bool.false_eq_true, Bool.or_false, Bool.or_true, Bool.false_or, Bool.true_or, not_true_eq_false, not_false_eq_true, forall_const, true_implies, false_implies, implies_true, ↓reduceIte, reduceCtorEq, fR, rd1, rd2, rd3, eq_self, e21, e10, e15, wa0, wa1, k0', nI_up, cmpL, nzL, k0 L]
      exact h2 _ J Q2 τ b2' _ _ _ _ (nI_pos (by omega)) g1 (FL.of q1) (fun _ _ => rfl) (hX.join hM hk15 hN)
set_option maxHeartbeats 1000000 in
set_option maxRecDepth 100000 in
theorem l_actPass (h : CT I Q τ b z w a n m k) (hT : TXI I) (hX : XZ z n k N) (hN : N ≤ 100) {y hw : Nat} (hy : y < 2147483648) (hh : hw < 16) (hh2 : 14 ≤ hw) (h2 : AP L I τ z w a N P) (x1 x4 x5 x6 x7 x8 x9 : Option Value) : Sy l 90 (149, 1788) 361 [some (.ref 0), x1, some (.int (nI hw)), some (.int (nI y)), x4, x5, x6, x7, x8, x9] [] (SC L, I, Q) P := by
  have hR := fR_ok (l := l) (L := L) h hT.1
  obtain ⟨hM, hL⟩ := h.2.1.2
  obtain ⟨c, hE, hc, hW, hC⟩ := id hX
  have behind : ∀ i, 1 ≤ i → i ≤ 300 → Sy l 90 (149, 1788) 387 [some (.ref 0), x1, some (.int (nI hw)), some (.int (nI y)), x4, x5, some (.int (z 9)), x7, x8, x9] [.int (nI i)] (SC L, I, Q) P := by
    intro i hi1 hi2
    have hw : whyP z (nI i) = 0 := by
      unfold whyP
      rw [if_neg (fun q => q ⟨nI_le (a := 1) hi1 (by omega), nI_le (b := 999) (by omega) (by omega)⟩), hE.2.1, nI_add, if_neg]
      rw [show (99999 : Int32) = nI 99999 from rfl, nI_ltI (by omega) (by omega)]
      omega
    have nn := pass_nn hM hE.2.1 (by omega) hw
    refine wk2 (fn0_ok l) ok_90 10 (fun pc => false) ?_
    simp only [kk_90, Option.toList_some, Option.toList_none, ex2, ex, catS, vC, isMk, sym2, popN, goC, callOK, swL, List.map_cons, List.map_nil, List.replicate_zero, List.replicate_succ, List.append_nil, List.nil_append, List.cons_append, List.getElem?_cons_zero, List.getElem?_cons_succ, List.set_cons_zero, List.set_cons_succ, List.length_cons, List.length_nil, List.head?_cons, Nat.reduceAdd, Nat.reduceLT, Nat.reduceLeDiff, Nat.reduceBEq, Nat.reduceEqDiff, Nat.succ_ne_zero, Nat.zero_lt_succ, Nat.le_refl, sc_rows, kc_lit, nc_lit, wlk_rows, uR_s, uR_uR, true_and, and_true, true_or, or_true, false_or, or_false, and_false, false_and, or_self, and_self, if_true, if_false, Bool.false_eq_true, Bool.or_false, Bool.or_true, Bool.false_or, Bool.true_or, not_true_eq_false, not_false_eq_true, forall_const, true_implies, false_implies, implies_true, ↓reduceIte, reduceCtorEq, fn0, eq_self, k0 L]
    refine m_pass h (nI i) (fun _ => nn) (fun c => absurd c (by rw [hw]; decide)) (fun _ J Q2 b2' n2 m2 k2 g1 q1 => ?_)
    rw [ix_nI (by omega)] at g1 nn ⊢
    have hM2 := g1.2.1.2.1
    obtain ⟨⟨k3, hM3⟩, -⟩ := it_p hM i
    obtain ⟨m3, hL3⟩ := hM3.1
    obtain ⟨x1', x2', x3'⟩ := g1.nm hM3 hL3
    subst x1' x2' x3'
    have hR2 := fR_ok (l := l) (L := L) g1 (hT.fl (FL.of q1)).1
    refine wk2 hR2 ok_90 40 (fun pc => false) ?_
    simp only [kk_90, Option.toList_some, Option.toList_none, ex2, ex, catS, vC, isMk, sym2, popN, goC, callOK, swL, List.map_cons, List.map_nil, List.replicate_zero, List.replicate_succ, List.append_nil, List.nil_append, List.cons_append, List.getElem?_cons_zero, List.getElem?_cons_succ, List.set_cons_zero, List.set_cons_succ, List.length_cons, List.length_nil, List.head?_cons, Nat.reduceAdd, Nat.reduceLT, Nat.reduceLeDiff, Nat.reduceBEq, Nat.reduceEqDiff, Nat.succ_ne_zero, Nat.zero_lt_succ, Nat.le_refl, sc_rows, kc_lit, nc_lit, wlk_rows, uR_s, uR_uR, true_and, and_true, true_or, or_true, false_or, or_false, and_false, false_and, or_self, and_self, if_true, if_false, Bool.false_eq_true, Bool.or_false, Bool.or_true, Bool.false_or, Bool.true_or, not_true_eq_false, not_false_eq_true, forall_const, true_implies, false_implies, implies_true, ↓reduceIte, reduceCtorEq, fR, rd1, rd2, rd3, eq_self, ansCo_s, sub_back, eq_false nn, k0 L]
    exact h2 _ J Q2 τ b2' _ _ _ _ nn g1 (FL.of q1) (fun _ _ => rfl) (hX.pass hM hi2 hM3)
  by_cases g : hw = 14
  · have e14 : (nI hw = 14) = True := by rw [g]; decide
    have e20 : nI y - nI y / 20 * 20 = nI (y % 20) := rem_nI (d := 20) hy (by omega) (by omega)
    have ea : (1 : Int32) + nI (y % 20) = nI (1 + y % 20) := nI_add 1 _
    refine wk2 hR ok_90 40 (fun pc => pc == 387) ?_
    simp only [kk_90, Option.toList_some, Option.toList_none, ex2, ex, catS, vC, isMk, sym2, popN, goC, callOK, swL, List.map_cons, List.map_nil, List.replicate_zero, List.replicate_succ, List.append_nil, List.nil_append, List.cons_append, List.getElem?_cons_zero, List.getElem?_cons_succ, List.set_cons_zero, List.set_cons_succ, List.length_cons, List.length_nil, List.head?_cons, Nat.reduceAdd, Nat.reduceLT, Nat.reduceLeDiff, Nat.reduceBEq, Nat.reduceEqDiff, Nat.succ_ne_zero, Nat.zero_lt_succ, Nat.le_refl, sc_rows, kc_lit, nc_lit, wlk_rows, uR_s, uR_uR, true_and, and_true, true_or, or_true, false_or, or_false, and_false, false_and, or_self, and_self, if_true, if_false, Bool.false_eq_true, Bool.or_false, Bool.or_true, Bool.false_or, Bool.true_or, not_true_eq_false, not_false_eq_true, forall_const, true_implies, false_implies, implies_true, ↓reduceIte, reduceCtorEq, fR, rd1, rd2, rd3, eq_self, ansCo_s, e14, e20, ea, nzL, k0 L]
    exact behind (1 + y % 20) (by omega) (by omega)
  · have e14 : (nI hw = 14) = False := eqF (b := 14) g (by omega) (by omega)
    have e300 : nI y - nI y / 300 * 300 = nI (y % 300) := rem_nI (d := 300) hy (by omega) (by omega)
    have ea : (1 : Int32) + nI (y % 300) = nI (1 + y % 300) := nI_add 1 _
    refine wk2 hR ok_90 40 (fun pc => pc == 387) ?_
    simp only [kk_90, Option.toList_some, Option.toList_none, ex2, ex, catS, vC, isMk, sym2, popN, goC, callOK, swL, List.map_cons, List.map_nil, List.replicate_zero, List.replicate_succ, List.append_nil, List.nil_append, List.cons_append, List.getElem?_cons_zero, List.getElem?_cons_succ, List.set_cons_zero, List.set_cons_succ, List.length_cons, List.length_nil, List.head?_cons, Nat.reduceAdd, Nat.reduceLT, Nat.reduceLeDiff, Nat.reduceBEq, Nat.reduceEqDiff, Nat.succ_ne_zero, Nat.zero_lt_succ, Nat.le_refl, sc_rows, kc_lit, nc_lit, wlk_rows, uR_s, uR_uR, true_and, and_true, true_or, or_true, false_or, or_false, and_false, false_and, or_self, and_self, if_true, if_false, Bool.false_eq_true, Bool.or_false, Bool.or_true, Bool.false_or, Bool.true_or, not_true_eq_false, not_false_eq_true, forall_const, true_implies, false_implies, implies_true, ↓reduceIte, reduceCtorEq, fR, rd1, rd2, rd3, eq_self, ansCo_s, e14, e300, ea, nzL, k0 L]
    exact behind (1 + y % 300) (by omega) (by omega)
set_option maxHeartbeats 1000000 in
set_option maxRecDepth 100000 in
theorem l_actSet (h : CT I Q τ b z w a n m k) (hT : TXI I) (hX : XZ z n k N) {y : Nat} (hy : y < 2147483648) (h1 : AN L I Q τ b z w a n m k P) (h2 : AP L I τ z w a N P) (x1 x2 x4 x5 x6 x7 x8 x9 : Option Value) : Sy l 90 (149, 1788) 232 [some (.ref 0), x1, x2, some (.int (nI y)), x4, x5, x6, x7, x8, x9] [] (SC L, I, Q) P := by
  have hR := fR_ok (l := l) (L := L) h hT.1
  obtain ⟨hM, hL⟩ := h.2.1.2
  have hs := hM.2.2.1
  have e5 : nI y - nI y / 5 * 5 = nI (y % 5) := rem_nI (d := 5) hy (by omega) (by omega)
  have d5 : nI y / 5 = nI (y / 5) := div_nI (d := 5) hy (by omega) (by omega)
  have h5 : y % 5 < 5 := Nat.mod_lt _ (by omega)
  have hy5 : y / 5 < 2147483648 := by omega
  generalize y % 5 = r at e5 h5
  generalize y / 5 = u at d5 hy5
  rw [d5] at e5
  have m9 : nI u - nI u / 9 * 9 = nI (u % 9) := rem_nI (d := 9) hy5 (by omega) (by omega)
  have m20 : nI u - nI u / 20 * 20 = nI (u % 20) := rem_nI (d := 20) hy5 (by omega) (by omega)
  have m300 : nI u - nI u / 300 * 300 = nI (u % 300) := rem_nI (d := 300) hy5 (by omega) (by omega)
  have m100 : nI u - nI u / 100 * 100 = nI (u % 100) := rem_nI (d := 100) hy5 (by omega) (by omega)
  have co := ansCo_set z n m k a h5
  have behind : ∀ v : Int32, (loS r ≤ v ∧ v ≤ hiS r) → Sy l 90 (149, 1788) 308 [some (.ref 0), x1, x2, some (.int (nI y)), x4, x5, some (.int (nI r)), some (.int (z r)), x8, x9] [.int v] (SC L, I, Q) P := by
    intro v hv
    have ei : ix (nI r) = r := ix_nI (by omega)
    have p5 : 0 ≤ nI r ∧ nI r < 5 := ⟨nI_pos' (by omega), (nI_ltI (a := r) (b := 5) (by omega) (by omega)).mpr h5⟩
    have hw : whyS z (nI r) v = if z r = v then -5 else 0 := by unfold whyS; rw [ei, if_neg (fun q => q p5), if_neg (fun q => q hv)]
    refine wk2 (fn0_ok l) ok_90 10 (fun pc => false) ?_
    simp only [kk_90, Option.toList_some, Option.toList_none, ex2, ex, catS, vC, isMk, sym2, popN, goC, callOK, swL, List.map_cons, List.map_nil, List.replicate_zero, List.replicate_succ, List.append_nil, List.nil_append, List.cons_append, List.getElem?_cons_zero, List.getElem?_cons_succ, List.set_cons_zero, List.set_cons_succ, List.length_cons, List.length_nil, List.head?_cons, Nat.reduceAdd, Nat.reduceLT, Nat.reduceLeDiff, Nat.reduceBEq, Nat.reduceEqDiff, Nat.succ_ne_zero, Nat.zero_lt_succ, Nat.le_refl, sc_rows, kc_lit, nc_lit, wlk_rows, uR_s, uR_uR, true_and, and_true, true_or, or_true, false_or, or_false, and_false, false_and, or_self, and_self, if_true, if_false, Bool.false_eq_true, Bool.or_false, Bool.or_true, Bool.false_or, Bool.true_or, not_true_eq_false, not_false_eq_true, forall_const, true_implies, false_implies, implies_true, ↓reduceIte, reduceCtorEq, fn0, eq_self, k0 L]
    by_cases g : z r = v
    · rw [if_pos g] at hw
      refine m_set h (nI r) v hT.2.2 (fun _ J g1 q1 => ?_) (fun c => absurd c (by rw [hw]; decide))
      have hR2 := fR_ok (l := l) (L := L) g1 (hT.fl (FL.of q1)).1
      refine wk2 hR2 ok_90 40 (fun pc => false) ?_
      simp only [kk_90, Option.toList_some, Option.toList_none, ex2, ex, catS, vC, isMk, sym2, popN, goC, callOK, swL, List.map_cons, List.map_nil, List.replicate_zero, List.replicate_succ, List.append_nil, List.nil_append, List.cons_append, List.getElem?_cons_zero, List.getElem?_cons_succ, List.set_cons_zero, List.set_cons_succ, List.length_cons, List.length_nil, List.head?_cons, Nat.reduceAdd, Nat.reduceLT, Nat.reduceLeDiff, Nat.reduceBEq, Nat.reduceEqDiff, Nat.succ_ne_zero, Nat.zero_lt_succ, Nat.le_refl, sc_rows, kc_lit, nc_lit, wlk_rows, uR_s, uR_uR, true_and, and_true, true_or, or_true, false_or, or_false, and_false, false_and, or_self, and_self, if_true, if_false, Bool.false_eq_true, Bool.or_false, Bool.or_true, Bool.false_or, Bool.true_or, not_true_eq_false, not_false_eq_true, forall_const, true_implies, false_implies, implies_true, ↓reduceIte, reduceCtorEq, fR, rd1, rd2, rd3, eq_self, hw, co, g, cmpL, k0 L]
      exact h1 (-5) J (by decide) (by decide) g1 (FL.of q1)
    · rw [if_neg g] at hw
      refine m_set h (nI r) v hT.2.2 (fun c => absurd c (by rw [hw]; decide)) (fun _ J Q2 b2' n2 m2 k2 g1 q1 => ?_)
      rw [ei] at g1 ⊢
      have hM2 := hM.set h5 hv
      have hL2 : Ln (upd z r v) n m := hM2.ln (by rw [upd_n _ _ (by omega)]; exact hL.2.2.1) hL.2.2.2.2.2.2.2
      obtain ⟨x1', x2', x3'⟩ := g1.nm hM2 hL2
      subst x1' x2' x3'
      have hR2 := fR_ok (l := l) (L := L) g1 (hT.fl (FL.of q1)).1
      have co2 := ansCo_set (upd z r v) n2 m2 k2 (aSt a) h5
      refine wk2 hR2 ok_90 40 (fun pc => false) ?_
      simp only [kk_90, Option.toList_some, Option.toList_none, ex2, ex, catS, vC, isMk, sym2, popN, goC, callOK, swL, List.map_cons, List.map_nil, List.replicate_zero, List.replicate_succ, List.append_nil, List.nil_append, List.cons_append, List.getElem?_cons_zero, List.getElem?_cons_succ, List.set_cons_zero, List.set_cons_succ, List.length_cons, List.length_nil, List.head?_cons, Nat.reduceAdd, Nat.reduceLT, Nat.reduceLeDiff, Nat.reduceBEq, Nat.reduceEqDiff, Nat.succ_ne_zero, Nat.zero_lt_succ, Nat.le_refl, sc_rows, kc_lit, nc_lit, wlk_rows, uR_s, uR_uR, true_and, and_true, true_or, or_true, false_or, or_false, and_false, false_and, or_self, and_self, if_true, if_false, Bool.false_eq_true, Bool.or_false, Bool.or_true, Bool.false_or, Bool.true_or, not_true_eq_false, not_false_eq_true, forall_const, true_implies, false_implies, implies_true, ↓reduceIte, reduceCtorEq, fR, rd1, rd2, rd3, eq_self, co2, upd_e, eq_false g, k0 L]
      exact h2 _ J Q2 τ b2' _ _ _ _ (Int32.not_lt.mpr (hs.get h5)) g1 (FL.of q1) (fun _ _ => rfl) (hX.set hM h5)
  have a1 : ∀ q, (1 : Int32) + nI q = nI (1 + q) := fun q => nI_add 1 q
  have a30 : ∀ q, (30 : Int32) + nI q = nI (30 + q) := fun q => nI_add 30 q
  match r, h5 with
  | 0, _ =>
    have := behind (nI (1 + u % 9)) ⟨nI_le (a := 1) (by omega) (by omega), nI_le (b := 9) (by omega) (by omega)⟩
    refine wk2 hR ok_90 60 (fun pc => pc == 308) ?_
    simp only [kk_90, Option.toList_some, Option.toList_none, ex2, ex, catS, vC, isMk, sym2, popN, goC, callOK, swL, List.map_cons, List.map_nil, List.replicate_zero, List.replicate_succ, List.append_nil, List.nil_append, List.cons_append, List.getElem?_cons_zero, List.getElem?_cons_succ, List.set_cons_zero, List.set_cons_succ, List.length_cons, List.length_nil, List.head?_cons, Nat.reduceAdd, Nat.reduceLT, Nat.reduceLeDiff, Nat.reduceBEq, Nat.reduceEqDiff, Nat.succ_ne_zero, Nat.zero_lt_succ, Nat.le_refl, sc_rows, kc_lit, nc_lit, wlk_rows, uR_s, uR_uR, true_and, and_true, true_or, or_true, false_or, or_false, and_false, false_and, or_self, and_self, if_true, if_false, Bool.false_eq_true, Bool.or_false, Bool.or_true, Bool.false_or, Bool.true_or, not_true_eq_false, not_false_eq_true, forall_const, true_implies, false_implies, implies_true, ↓reduceIte, reduceCtorEq, fR, rd1, rd2, rd3, eq_self, e5, d5, m9, a1, co, show (nI 0 = 0) = True by decide, nzL, k0 L]
    exact this
  | 1, _ =>
    have := behind (nI (1 + u % 100)) ⟨nI_le (a := 1) (by omega) (by omega), nI_le (b := 240) (by omega) (by omega)⟩
    refine wk2 hR ok_90 60 (fun pc => pc == 308) ?_
    simp only [kk_90, Option.toList_some, Option.toList_none, ex2, ex, catS, vC, isMk, sym2, popN, goC, callOK, swL, List.map_cons, List.map_nil, List.replicate_zero, List.replicate_succ, List.append_nil, List.nil_append, List.cons_append, List.getElem?_cons_zero, List.getElem?_cons_succ, List.set_cons_zero, List.set_cons_succ, List.length_cons, List.length_nil, List.head?_cons, Nat.reduceAdd, Nat.reduceLT, Nat.reduceLeDiff, Nat.reduceBEq, Nat.reduceEqDiff, Nat.succ_ne_zero, Nat.zero_lt_succ, Nat.le_refl, sc_rows, kc_lit, nc_lit, wlk_rows, uR_s, uR_uR, true_and, and_true, true_or, or_true, false_or, or_false, and_false, false_and, or_self, and_self, if_true, if_false, Bool.false_eq_true, Bool.or_false, Bool.or_true, Bool.false_or, Bool.true_or, not_true_eq_false, not_false_eq_true, forall_const, true_implies, false_implies, implies_true, ↓reduceIte, reduceCtorEq, fR, rd1, rd2, rd3, eq_self, e5, d5, m100, a1, co, show (nI 1 = 0) = False by decide, show (nI 1 = 2) = False by decide, show (nI 1 = 3) = False by decide, nzL, k0 L]
    exact this
  | 2, _ =>
    have := behind (nI (1 + u % 20)) ⟨nI_le (a := 1) (by omega) (by omega), nI_le (b := 20) (by omega) (by omega)⟩
    refine wk2 hR ok_90 60 (fun pc => pc == 308) ?_
    simp only [kk_90, Option.toList_some, Option.toList_none, ex2, ex, catS, vC, isMk, sym2, popN, goC, callOK, swL, List.map_cons, List.map_nil, List.replicate_zero, List.replicate_succ, List.append_nil, List.nil_append, List.cons_append, List.getElem?_cons_zero, List.getElem?_cons_succ, List.set_cons_zero, List.set_cons_succ, List.length_cons, List.length_nil, List.head?_cons, Nat.reduceAdd, Nat.reduceLT, Nat.reduceLeDiff, Nat.reduceBEq, Nat.reduceEqDiff, Nat.succ_ne_zero, Nat.zero_lt_succ, Nat.le_refl, sc_rows, kc_lit, nc_lit, wlk_rows, uR_s, uR_uR, true_and, and_true, true_or, or_true, false_or, or_false, and_false, false_and, or_self, and_self, if_true, if_false, Bool.false_eq_true, Bool.or_false, Bool.or_true, Bool.false_or, Bool.true_or, not_true_eq_false, not_false_eq_true, forall_const, true_implies, false_implies, implies_true, ↓reduceIte, reduceCtorEq, fR, rd1, rd2, rd3, eq_self, e5, d5, m20, a1, co, show (nI 2 = 0) = False by decide, show (nI 2 = 2) = True by decide, nzL, k0 L]
    exact this
  | 3, _ =>
    have := behind (nI (30 + u % 300)) ⟨nI_le (a := 30) (by omega) (by omega), nI_le (b := 999) (by omega) (by omega)⟩
    refine wk2 hR ok_90 60 (fun pc => pc == 308) ?_
    simp only [kk_90, Option.toList_some, Option.toList_none, ex2, ex, catS, vC, isMk, sym2, popN, goC, callOK, swL, List.map_cons, List.map_nil, List.replicate_zero, List.replicate_succ, List.append_nil, List.nil_append, List.cons_append, List.getElem?_cons_zero, List.getElem?_cons_succ, List.set_cons_zero, List.set_cons_succ, List.length_cons, List.length_nil, List.head?_cons, Nat.reduceAdd, Nat.reduceLT, Nat.reduceLeDiff, Nat.reduceBEq, Nat.reduceEqDiff, Nat.succ_ne_zero, Nat.zero_lt_succ, Nat.le_refl, sc_rows, kc_lit, nc_lit, wlk_rows, uR_s, uR_uR, true_and, and_true, true_or, or_true, false_or, or_false, and_false, false_and, or_self, and_self, if_true, if_false, Bool.false_eq_true, Bool.or_false, Bool.or_true, Bool.false_or, Bool.true_or, not_true_eq_false, not_false_eq_true, forall_const, true_implies, false_implies, implies_true, ↓reduceIte, reduceCtorEq, fR, rd1, rd2, rd3, eq_self, e5, d5, m300, a30, co, show (nI 3 = 0) = False by decide, show (nI 3 = 2) = False by decide, show (nI 3 = 3) = True by decide, nzL, k0 L]
    exact this
  | 4, _ =>
    have := behind (nI (1 + u % 100)) ⟨nI_le (a := 1) (by omega) (by omega), nI_le (b := 240) (by omega) (by omega)⟩
    refine wk2 hR ok_90 60 (fun pc => pc == 308) ?_
    simp only [kk_90, Option.toList_some, Option.toList_none, ex2, ex, catS, vC, isMk, sym2, popN, goC, callOK, swL, List.map_cons, List.map_nil, List.replicate_zero, List.replicate_succ, List.append_nil, List.nil_append, List.cons_append, List.getElem?_cons_zero, List.getElem?_cons_succ, List.set_cons_zero, List.set_cons_succ, List.length_cons, List.length_nil, List.head?_cons, Nat.reduceAdd, Nat.reduceLT, Nat.reduceLeDiff, Nat.reduceBEq, Nat.reduceEqDiff, Nat.succ_ne_zero, Nat.zero_lt_succ, Nat.le_refl, sc_rows, kc_lit, nc_lit, wlk_rows, uR_s, uR_uR, true_and, and_true, true_or, or_true, false_or, or_false, and_false, false_and, or_self, and_self, if_true, if_false, Bool.false_eq_true, Bool.or_false, Bool.or_true, Bool.false_or, Bool.true_or, not_true_eq_false, not_false_eq_true, forall_const, true_implies, false_implies, implies_true, ↓reduceIte, reduceCtorEq, fR, rd1, rd2, rd3, eq_self, e5, d5, m100, a1, co, show (nI 4 = 0) = False by decide, show (nI 4 = 2) = False by decide, show (nI 4 = 3) = False by decide, nzL, k0 L]
    exact this
set_option maxHeartbeats 2000000 in
set_option maxRecDepth 100000 in
theorem l_act (h : CT I Q τ b z w a n m k) (hT : TXI I) (hX : XZ z n k N) (hN : N ≤ 100) {x : Nat} (hx : x < 2147483648) (h1 : AN L I Q τ b z w a n m k P) (h2 : AP L I τ z w a N P) : Runs l 90 [.ref 0, .int (nI x)] (SC L, I, Q) P := by
  have hR := fR_ok (l := l) (L := L) h hT.1
  obtain ⟨hM, hL⟩ := h.2.1.2
  have hn := hL.2.1
  obtain ⟨c, hE, hc, hW, hC⟩ := id hX
  have e16 : nI x - nI x / 16 * 16 = nI (x % 16) := rem_nI (d := 16) hx (by omega) (by omega)
  have d16 : nI x / 16 = nI (x / 16) := div_nI (d := 16) hx (by omega) (by omega)
  have hh : x % 16 < 16 := Nat.mod_lt _ (by omega)
  have hy : x / 16 < 2147483648 := by omega
  refine run0 (n := 8) mok_90 ⟨rfl, rfl⟩ rfl ?_
  generalize x % 16 = hw at e16 hh
  generalize x / 16 = y at d16 hy
  rw [d16] at e16
  have d4 : nI y / 4 = nI (y / 4) := div_nI (d := 4) hy (by omega) (by omega)
  have r4 : nI y - nI y / 4 * 4 = nI (y % 4) := rem_nI (d := 4) hy (by omega) (by omega)
  rw [d4] at r4
  have r1000 : nI (y / 4) - nI (y / 4) / 1000 * 1000 = nI (y / 4 % 1000) := rem_nI (d := 1000) (by omega) (by omega) (by omega)
  have d5 : nI y / 5 = nI (y / 5) := div_nI (d := 5) hy (by omega) (by omega)
  have r3 : nI (y / 5) - nI (y / 5) / 3 * 3 = nI (y / 5 % 3) := rem_nI (d := 3) (by omega) (by omega) (by omega)
  have d15 : nI y / 15 = nI (y / 15) := div_nI (d := 15) hy (by omega) (by omega)
  have q1000 : nI (y / 15) - nI (y / 15) / 1000 * 1000 = nI (y / 15 % 1000) := rem_nI (d := 1000) (by omega) (by omega) (by omega)
  have d21 : nI y / 21 = nI (y / 21) := div_nI (d := 21) hy (by omega) (by omega)
  have r21 : nI y - nI (y / 21) * 21 = nI (y % 21) := by rw [← d21]; exact rem_nI (d := 21) hy (by omega) (by omega)
  have q21 : nI (y / 21) - nI (y / 21) / 21 * 21 = nI (y / 21 % 21) := rem_nI (d := 21) (by omega) (by omega) (by omega)
  have okN : ∀ q, q % 1000 ≤ 999 := fun q => by have := Nat.mod_lt q (show 1000 > 0 by omega); omega
  have okP : ∀ q, q ≤ 999 → 0 ≤ nI q ∧ nI q ≤ 999 := fun q hq => ⟨nI_pos' (by omega), nI_le (b := 999) hq (by omega)⟩
  -- behind the choice of the plate
  have rest : ∀ p, (0 ≤ p ∧ p ≤ 999) → Sy l 90 (149, 1788) 48 [some (.ref 0), some (.int (nI x)), some (.int (nI hw)), some (.int (nI y)), some (.int (nI n)), none, none, none, none, none] [.int p] (SC L, I, Q) P := by
    intro p hp
    have come : Sy l 90 (149, 1788) 60 [some (.ref 0), some (.int (nI x)), some (.int (nI hw)), some (.int (nI y)), some (.int (nI n)), some (.int p), none, none, none, none] [] (SC L, I, Q) P := by
      have tail : ∀ q, (0 ≤ q ∧ q ≤ 999) → Sy l 90 (149, 1788) 82 [some (.ref 0), some (.int (nI x)), some (.int (nI hw)), some (.int (nI y)), some (.int (nI n)), some (.int p), none, none, none, none] [.int q, .ref 0] (SC L, I, Q) P := by
        intro q hq
        refine wk2 (fn0_ok l) ok_90 10 (fun pc => false) ?_
        simp only [kk_90, Option.toList_some, Option.toList_none, ex2, ex, catS, vC, isMk, sym2, popN, goC, callOK, swL, List.map_cons, List.map_nil, List.replicate_zero, List.replicate_succ, List.append_nil, List.nil_append, List.cons_append, List.getElem?_cons_zero, List.getElem?_cons_succ, List.set_cons_zero, List.set_cons_succ, List.length_cons, List.length_nil, List.head?_cons, Nat.reduceAdd, Nat.reduceLT, Nat.reduceLeDiff, Nat.reduceBEq, Nat.reduceEqDiff, Nat.succ_ne_zero, Nat.zero_lt_succ, Nat.le_refl, sc_rows, kc_lit, nc_lit, wlk_rows, uR_s, uR_uR, true_and, and_true, true_or, or_true, false_or, or_false, and_false, false_and, or_self, and_self, if_true, if_false, Bool.false_eq_true, Bool.or_false, Bool.or_true, Bool.false_or, Bool.true_or, not_true_eq_false, not_false_eq_true, forall_const, true_implies, false_implies, implies_true, ↓reduceIte, reduceCtorEq, fn0, eq_self, k0 L]
        refine l_come h hT hX hq (fun v J a1 a2 a3 a4 => ?_) (fun v J Q2 τ2 b2' z2 n2 m2 k2 a1 a2 a3 a4 a5 => ?_)
        · refine wk2 (fn0_ok l) ok_90 10 (fun pc => false) ?_
          simp only [kk_90, Option.toList_some, Option.toList_none, ex2, ex, catS, vC, isMk, sym2, popN, goC, callOK, swL, List.map_cons, List.map_nil, List.replicate_zero, List.replicate_succ, List.append_nil, List.nil_append, List.cons_append, List.getElem?_cons_zero, List.getElem?_cons_succ, List.set_cons_zero, List.set_cons_succ, List.length_cons, List.length_nil, List.head?_cons, Nat.reduceAdd, Nat.reduceLT, Nat.reduceLeDiff, Nat.reduceBEq, Nat.reduceEqDiff, Nat.succ_ne_zero, Nat.zero_lt_succ, Nat.le_refl, sc_rows, kc_lit, nc_lit, wlk_rows, uR_s, uR_uR, true_and, and_true, true_or, or_true, false_or, or_false, and_false, false_and, or_self, and_self, if_true, if_false, Bool.false_eq_true, Bool.or_false, Bool.or_true, Bool.false_or, Bool.true_or, not_true_eq_false, not_false_eq_true, forall_const, true_implies, false_implies, implies_true, ↓reduceIte, reduceCtorEq, fn0, eq_self, k0 L]
          exact h1 v J a1 a2 a3 a4
        · refine wk2 (fn0_ok l) ok_90 10 (fun pc => false) ?_
          simp only [kk_90, Option.toList_some, Option.toList_none, ex2, ex, catS, vC, isMk, sym2, popN, goC, callOK, swL, List.map_cons, List.map_nil, List.replicate_zero, List.replicate_succ, List.append_nil, List.nil_append, List.cons_append, List.getElem?_cons_zero, List.getElem?_cons_succ, List.set_cons_zero, List.set_cons_succ, List.length_cons, List.length_nil, List.head?_cons, Nat.reduceAdd, Nat.reduceLT, Nat.reduceLeDiff, Nat.reduceBEq, Nat.reduceEqDiff, Nat.succ_ne_zero, Nat.zero_lt_succ, Nat.le_refl, sc_rows, kc_lit, nc_lit, wlk_rows, uR_s, uR_uR, true_and, and_true, true_or, or_true, false_or, or_false, and_false, false_and, or_self, and_self, if_true, if_false, Bool.false_eq_true, Bool.or_false, Bool.or_true, Bool.false_or, Bool.true_or, not_true_eq_false, not_false_eq_true, forall_const, true_implies, false_implies, implies_true, ↓reduceIte, reduceCtorEq, fn0, eq_self, k0 L]
          exact h2 v J Q2 τ2 b2' z2 n2 m2 k2 a1 a2 a3 a4 a5
      by_cases g : y / 5 % 3 = 0
      · have e0 : (nI (y / 5 % 3) = 0) = True := by rw [g]; decide
        refine wk2 (fn0_ok l) ok_90 20 (fun pc => pc == 82) ?_
        simp only [kk_90, Option.toList_some, Option.toList_none, ex2, ex, catS, vC, isMk, sym2, popN, goC, callOK, swL, List.map_cons, List.map_nil, List.replicate_zero, List.replicate_succ, List.append_nil, List.nil_append, List.cons_append, List.getElem?_cons_zero, List.getElem?_cons_succ, List.set_cons_zero, List.set_cons_succ, List.length_cons, List.length_nil, List.head?_cons, Nat.reduceAdd, Nat.reduceLT, Nat.reduceLeDiff, Nat.reduceBEq, Nat.reduceEqDiff, Nat.succ_ne_zero, Nat.zero_lt_succ, Nat.le_refl, sc_rows, kc_lit, nc_lit, wlk_rows, uR_s, uR_uR, true_and, and_true, true_or, or_true, false_or, or_false, and_false, false_and, or_self, and_self, if_true, if_false, Bool.false_eq_true, Bool.or_false, Bool.or_true, Bool.false_or, Bool.true_or, not_true_eq_false, not_false_eq_true, forall_const, true_implies, false_implies, implies_true, ↓reduceIte, reduceCtorEq, fn0, eq_self, d5, r3, e0, nzL, k0 L]
        exact tail p hp
      · have e0 := nI_0F g (show y / 5 % 3 < 2147483648 by omega)
        refine wk2 (fn0_ok l) ok_90 20 (fun pc => pc == 82) ?_
        simp only [kk_90, Option.toList_some, Option.toList_none, ex2, ex, catS, vC, isMk, sym2, popN, goC, callOK, swL, List.map_cons, List.map_nil, List.replicate_zero, List.replicate_succ, List.append_nil, List.nil_append, List.cons_append, List.getElem?_cons_zero, List.getElem?_cons_succ, List.set_cons_zero, List.set_cons_succ, List.length_cons, List.length_nil, List.head?_cons, Nat.reduceAdd, Nat.reduceLT, Nat.reduceLeDiff, Nat.reduceBEq, Nat.reduceEqDiff, Nat.succ_ne_zero, Nat.zero_lt_succ, Nat.le_refl, sc_rows, kc_lit, nc_lit, wlk_rows, uR_s, uR_uR, true_and, and_true, true_or, or_true, false_or, or_false, and_false, false_and, or_self, and_self, if_true, if_false, Bool.false_eq_true, Bool.or_false, Bool.or_true, Bool.false_or, Bool.true_or, not_true_eq_false, not_false_eq_true, forall_const, true_implies, false_implies, implies_true, ↓reduceIte, reduceCtorEq, fn0, eq_self, d5, r3, e0, d15, q1000, nzL, k0 L]
        exact tail _ (okP _ (okN _))
    by_cases g2 : hw < 2
    · have e2 : (nI hw < 2) = True := ltT (b := 2) g2 (by omega)
      refine wk2 (fn0_ok l) ok_90 10 (fun pc => pc == 60) ?_
      simp only [kk_90, Option.toList_some, Option.toList_none, ex2, ex, catS, vC, isMk, sym2, popN, goC, callOK, swL, List.map_cons, List.map_nil, List.replicate_zero, List.replicate_succ, List.append_nil, List.nil_append, List.cons_append, List.getElem?_cons_zero, List.getElem?_cons_succ, List.set_cons_zero, List.set_cons_succ, List.length_cons, List.length_nil, List.head?_cons, Nat.reduceAdd, Nat.reduceLT, Nat.reduceLeDiff, Nat.reduceBEq, Nat.reduceEqDiff, Nat.succ_ne_zero, Nat.zero_lt_succ, Nat.le_refl, sc_rows, kc_lit, nc_lit, wlk_rows, uR_s, uR_uR, true_and, and_true, true_or, or_true, false_or, or_false, and_false, false_and, or_self, and_self, if_true, if_false, Bool.false_eq_true, Bool.or_false, Bool.or_true, Bool.false_or, Bool.true_or, not_true_eq_false, not_false_eq_true, forall_const, true_implies, false_implies, implies_true, ↓reduceIte, reduceCtorEq, fn0, eq_self, e2, k0 L]
      exact come
    · have e2 : (nI hw < 2) = False := ltF (b := 2) (by omega) (by omega)
      by_cases gn : n = 0
      · have en : (nI n = 0) = True := by rw [gn]; decide
        refine wk2 (fn0_ok l) ok_90 10 (fun pc => pc == 60) ?_
        simp only [kk_90, Option.toList_some, Option.toList_none, ex2, ex, catS, vC, isMk, sym2, popN, goC, callOK, swL, List.map_cons, List.map_nil, List.replicate_zero, List.replicate_succ, List.append_nil, List.nil_append, List.cons_append, List.getElem?_cons_zero, List.getElem?_cons_succ, List.set_cons_zero, List.set_cons_succ, List.length_cons, List.length_nil, List.head?_cons, Nat.reduceAdd, Nat.reduceLT, Nat.reduceLeDiff, Nat.reduceBEq, Nat.reduceEqDiff, Nat.succ_ne_zero, Nat.zero_lt_succ, Nat.le_refl, sc_rows, kc_lit, nc_lit, wlk_rows, uR_s, uR_uR, true_and, and_true, true_or, or_true, false_or, or_false, and_false, false_and, or_self, and_self, if_true, if_false, Bool.false_eq_true, Bool.or_false, Bool.or_true, Bool.false_or, Bool.true_or, not_true_eq_false, not_false_eq_true, forall_const, true_implies, false_implies, implies_true, ↓reduceIte, reduceCtorEq, fn0, eq_self, e2, en, k0 L]
        exact come
      · have en := nI_0F gn (show n < 2147483648 by omega)
        by_cases g3 : hw = 2
        · have e3 : (nI hw = 2) = True := by rw [g3]; decide
          refine wk2 (fn0_ok l) ok_90 20 (fun pc => pc == 60) ?_
          simp only [kk_90, Option.toList_some, Option.toList_none, ex2, ex, catS, vC, isMk, sym2, popN, goC, callOK, swL, List.map_cons, List.map_nil, List.replicate_zero, List.replicate_succ, List.append_nil, List.nil_append, List.cons_append, List.getElem?_cons_zero, List.getElem?_cons_succ, List.set_cons_zero, List.set_cons_succ, List.length_cons, List.length_nil, List.head?_cons, Nat.reduceAdd, Nat.reduceLT, Nat.reduceLeDiff, Nat.reduceBEq, Nat.reduceEqDiff, Nat.succ_ne_zero, Nat.zero_lt_succ, Nat.le_refl, sc_rows, kc_lit, nc_lit, wlk_rows, uR_s, uR_uR, true_and, and_true, true_or, or_true, false_or, or_false, and_false, false_and, or_self, and_self, if_true, if_false, Bool.false_eq_true, Bool.or_false, Bool.or_true, Bool.false_or, Bool.true_or, not_true_eq_false, not_false_eq_true, forall_const, true_implies, false_implies, implies_true, ↓reduceIte, reduceCtorEq, fn0, eq_self, e2, en, e3, k0 L]
          refine l_goHome h hT hX p (fun v J a1 a2 a3 a4 => ?_) (fun v J Q2 τ2 b2' z2 n2 m2 k2 a1 a2 a3 a4 a5 => ?_)
          · refine wk2 (fn0_ok l) ok_90 10 (fun pc => false) ?_
            simp only [kk_90, Option.toList_some, Option.toList_none, ex2, ex, catS, vC, isMk, sym2, popN, goC, callOK, swL, List.map_cons, List.map_nil, List.replicate_zero, List.replicate_succ, List.append_nil, List.nil_append, List.cons_append, List.getElem?_cons_zero, List.getElem?_cons_succ, List.set_cons_zero, List.set_cons_succ, List.length_cons, List.length_nil, List.head?_cons, Nat.reduceAdd, Nat.reduceLT, Nat.reduceLeDiff, Nat.reduceBEq, Nat.reduceEqDiff, Nat.succ_ne_zero, Nat.zero_lt_succ, Nat.le_refl, sc_rows, kc_lit, nc_lit, wlk_rows, uR_s, uR_uR, true_and, and_true, true_or, or_true, false_or, or_false, and_false, false_and, or_self, and_self, if_true, if_false, Bool.false_eq_true, Bool.or_false, Bool.or_true, Bool.false_or, Bool.true_or, not_true_eq_false, not_false_eq_true, forall_const, true_implies, false_implies, implies_true, ↓reduceIte, reduceCtorEq, fn0, eq_self, k0 L]
            exact h1 v J a1 a2 a3 a4
          · refine wk2 (fn0_ok l) ok_90 10 (fun pc => false) ?_
            simp only [kk_90, Option.toList_some, Option.toList_none, ex2, ex, catS, vC, isMk, sym2, popN, goC, callOK, swL, List.map_cons, List.map_nil, List.replicate_zero, List.replicate_succ, List.append_nil, List.nil_append, List.cons_append, List.getElem?_cons_zero, List.getElem?_cons_succ, List.set_cons_zero, List.set_cons_succ, List.length_cons, List.length_nil, List.head?_cons, Nat.reduceAdd, Nat.reduceLT, Nat.reduceLeDiff, Nat.reduceBEq, Nat.reduceEqDiff, Nat.succ_ne_zero, Nat.zero_lt_succ, Nat.le_refl, sc_rows, kc_lit, nc_lit, wlk_rows, uR_s, uR_uR, true_and, and_true, true_or, or_true, false_or, or_false, and_false, false_and, or_self, and_self, if_true, if_false, Bool.false_eq_true, Bool.or_false, Bool.or_true, Bool.false_or, Bool.true_or, not_true_eq_false, not_false_eq_true, forall_const, true_implies, false_implies, implies_true, ↓reduceIte, reduceCtorEq, fn0, eq_self, k0 L]
            exact h2 v J Q2 τ2 b2' z2 n2 m2 k2 a1 a2 a3 a4 a5
        · have e3 : (nI hw = 2) = False := eqF (b := 2) g3 (by omega) (by omega)
          by_cases g6 : hw < 6
          · have e6 : (6 ≤ nI hw) = False := leF (a := 6) g6 (by omega)
            have := l_actJoin (l := l) h hT hX hN hy h1 h2 (some (.int (nI x))) (some (.int (nI hw))) (some (.int (nI n))) (some (.int p)) none none none none
            refine wk2 (fn0_ok l) ok_90 20 (fun pc => pc == 60 || pc == 104) ?_
            simp only [kk_90, Option.toList_some, Option.toList_none, ex2, ex, catS, vC, isMk, sym2, popN, goC, callOK, swL, List.map_cons, List.map_nil, List.replicate_zero, List.replicate_succ, List.append_nil, List.nil_append, List.cons_append, List.getElem?_cons_zero, List.getElem?_cons_succ, List.set_cons_zero, List.set_cons_succ, List.length_cons, List.length_nil, List.head?_cons, Nat.reduceAdd, Nat.reduceLT, Nat.reduceLeDiff, Nat.reduceBEq, Nat.reduceEqDiff, Nat.succ_ne_zero, Nat.zero_lt_succ, Nat.le_refl, sc_rows, kc_lit, nc_lit, wlk_rows, uR_s, uR_uR, true_and, and_true, true_or, or_true, false_or, or_false, and_false, false_and, or_self, and_self, if_true, if_false, Bool.false_eq_true, Bool.or_false, Bool.or_true, Bool.false_or, Bool.true_or, not_true_eq_false, not_false_eq_true, forall_const, true_implies, false_implies, implies_true, ↓reduceIte, reduceCtorEq, fn0, eq_self, e2, en, e3, e6, k0 L]
            exact this
          · have e6 : (6 ≤ nI hw) = True := leT (a := 6) (by omega) (by omega)
            by_cases g8 : hw < 8
            · have e8 : (8 ≤ nI hw) = False := leF (a := 8) g8 (by omega)
              refine wk2 (fn0_ok l) ok_90 30 (fun pc => pc == 60 || pc == 104) ?_
              simp only [kk_90, Option.toList_some, Option.toList_none, ex2, ex, catS, vC, isMk, sym2, popN, goC, callOK, swL, List.map_cons, List.map_nil, List.replicate_zero, List.replicate_succ, List.append_nil, List.nil_append, List.cons_append, List.getElem?_cons_zero, List.getElem?_cons_succ, List.set_cons_zero, List.set_cons_succ, List.length_cons, List.length_nil, List.head?_cons, Nat.reduceAdd, Nat.reduceLT, Nat.reduceLeDiff, Nat.reduceBEq, Nat.reduceEqDiff, Nat.succ_ne_zero, Nat.zero_lt_succ, Nat.le_refl, sc_rows, kc_lit, nc_lit, wlk_rows, uR_s, uR_uR, true_and, and_true, true_or, or_true, false_or, or_false, and_false, false_and, or_self, and_self, if_true, if_false, Bool.false_eq_true, Bool.or_false, Bool.or_true, Bool.false_or, Bool.true_or, not_true_eq_false, not_false_eq_true, forall_const, true_implies, false_implies, implies_true, ↓reduceIte, reduceCtorEq, fn0, eq_self, e2, en, e3, e6, e8, d21, r21, q21, nzL, k0 L]
              refine l_call h hT hX (show y % 21 < 21 by omega) (show y / 21 % 21 < 21 by omega) (fun v J a1 a2 a3 a4 => ?_) (fun v J Q2 τ2 b2' z2 n2 m2 k2 a1 a2 a3 a4 a5 => ?_)
              · refine wk2 (fn0_ok l) ok_90 10 (fun pc => false) ?_
                simp only [kk_90, Option.toList_some, Option.toList_none, ex2, ex, catS, vC, isMk, sym2, popN, goC, callOK, swL, List.map_cons, List.map_nil, List.replicate_zero, List.replicate_succ, List.append_nil, List.nil_append, List.cons_append, List.getElem?_cons_zero, List.getElem?_cons_succ, List.set_cons_zero, List.set_cons_succ, List.length_cons, List.length_nil, List.head?_cons, Nat.reduceAdd, Nat.reduceLT, Nat.reduceLeDiff, Nat.reduceBEq, Nat.reduceEqDiff, Nat.succ_ne_zero, Nat.zero_lt_succ, Nat.le_refl, sc_rows, kc_lit, nc_lit, wlk_rows, uR_s, uR_uR, true_and, and_true, true_or, or_true, false_or, or_false, and_false, false_and, or_self, and_self, if_true, if_false, Bool.false_eq_true, Bool.or_false, Bool.or_true, Bool.false_or, Bool.true_or, not_true_eq_false, not_false_eq_true, forall_const, true_implies, false_implies, implies_true, ↓reduceIte, reduceCtorEq, fn0, eq_self, k0 L]
                exact h1 v J a1 a2 a3 a4
              · refine wk2 (fn0_ok l) ok_90 10 (fun pc => false) ?_
                simp only [kk_90, Option.toList_some, Option.toList_none, ex2, ex, catS, vC, isMk, sym2, popN, goC, callOK, swL, List.map_cons, List.map_nil, List.replicate_zero, List.replicate_succ, List.append_nil, List.nil_append, List.cons_append, List.getElem?_cons_zero, List.getElem?_cons_succ, List.set_cons_zero, List.set_cons_succ, List.length_cons, List.length_nil, List.head?_cons, Nat.reduceAdd, Nat.reduceLT, Nat.reduceLeDiff, Nat.reduceBEq, Nat.reduceEqDiff, Nat.succ_ne_zero, Nat.zero_lt_succ, Nat.le_refl, sc_rows, kc_lit, nc_lit, wlk_rows, uR_s, uR_uR, true_and, and_true, true_or, or_true, false_or, or_false, and_false, false_and, or_self, and_self, if_true, if_false, Bool.false_eq_true, Bool.or_false, Bool.or_true, Bool.false_or, Bool.true_or, not_true_eq_false, not_false_eq_true, forall_const, true_implies, false_implies, implies_true, ↓reduceIte, reduceCtorEq, fn0, eq_self, k0 L]
                exact h2 v J Q2 τ2 b2' z2 n2 m2 k2 a1 a2 a3 a4 a5
            · have e8 : (8 ≤ nI hw) = True := leT (a := 8) (by omega) (by omega)
              by_cases g13 : hw < 13
              · have e13 : (13 ≤ nI hw) = False := leF (a := 13) g13 (by omega)
                refine wk2 (fn0_ok l) ok_90 30 (fun pc => pc == 60 || pc == 104) ?_
                simp only [kk_90, Option.toList_some, Option.toList_none, ex2, ex, catS, vC, isMk, sym2, popN, goC, callOK, swL, List.map_cons, List.map_nil, List.replicate_zero, List.replicate_succ, List.append_nil, List.nil_append, List.cons_append, List.getElem?_cons_zero, List.getElem?_cons_succ, List.set_cons_zero, List.set_cons_succ, List.length_cons, List.length_nil, List.head?_cons, Nat.reduceAdd, Nat.reduceLT, Nat.reduceLeDiff, Nat.reduceBEq, Nat.reduceEqDiff, Nat.succ_ne_zero, Nat.zero_lt_succ, Nat.le_refl, sc_rows, kc_lit, nc_lit, wlk_rows, uR_s, uR_uR, true_and, and_true, true_or, or_true, false_or, or_false, and_false, false_and, or_self, and_self, if_true, if_false, Bool.false_eq_true, Bool.or_false, Bool.or_true, Bool.false_or, Bool.true_or, not_true_eq_false, not_false_eq_true, forall_const, true_implies, false_implies, implies_true, ↓reduceIte, reduceCtorEq, fn0, eq_self, e2, en, e3, e6, e8, e13, k0 L]
                refine l_minute h hT hX hN (fun v J Q2 τ2 b2' z2 n2 m2 k2 a1 a2 a3 a4 a5 => ?_)
                refine wk2 (fn0_ok l) ok_90 10 (fun pc => false) ?_
                simp only [kk_90, Option.toList_some, Option.toList_none, ex2, ex, catS, vC, isMk, sym2, popN, goC, callOK, swL, List.map_cons, List.map_nil, List.replicate_zero, List.replicate_succ, List.append_nil, List.nil_append, List.cons_append, List.getElem?_cons_zero, List.getElem?_cons_succ, List.set_cons_zero, List.set_cons_succ, List.length_cons, List.length_nil, List.head?_cons, Nat.reduceAdd, Nat.reduceLT, Nat.reduceLeDiff, Nat.reduceBEq, Nat.reduceEqDiff, Nat.succ_ne_zero, Nat.zero_lt_succ, Nat.le_refl, sc_rows, kc_lit, nc_lit, wlk_rows, uR_s, uR_uR, true_and, and_true, true_or, or_true, false_or, or_false, and_false, false_and, or_self, and_self, if_true, if_false, Bool.false_eq_true, Bool.or_false, Bool.or_true, Bool.false_or, Bool.true_or, not_true_eq_false, not_false_eq_true, forall_const, true_implies, false_implies, implies_true, ↓reduceIte, reduceCtorEq, fn0, eq_self, k0 L]
                exact h2 v J Q2 τ2 b2' z2 n2 m2 k2 a1 a2 a3 a4 a5
              · have e13 : (13 ≤ nI hw) = True := leT (a := 13) (by omega) (by omega)
                by_cases gq : hw = 13
                · have eq13 : (nI hw = 13) = True := by rw [gq]; decide
                  have := l_actSet (l := l) h hT hX hy h1 h2 (some (.int (nI x))) (some (.int (nI hw))) (some (.int (nI n))) (some (.int p)) none none none none
                  refine wk2 (fn0_ok l) ok_90 30 (fun pc => pc == 60 || pc == 104 || pc == 232) ?_
                  simp only [kk_90, Option.toList_some, Option.toList_none, ex2, ex, catS, vC, isMk, sym2, popN, goC, callOK, swL, List.map_cons, List.map_nil, List.replicate_zero, List.replicate_succ, List.append_nil, List.nil_append, List.cons_append, List.getElem?_cons_zero, List.getElem?_cons_succ, List.set_cons_zero, List.set_cons_succ, List.length_cons, List.length_nil, List.head?_cons, Nat.reduceAdd, Nat.reduceLT, Nat.reduceLeDiff, Nat.reduceBEq, Nat.reduceEqDiff, Nat.succ_ne_zero, Nat.zero_lt_succ, Nat.le_refl, sc_rows, kc_lit, nc_lit, wlk_rows, uR_s, uR_uR, true_and, and_true, true_or, or_true, false_or, or_false, and_false, false_and, or_self, and_self, if_true, if_false, Bool.false_eq_true, Bool.or_false, Bool.or_true, Bool.false_or, Bool.true_or, not_true_eq_false, not_false_eq_true, forall_const, true_implies, false_implies, implies_true, ↓reduceIte, reduceCtorEq, fn0, eq_self, e2, en, e3, e6, e8, e13, eq13, k0 L]
                  exact this
                · have eq13 : (nI hw = 13) = False := eqF (b := 13) gq (by omega) (by omega)
                  have := l_actPass (l := l) h hT hX hN hy hh (by omega) h2 (some (.int (nI x))) (some (.int (nI n))) (some (.int p)) none none none none
                  refine wk2 (fn0_ok l) ok_90 30 (fun pc => pc == 60 || pc == 104 || pc == 361) ?_
                  simp only [kk_90, Option.toList_some, Option.toList_none, ex2, ex, catS, vC, isMk, sym2, popN, goC, callOK, swL, List.map_cons, List.map_nil, List.replicate_zero, List.replicate_succ, List.append_nil, List.nil_append, List.cons_append, List.getElem?_cons_zero, List.getElem?_cons_succ, List.set_cons_zero, List.set_cons_succ, List.length_cons, List.length_nil, List.head?_cons, Nat.reduceAdd, Nat.reduceLT, Nat.reduceLeDiff, Nat.reduceBEq, Nat.reduceEqDiff, Nat.succ_ne_zero, Nat.zero_lt_succ, Nat.le_refl, sc_rows, kc_lit, nc_lit, wlk_rows, uR_s, uR_uR, true_and, and_true, true_or, or_true, false_or, or_false, and_false, false_and, or_self, and_self, if_true, if_false, Bool.false_eq_true, Bool.or_false, Bool.or_true, Bool.false_or, Bool.true_or, not_true_eq_false, not_false_eq_true, forall_const, true_implies, false_implies, implies_true, ↓reduceIte, reduceCtorEq, fn0, eq_self, e2, en, e3, e6, e8, e13, eq13, k0 L]
                  exact this
  by_cases gn : n = 0
  · have en : (nI n ≤ 0) = True := by rw [gn]; decide
    refine wk2 hR ok_90 40 (fun pc => pc == 48) ?_
    simp only [kk_90, Option.toList_some, Option.toList_none, ex2, ex, catS, vC, isMk, sym2, popN, goC, callOK, swL, List.map_cons, List.map_nil, List.replicate_zero, List.replicate_succ, List.append_nil, List.nil_append, List.cons_append, List.getElem?_cons_zero, List.getElem?_cons_succ, List.set_cons_zero, List.set_cons_succ, List.length_cons, List.length_nil, List.head?_cons, Nat.reduceAdd, Nat.reduceLT, Nat.reduceLeDiff, Nat.reduceBEq, Nat.reduceEqDiff, Nat.succ_ne_zero, Nat.zero_lt_succ, Nat.le_refl, sc_rows, kc_lit, nc_lit, wlk_rows, uR_s, uR_uR, true_and, and_true, true_or, or_true, false_or, or_false, and_false, false_and, or_self, and_self, if_true, if_false, Bool.false_eq_true, Bool.or_false, Bool.or_true, Bool.false_or, Bool.true_or, not_true_eq_false, not_false_eq_true, forall_const, true_implies, false_implies, implies_true, ↓reduceIte, reduceCtorEq, fR, rd1, rd2, rd3, eq_self, e16, d16, ansCo_s, en, d4, r1000, nzL, k0 L]
    exact rest _ (okP _ (okN _))
  · have en : (nI n ≤ 0) = False := leF (b := 0) (by omega) (by omega)
    have en0 := nI_0F gn (show n < 2147483648 by omega)
    by_cases g4 : y % 4 = 0
    · have e4 : (nI (y % 4) ≤ 0) = True := by rw [g4]; decide
      refine wk2 hR ok_90 40 (fun pc => pc == 48) ?_
      simp only [kk_90, Option.toList_some, Option.toList_none, ex2, ex, catS, vC, isMk, sym2, popN, goC, callOK, swL, List.map_cons, List.map_nil, List.replicate_zero, List.replicate_succ, List.append_nil, List.nil_append, List.cons_append, List.getElem?_cons_zero, List.getElem?_cons_succ, List.set_cons_zero, List.set_cons_succ, List.length_cons, List.length_nil, List.head?_cons, Nat.reduceAdd, Nat.reduceLT, Nat.reduceLeDiff, Nat.reduceBEq, Nat.reduceEqDiff, Nat.succ_ne_zero, Nat.zero_lt_succ, Nat.le_refl, sc_rows, kc_lit, nc_lit, wlk_rows, uR_s, uR_uR, true_and, and_true, true_or, or_true, false_or, or_false, and_false, false_and, or_self, and_self, if_true, if_false, Bool.false_eq_true, Bool.or_false, Bool.or_true, Bool.false_or, Bool.true_or, not_true_eq_false, not_false_eq_true, forall_const, true_implies, false_implies, implies_true, ↓reduceIte, reduceCtorEq, fR, rd1, rd2, rd3, eq_self, e16, d16, ansCo_s, en, d4, r4, e4, r1000, nzL, k0 L]
      exact rest _ (okP _ (okN _))
    · have e4 : (nI (y % 4) ≤ 0) = False := leF (b := 0) (by omega) (by omega)
      have rn : nI (y / 4) - nI (y / 4) / nI n * nI n = nI (y / 4 % n) := rem_nI (by omega) (by omega) (by omega)
      have hlt : y / 4 % n < n := Nat.mod_lt _ (by omega)
      refine wk2 hR ok_90 40 (fun pc => pc == 48) ?_
      simp only [kk_90, Option.toList_some, Option.toList_none, ex2, ex, catS, vC, isMk, sym2, popN, goC, callOK, swL, List.map_cons, List.map_nil, List.replicate_zero, List.replicate_succ, List.append_nil, List.nil_append, List.cons_append, List.getElem?_cons_zero, List.getElem?_cons_succ, List.set_cons_zero, List.set_cons_succ, List.length_cons, List.length_nil, List.head?_cons, Nat.reduceAdd, Nat.reduceLT, Nat.reduceLeDiff, Nat.reduceBEq, Nat.reduceEqDiff, Nat.succ_ne_zero, Nat.zero_lt_succ, Nat.le_refl, sc_rows, kc_lit, nc_lit, wlk_rows, uR_s, uR_uR, true_and, and_true, true_or, or_true, false_or, or_false, and_false, false_and, or_self, and_self, if_true, if_false, Bool.false_eq_true, Bool.or_false, Bool.or_true, Bool.false_or, Bool.true_or, not_true_eq_false, not_false_eq_true, forall_const, true_implies, false_implies, implies_true, ↓reduceIte, reduceCtorEq, fR, rd1, rd2, rd3, eq_self, e16, d16, ansCo_s, en, en0, d4, r4, e4, rn, ansPl_j hlt hn, nzL, k0 L]
      exact rest _ (hW.2.2.2.2 _ hlt)
end LA
