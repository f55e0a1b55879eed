/-! p27: the law's come and goHome -/
/-- what holds of a state behind N acts -/
def XZ (z : Nat → Int32) (n k N : Nat) : Prop := ∃ c, EX z n k N c ∧ c ≤ 300 * N ∧ WZ z n (4800 * N) ∧ CR z k
theorem XZ.mono {z : Nat → Int32} {n k N N' : Nat} (h : XZ z n k N) (hN : N ≤ N') : XZ z n k N' := by
  obtain ⟨c, a, b, d, e⟩ := h
  exact ⟨c, a.mono hN, by omega, d.mono (by omega), e⟩
theorem CT.nm {I : Nat → Nat → Int32} {Q : Nat → Nat → Option Nat} {τ : Nat → Nat → Nat} {b : Nat → Nat} {z : Nat → Int32} {w : Nat → Nat → Int32} {a n m k n' m' k' : Nat} (h : CT I Q τ b z w a n m k) (hM : MV z n' k') (hL : Ln z n' m') : n = n' ∧ m = m' ∧ k = k' := by
  obtain ⟨hM0, hL0⟩ := h.2.1.2
  exact ⟨(nI_eq (by have := hL0.2.1; omega) (by have := hL.2.1; omega)).mp (hL0.1.symm.trans hL.1), (nI_eq (by have := hL0.2.2.2.2.2.2.2; omega) (by have := hL.2.2.2.2.2.2.2; omega)).mp (hL0.2.2.1.symm.trans hL.2.2.1), (nI_eq (by have := hM0.2.2.2.2.1; omega) (by have := hM.2.2.2.2.1; omega)).mp (hM0.2.2.2.1.symm.trans hM.2.2.2.1)⟩
/-- an act that was refused; an act that was done -/
def AN (L : Nat) (I : Nat → Nat → Int32) (Q : Nat → Nat → Option Nat) (τ : Nat → Nat → Nat) (b : Nat → Nat) (z : Nat → Int32) (w : Nat → Nat → Int32) (a n m k : Nat) (P : Option Value → PH → Prop) : Prop := ∀ v I', v < 0 → -9 < v → CT I' Q τ b z w a n m k → FL I I' → P (some (.int v)) (SC L, I', Q)
def AP (L : Nat) (I : Nat → Nat → Int32) (τ : Nat → Nat → Nat) (z : Nat → Int32) (w : Nat → Nat → Int32) (a N : Nat) (P : Option Value → PH → Prop) : Prop := ∀ v I' Q' τ' b' z' n' m' k', ¬ v < 0 → CT I' Q' τ' b' z' (wSt w a z) (aSt a) n' m' k' → FL I I' → (∀ B, B ≠ 1 → τ' B = τ B) → XZ z' n' k' (N + 1) → P (some (.int v)) (SC L, I', Q')
theorem we1_row {y : Nat → Int32} {n m i : Nat} (hX : LnX y n m i) (hi : i < n) : (zWe1 y i m (tp i 0) = y (tp i 0) ∧ zWe1 y i m (tp i 1) = 0 ∧ zWe1 y i m (tp i 3) = 0 ∧ zWe1 y i m (tp i 4) = y (tp i 4)) ∧ zWe1 y i m (15 + m) = y (tp i 0) := by
  have hm : m < 12 := by have := hX.lt hi; have := hX.2.1; omega
  obtain ⟨⟨d1, -⟩, d⟩ := zStand_r (upd y (tp i 3) 0) (i := i) hm (Nat.le_refl m)
  unfold zWe1
  refine ⟨⟨?_, d1, ?_, ?_⟩, ?_⟩
  · rw [d 0 (by omega) (by omega) (by omega), upd_t _ _ _ _ _ _ (by omega) (by omega), if_neg (by omega)]
  · rw [d 3 (by omega) (by omega) (by omega), upd_e]
  · rw [d 4 (by omega) (by omega) (by omega), upd_t _ _ _ _ _ _ (by omega) (by omega), if_neg (by omega)]
  · rw [zStand_l _ hm (Nat.le_refl m) (Nat.le_refl m), if_neg (by omega), if_pos rfl, upd_t _ _ _ _ _ _ (by omega) (by omega), if_neg (by omega)]
theorem wel_row {z : Nat → Int32} {n m k : Nat} {p : Int32} (hM : MV z n k) (hL : Ln z n m) (hw : whyW z n p = 0) : ∃ i, ftz (zWel z n m p) p (nWel z n p) = some i ∧ zWel z n m p (tp i 1) = 0 ∧ zWel z n m p (tp i 3) = 0 ∧ zWel z n m p (tp i 4) = (match ftz z p n with | none => 0 | some i => z (tp i 4)) ∧ plcI (zWel z n m p) p (m + 1) = nI m := by
  obtain ⟨-, hL', -⟩ := wel_ok hM hL hw
  unfold whyW at hw
  by_cases g : 0 ≤ p ∧ p ≤ 999
  · rw [if_neg (fun q => q g)] at hw
    unfold zWel nWel at hL' ⊢
    cases hf : ftz z p n with
    | none =>
      rw [hf] at hw hL'
      simp only at hw hL' ⊢
      have hn : n ≠ 12 := fun q => by rw [if_pos q] at hw; exact absurd hw (by decide)
      have hn2 := hL.2.1
      have hX := LnX.ins hL (by omega) (ftz_n hf)
      have hi : insAt z p n < n + 1 := by have := insAt_le z p n; omega
      obtain ⟨⟨r0, r1, r3, r4⟩, rl⟩ := we1_row hX hi
      have e0 : zIns z p n (tp (insAt z p n) 0) = p := by rw [ins_q z p (by omega), if_pos rfl]
      exact ⟨insAt z p n, ftz_u hL' hi (r0.trans e0), r1, r3, by rw [r4, ins_q z p (by omega), if_neg (by omega)], plcI_s hL'.2.2.2.2.2.2.1 (by omega) (rl.trans e0)⟩
    | some i =>
      rw [hf] at hw hL'
      simp only at hw hL' ⊢
      obtain ⟨hi, he⟩ := ftz_s hf
      have h5 : z (tp i 1) = 5 := Decidable.byContradiction (fun q => by rw [if_neg q] at hw; exact absurd hw (by decide))
      have hX := LnX.out hL hi (by rw [h5]; decide)
      obtain ⟨⟨r0, r1, r3, r4⟩, rl⟩ := we1_row hX hi
      exact ⟨i, ftz_u hL' hi (r0.trans he), r1, r3, r4, plcI_s hL'.2.2.2.2.2.2.1 (by omega) (rl.trans he)⟩
  · rw [if_pos g] at hw
    exact absurd hw (by decide)
theorem XZ.wel {z : Nat → Int32} {n m k N : Nat} {p : Int32} (h : XZ z n k N) (hM : MV z n k) (hL : Ln z n m) (hw : whyW z n p = 0) : XZ (zWel z n m p) (nWel z n p) k (N + 1) := by
  obtain ⟨c, a, b, d, e⟩ := h
  obtain ⟨-, -, x⟩ := wel_ok hM hL hw
  exact ⟨c, (x N c a).mono (by omega), by omega, (d.wel hM hL hw).mono (by omega), e.wel hM hL hw⟩
theorem XZ.home {z : Nat → Int32} {n m k N i : Nat} (h : XZ z n k N) (hM : MV z n k) (hL : Ln z n m) (hi : i < n) (hd : ¬ z (tp i 1) = 1) : XZ (zHm z i m) n k (N + 1) := by
  obtain ⟨c, a, b, d, e⟩ := h
  have hk := hM.2.2.2.2.1
  refine ⟨c, (a.same hk (zHm_o hL hi (by omega)) (zHm_o hL hi (by omega)) (fun j x y => zHm_o hL hi (by omega)) (fun j hj => ?_)).mono (by omega), by omega, (d.home hM hL hi hd).mono (by omega), e.home hk hL hi⟩
  by_cases q : j = i
  · subst q
    refine ML.of ?_
    rw [zHm_t hL hi j 2 (by omega)]
    simp
  · exact (a.1 j hj).same (by rw [zHm_t hL hi j 1 (by omega), if_neg q]) (by rw [zHm_t hL hi j 2 (by omega), if_neg q])
theorem cmpL : ((-1 : Int32) < 0) = True ∧ ((-2 : Int32) < 0) = True ∧ ((-3 : Int32) < 0) = True ∧ ((-4 : Int32) < 0) = True ∧ ((-5 : Int32) < 0) = True ∧ ((0 : Int32) ≤ -1) = False ∧ ((0 : Int32) ≤ -4) = False ∧ ((0 : Int32) ≤ 0) = True ∧ ((0 : Int32) ≤ 1) = True ∧ ((0 : Int32) ≤ 2) = True ∧ ((0 : Int32) ≤ 3) = True ∧ ((0 : Int32) ≤ 4) = True ∧ ((0 : Int32) ≤ 5) = True ∧ ((5 : Int32) ≤ 0) = False ∧ ((5 : Int32) ≤ 1) = False ∧ ((5 : Int32) ≤ 2) = False ∧ ((5 : Int32) ≤ 3) = False ∧ ((5 : Int32) ≤ 4) = False ∧ ((5 : Int32) ≤ 5) = True ∧ ((4 : Int32) ≤ 0) = False ∧ ((4 : Int32) ≤ 1) = False ∧ ((4 : Int32) ≤ 2) = False ∧ ((4 : Int32) ≤ 3) = False ∧ ((4 : Int32) ≤ 4) = True ∧ ((0 : Int32) ≤ 0) = True ∧ ((1 : Int32) ≤ 0) = False ∧ ((2 : Int32) ≤ 0) = False ∧ ((3 : Int32) ≤ 0) = False ∧ ((4 : Int32) ≤ 0) = False ∧ ((5 : Int32) ≤ 0) = False := ⟨by decide, by decide, by decide, by decide, by decide, by decide, by decide, by decide, by decide, by decide, by decide, by decide, by decide, by decide, by decide, by decide, by decide, by decide, by decide, by decide, by decide, by decide, by decide, by decide, by decide, by decide, by decide, by decide, by decide, by decide⟩
theorem neg_ne {N : Nat} (h : N < 2147483648) : ((-4 : Int32) = nI N) = False ∧ ((-3 : Int32) = nI N) = False := by
  have a := nI_pos h
  exact ⟨eq_false (fun q => a (by rw [← q]; decide)), eq_false (fun q => a (by rw [← q]; decide))⟩
section LC
variable {l : Launch} {L : Nat} {I : Nat → Nat → Int32} {Q : Nat → Nat → Option Nat} {P : Option Value → PH → Prop} {τ : Nat → Nat → Nat} {b : Nat → Nat} {z : Nat → Int32} {w : Nat → Nat → Int32} {a n m k N : Nat}
set_option maxHeartbeats 1000000 in
set_option maxRecDepth 100000 in
/-- behind a taxi that came -/
theorem l_comeE {I' : Nat → Nat → Int32} {Q' : Nat → Nat → Option Nat} {τ' : Nat → Nat → Nat} {b' : Nat → Nat} {n' m' k' : Nat} {p does fares : Int32} (h : CT I Q τ b z w a n m k) (hT : TXI I) (hX : XZ z n k N) (hw : whyW z n p = 0) (g : CT I' Q' τ' b' (zWel z n m p) (wSt w a z) (aSt a) n' m' k') (f : FL I I') (ft : ∀ B, B ≠ 1 → τ' B = τ B) (hp : AP L I τ z w a N P) (hd : (does = -1 ∧ fares = 0 ∧ ftz z p n = none) ∨ (does = 5 ∧ ∃ i, ftz z p n = some i ∧ fares = z (tp i 4))) (x8 : Option Value) : Sy l 86 (149, 1788) 76 [some (.ref 0), some (.int p), some (.int does), some (.int (nI n)), some (.int (nI m)), some (.int fares), some (.int (nI m)), some (.int (nI m)), x8] [] (SC L, I', Q') P := by
  obtain ⟨hM, hL⟩ := h.2.1.2
  have hm := hL.2.2.2.2.2.2.2
  have hn := hL.2.1
  obtain ⟨hM', hL', -⟩ := wel_ok hM hL hw
  obtain ⟨e1, e2, e3⟩ := g.nm hM' hL'
  subst e1 e2 e3
  obtain ⟨i, r0, r1, r3, r4, r5⟩ := wel_row hM hL hw
  have t := ansTx_s (m := m + 1) r0
  have hR := fR_ok (l := l) (L := L) g (hT.fl f).1
  have m0 := nI_lt0 (show m < 2147483648 by omega)
  have fin := hp (nI m) I' Q' τ' b' _ _ _ _ (nI_pos (by omega)) g f ft (hX.wel hM hL hw)
  rcases hd with ⟨d1, d2, d3⟩ | ⟨d1, j, d3, d2⟩
  · have en : nWel z n p = n + 1 := by unfold nWel; rw [d3]
    rw [en] at t
    rw [d3] at r4
    simp only at r4
    subst d1 d2
    refine wk2 hR ok_86 100 (fun pc => false) ?_
    simp only [kk_86, Option.toList_some, Option.toList_none, ex2, ex, catS, vC, isMk, sym2, popN, goC, callOK, swL, List.map_cons, List.map_nil, List.replicate_zero, List.replicate_succ, List.append_nil, List.nil_append, List.cons_append, List.getElem?_cons_zero, List.getElem?_cons_succ, List.set_cons_zero, List.set_cons_succ, List.length_cons, List.length_nil, List.head?_cons, Nat.reduceAdd, Nat.reduceLT, Nat.reduceLeDiff, Nat.reduceBEq, Nat.reduceEqDiff, Nat.succ_ne_zero, Nat.zero_lt_succ, Nat.le_refl, sc_rows, kc_lit, nc_lit, wlk_rows, uR_s, uR_uR, true_and, and_true, true_or, or_true, false_or, or_false, and_false, false_and, or_self, and_self, if_true, if_false, Bool.false_eq_true, Bool.or_false, Bool.or_true, Bool.false_or, Bool.true_or, not_true_eq_false, not_false_eq_true, forall_const, true_implies, false_implies, implies_true, ↓reduceIte, reduceCtorEq, fR, rd1, rd2, rd3, eq_self, t, r1, r3, r4, r5, ansCo_s, m0, en, nI_up, nz_lit, cmpL, k0 L]
    exact fin
  · have en : nWel z n p = n := by unfold nWel; rw [d3]
    rw [en] at t
    rw [d3] at r4
    simp only at r4
    subst d1 d2
    refine wk2 hR ok_86 100 (fun pc => false) ?_
    simp only [kk_86, Option.toList_some, Option.toList_none, ex2, ex, catS, vC, isMk, sym2, popN, goC, callOK, swL, List.map_cons, List.map_nil, List.replicate_zero, List.replicate_succ, List.append_nil, List.nil_append, List.cons_append, List.getElem?_cons_zero, List.getElem?_cons_succ, List.set_cons_zero, List.set_cons_succ, List.length_cons, List.length_nil, List.head?_cons, Nat.reduceAdd, Nat.reduceLT, Nat.reduceLeDiff, Nat.reduceBEq, Nat.reduceEqDiff, Nat.succ_ne_zero, Nat.zero_lt_succ, Nat.le_refl, sc_rows, kc_lit, nc_lit, wlk_rows, uR_s, uR_uR, true_and, and_true, true_or, or_true, false_or, or_false, and_false, false_and, or_self, and_self, if_true, if_false, Bool.false_eq_true, Bool.or_false, Bool.or_true, Bool.false_or, Bool.true_or, not_true_eq_false, not_false_eq_true, forall_const, true_implies, false_implies, implies_true, ↓reduceIte, reduceCtorEq, fR, rd1, rd2, rd3, eq_self, t, r1, r3, r4, r5, ansCo_s, m0, en, Int32.add_zero, nz_lit, cmpL, k0 L]
    exact fin
set_option maxHeartbeats 1000000 in
set_option maxRecDepth 100000 in
theorem l_come (h : CT I Q τ b z w a n m k) (hT : TXI I) (hX : XZ z n k N) {p : Int32} (hp : 0 ≤ p ∧ p ≤ 999) (h1 : AN L I Q τ b z w a n m k P) (h2 : AP L I τ z w a N P) : Runs l 86 [.ref 0, .int p] (SC L, I, Q) P := by
  have hR := fR_ok (l := l) (L := L) h hT.1
  obtain ⟨hM, hL⟩ := h.2.1.2
  have hm := hL.2.2.2.2.2.2.2
  have hn := hL.2.1
  refine run0 (n := 7) mok_86 ⟨rfl, rfl⟩ rfl ?_
  cases hf : ftz z p n with
  | none =>
    have t := ansTx_n (m := m) hf
    have hw : whyW z n p = if n = 12 then -3 else 0 := by unfold whyW; rw [if_neg (fun q => q hp), hf]
    refine wk2 hR ok_86 40 (fun pc => false) ?_
    simp only [kk_86, Option.toList_some, Option.toList_none, ex2, ex, catS, vC, isMk, sym2, popN, goC, callOK, swL, List.map_cons, List.map_nil, List.replicate_zero, List.replicate_succ, List.append_nil, List.nil_append, List.cons_append, List.getElem?_cons_zero, List.getElem?_cons_succ, List.set_cons_zero, List.set_cons_succ, List.length_cons, List.length_nil, List.head?_cons, Nat.reduceAdd, Nat.reduceLT, Nat.reduceLeDiff, Nat.reduceBEq, Nat.reduceEqDiff, Nat.succ_ne_zero, Nat.zero_lt_succ, Nat.le_refl, sc_rows, kc_lit, nc_lit, wlk_rows, uR_s, uR_uR, true_and, and_true, true_or, or_true, false_or, or_false, and_false, false_and, or_self, and_self, if_true, if_false, Bool.false_eq_true, Bool.or_false, Bool.or_true, Bool.false_or, Bool.true_or, not_true_eq_false, not_false_eq_true, forall_const, true_implies, false_implies, implies_true, ↓reduceIte, reduceCtorEq, fR, rd1, rd2, rd3, eq_self, t, ansCo_s, cmpL, k0 L]
    by_cases g : n = 12
    · rw [if_pos g] at hw
      have e12 : (nI n = 12) = True := by rw [g]; decide
      refine m_come h p (fun _ J g1 q1 => ?_) (fun c => absurd c (by rw [hw]; decide))
      refine wk2 (fn0_ok l) ok_86 40 (fun pc => false) ?_
      simp only [kk_86, Option.toList_some, Option.toList_none, ex2, ex, catS, vC, isMk, sym2, popN, goC, callOK, swL, List.map_cons, List.map_nil, List.replicate_zero, List.replicate_succ, List.append_nil, List.nil_append, List.cons_append, List.getElem?_cons_zero, List.getElem?_cons_succ, List.set_cons_zero, List.set_cons_succ, List.length_cons, List.length_nil, List.head?_cons, Nat.reduceAdd, Nat.reduceLT, Nat.reduceLeDiff, Nat.reduceBEq, Nat.reduceEqDiff, Nat.succ_ne_zero, Nat.zero_lt_succ, Nat.le_refl, sc_rows, kc_lit, nc_lit, wlk_rows, uR_s, uR_uR, true_and, and_true, true_or, or_true, false_or, or_false, and_false, false_and, or_self, and_self, if_true, if_false, Bool.false_eq_true, Bool.or_false, Bool.or_true, Bool.false_or, Bool.true_or, not_true_eq_false, not_false_eq_true, forall_const, true_implies, false_implies, implies_true, ↓reduceIte, reduceCtorEq, fn0, eq_self, hw, e12, cmpL, nz_lit, k0 L]
      exact h1 (-3) J (by decide) (by decide) g1 (FL.of q1)
    · rw [if_neg g] at hw
      have e12 : (nI n = 12) = False := eqF (b := 12) g (by omega) (by omega)
      refine m_come h p (fun c => absurd c (by rw [hw]; decide)) (fun _ J Q2 τ2 b2' n2 m2 k2 g1 q1 q2 => ?_)
      refine wk2 (fn0_ok l) ok_86 40 (fun pc => pc == 76) ?_
      simp only [kk_86, Option.toList_some, Option.toList_none, ex2, ex, catS, vC, isMk, sym2, popN, goC, callOK, swL, List.map_cons, List.map_nil, List.replicate_zero, List.replicate_succ, List.append_nil, List.nil_append, List.cons_append, List.getElem?_cons_zero, List.getElem?_cons_succ, List.set_cons_zero, List.set_cons_succ, List.length_cons, List.length_nil, List.head?_cons, Nat.reduceAdd, Nat.reduceLT, Nat.reduceLeDiff, Nat.reduceBEq, Nat.reduceEqDiff, Nat.succ_ne_zero, Nat.zero_lt_succ, Nat.le_refl, sc_rows, kc_lit, nc_lit, wlk_rows, uR_s, uR_uR, true_and, and_true, true_or, or_true, false_or, or_false, and_false, false_and, or_self, and_self, if_true, if_false, Bool.false_eq_true, Bool.or_false, Bool.or_true, Bool.false_or, Bool.true_or, not_true_eq_false, not_false_eq_true, forall_const, true_implies, false_implies, implies_true, ↓reduceIte, reduceCtorEq, fn0, eq_self, e12, cmpL, nz_lit, k0 L]
      exact l_comeE h hT hX hw g1 (FL.of q1) q2 h2 (Or.inl ⟨rfl, rfl, hf⟩) _
  | some i =>
    obtain ⟨hi, he⟩ := ftz_s hf
    have t := ansTx_s (m := m) hf
    have tw := (hM.2.1 i hi).1.1
    have hw : whyW z n p = if z (tp i 1) = 5 then 0 else -4 := by unfold whyW; rw [if_neg (fun q => q hp), hf]
    by_cases g : z (tp i 1) = 5
    · rw [if_pos g] at hw
      refine wk2 hR ok_86 40 (fun pc => false) ?_
      simp only [kk_86, Option.toList_some, Option.toList_none, ex2, ex, catS, vC, isMk, sym2, popN, goC, callOK, swL, List.map_cons, List.map_nil, List.replicate_zero, List.replicate_succ, List.append_nil, List.nil_append, List.cons_append, List.getElem?_cons_zero, List.getElem?_cons_succ, List.set_cons_zero, List.set_cons_succ, List.length_cons, List.length_nil, List.head?_cons, Nat.reduceAdd, Nat.reduceLT, Nat.reduceLeDiff, Nat.reduceBEq, Nat.reduceEqDiff, Nat.succ_ne_zero, Nat.zero_lt_succ, Nat.le_refl, sc_rows, kc_lit, nc_lit, wlk_rows, uR_s, uR_uR, true_and, and_true, true_or, or_true, false_or, or_false, and_false, false_and, or_self, and_self, if_true, if_false, Bool.false_eq_true, Bool.or_false, Bool.or_true, Bool.false_or, Bool.true_or, not_true_eq_false, not_false_eq_true, forall_const, true_implies, false_implies, implies_true, ↓reduceIte, reduceCtorEq, fR, rd1, rd2, rd3, eq_self, t, g, ansCo_s, cmpL, d6L, k0 L]
      refine m_come h p (fun c => absurd c (by rw [hw]; decide)) (fun _ J Q2 τ2 b2' n2 m2 k2 g1 q1 q2 => ?_)
      refine wk2 (fn0_ok l) ok_86 40 (fun pc => pc == 76) ?_
      simp only [kk_86, Option.toList_some, Option.toList_none, ex2, ex, catS, vC, isMk, sym2, popN, goC, callOK, swL, List.map_cons, List.map_nil, List.replicate_zero, List.replicate_succ, List.append_nil, List.nil_append, List.cons_append, List.getElem?_cons_zero, List.getElem?_cons_succ, List.set_cons_zero, List.set_cons_succ, List.length_cons, List.length_nil, List.head?_cons, Nat.reduceAdd, Nat.reduceLT, Nat.reduceLeDiff, Nat.reduceBEq, Nat.reduceEqDiff, Nat.succ_ne_zero, Nat.zero_lt_succ, Nat.le_refl, sc_rows, kc_lit, nc_lit, wlk_rows, uR_s, uR_uR, true_and, and_true, true_or, or_true, false_or, or_false, and_false, false_and, or_self, and_self, if_true, if_false, Bool.false_eq_true, Bool.or_false, Bool.or_true, Bool.false_or, Bool.true_or, not_true_eq_false, not_false_eq_true, forall_const, true_implies, false_implies, implies_true, ↓reduceIte, reduceCtorEq, fn0, eq_self, cmpL, d6L, nz_lit, k0 L]
      exact l_comeE h hT hX hw g1 (FL.of q1) q2 h2 (Or.inr ⟨rfl, i, hf, rfl⟩) _
    · rw [if_neg g] at hw
      have key : ∀ c : Int32, (c < 0) = False → ((0 : Int32) ≤ c) = True → ((5 : Int32) ≤ c) = False → z (tp i 1) = c → Sy l 86 (149, 1788) 0 [some (.ref 0), some (.int p), none, none, none, none, none, none, none] [] (SC L, I, Q) P := by
        intro c c1 c2 c3 e
        refine wk2 hR ok_86 40 (fun pc => false) ?_
        simp only [kk_86, Option.toList_some, Option.toList_none, ex2, ex, catS, vC, isMk, sym2, popN, goC, callOK, swL, List.map_cons, List.map_nil, List.replicate_zero, List.replicate_succ, List.append_nil, List.nil_append, List.cons_append, List.getElem?_cons_zero, List.getElem?_cons_succ, List.set_cons_zero, List.set_cons_succ, List.length_cons, List.length_nil, List.head?_cons, Nat.reduceAdd, Nat.reduceLT, Nat.reduceLeDiff, Nat.reduceBEq, Nat.reduceEqDiff, Nat.succ_ne_zero, Nat.zero_lt_succ, Nat.le_refl, sc_rows, kc_lit, nc_lit, wlk_rows, uR_s, uR_uR, true_and, and_true, true_or, or_true, false_or, or_false, and_false, false_and, or_self, and_self, if_true, if_false, Bool.false_eq_true, Bool.or_false, Bool.or_true, Bool.false_or, Bool.true_or, not_true_eq_false, not_false_eq_true, forall_const, true_implies, false_implies, implies_true, ↓reduceIte, reduceCtorEq, fR, rd1, rd2, rd3, eq_self, t, e, c1, c2, ansCo_s, cmpL, d6L, k0 L]
        refine m_come h p (fun _ J g1 q1 => ?_) (fun c => absurd c (by rw [hw]; decide))
        refine wk2 (fn0_ok l) ok_86 40 (fun pc => false) ?_
        simp only [kk_86, Option.toList_some, Option.toList_none, ex2, ex, catS, vC, isMk, sym2, popN, goC, callOK, swL, List.map_cons, List.map_nil, List.replicate_zero, List.replicate_succ, List.append_nil, List.nil_append, List.cons_append, List.getElem?_cons_zero, List.getElem?_cons_succ, List.set_cons_zero, List.set_cons_succ, List.length_cons, List.length_nil, List.head?_cons, Nat.reduceAdd, Nat.reduceLT, Nat.reduceLeDiff, Nat.reduceBEq, Nat.reduceEqDiff, Nat.succ_ne_zero, Nat.zero_lt_succ, Nat.le_refl, sc_rows, kc_lit, nc_lit, wlk_rows, uR_s, uR_uR, true_and, and_true, true_or, or_true, false_or, or_false, and_false, false_and, or_self, and_self, if_true, if_false, Bool.false_eq_true, Bool.or_false, Bool.or_true, Bool.false_or, Bool.true_or, not_true_eq_false, not_false_eq_true, forall_const, true_implies, false_implies, implies_true, ↓reduceIte, reduceCtorEq, fn0, eq_self, hw, c1, c2, c3, cmpL, d6L, nz_lit, k0 L]
        exact h1 (-4) J (by decide) (by decide) g1 (FL.of q1)
      rcases tw with e | e | e | e | e | e
      · exact key 0 (by decide) (by decide) (by decide) e
      · exact key 1 (by decide) (by decide) (by decide) e
      · exact key 2 (by decide) (by decide) (by decide) e
      · exact key 3 (by decide) (by decide) (by decide) e
      · exact key 4 (by decide) (by decide) (by decide) e
      · exact absurd e g
set_option maxHeartbeats 1000000 in
set_option maxRecDepth 100000 in
/-- behind a taxi that went home -/
theorem l_homeE {I' : Nat → Nat → Int32} {Q' : Nat → Nat → Option Nat} {b' : Nat → Nat} {n' m' k' i : Nat} {p : Int32} (h : CT I Q τ b z w a n m k) (hT : TXI I) (hX : XZ z n k N) (hf : ftz z p n = some i) (hd : ¬ z (tp i 1) = 1) (g : CT I' Q' τ b' (zHm z i m) (wSt w a z) (aSt a) n' m' k') (f : FL I I') (hp : AP L I τ z w a N P) (x2 x3 : Option Value) : Sy l 87 (149, 1788) 65 [some (.ref 0), some (.int p), x2, x3, some (.int (nI (mLv z i m))), some (.int (nI (mLv z i m)))] [] (SC L, I', Q') P := by
  obtain ⟨hM, hL⟩ := h.2.1.2
  have hm := hL.2.2.2.2.2.2.2
  have hn := hL.2.1
  obtain ⟨hi, he⟩ := ftz_s hf
  have hM' := hM.home hL hi
  have hL' := hL.home hi
  obtain ⟨e1, e2, e3⟩ := g.nm hM' hL'
  subst e1 e2 e3
  have hml : mLv z i m ≤ 12 := by unfold mLv; split <;> omega
  have r0 : zHm z i m (tp i 0) = p := by rw [zHm_t hL hi i 0 (by omega)]; simp; exact he
  have r1 : zHm z i m (tp i 1) = 5 := by rw [zHm_t hL hi i 1 (by omega)]; simp
  have hf' : ftz (zHm z i m) p n' = some i := ftz_u hL' hi r0
  have t := ansTx_s (m := mLv z i m) hf'
  have pc : plcI (zHm z i m) p (mLv z i m) = -5 := plcI_n (fun r hr he' => by
    have := (hL'.plu hi hr (he'.trans r0.symm)).1
    rw [r1] at this
    exact absurd this (by decide))
  have ai : ansIn (zHm z i m) n' p = -5 := by
    unfold ansIn
    rw [hf']
    exact if_pos r1
  have hR := fR_ok (l := l) (L := L) g (hT.fl f).1
  have m0 := nI_lt0 (show mLv z i m < 2147483648 by omega)
  refine wk2 hR ok_87 60 (fun pc => false) ?_
  simp only [kk_87, Option.toList_some, Option.toList_none, ex2, ex, catS, vC, isMk, sym2, popN, goC, callOK, swL, List.map_cons, List.map_nil, List.replicate_zero, List.replicate_succ, List.append_nil, List.nil_append, List.cons_append, List.getElem?_cons_zero, List.getElem?_cons_succ, List.set_cons_zero, List.set_cons_succ, List.length_cons, List.length_nil, List.head?_cons, Nat.reduceAdd, Nat.reduceLT, Nat.reduceLeDiff, Nat.reduceBEq, Nat.reduceEqDiff, Nat.succ_ne_zero, Nat.zero_lt_succ, Nat.le_refl, sc_rows, kc_lit, nc_lit, wlk_rows, uR_s, uR_uR, true_and, and_true, true_or, or_true, false_or, or_false, and_false, false_and, or_self, and_self, if_true, if_false, Bool.false_eq_true, Bool.or_false, Bool.or_true, Bool.false_or, Bool.true_or, not_true_eq_false, not_false_eq_true, forall_const, true_implies, false_implies, implies_true, ↓reduceIte, reduceCtorEq, fR, rd1, rd2, rd3, eq_self, t, r1, pc, m0, nz_lit, cmpL, k0 L]
  refine m_inLineIn g p (fun J g1 q1 => ?_)
  refine wk2 (fn0_ok l) ok_87 20 (fun pc => false) ?_
  simp only [kk_87, Option.toList_some, Option.toList_none, ex2, ex, catS, vC, isMk, sym2, popN, goC, callOK, swL, List.map_cons, List.map_nil, List.replicate_zero, List.replicate_succ, List.append_nil, List.nil_append, List.cons_append, List.getElem?_cons_zero, List.getElem?_cons_succ, List.set_cons_zero, List.set_cons_succ, List.length_cons, List.length_nil, List.head?_cons, Nat.reduceAdd, Nat.reduceLT, Nat.reduceLeDiff, Nat.reduceBEq, Nat.reduceEqDiff, Nat.succ_ne_zero, Nat.zero_lt_succ, Nat.le_refl, sc_rows, kc_lit, nc_lit, wlk_rows, uR_s, uR_uR, true_and, and_true, true_or, or_true, false_or, or_false, and_false, false_and, or_self, and_self, if_true, if_false, Bool.false_eq_true, Bool.or_false, Bool.or_true, Bool.false_or, Bool.true_or, not_true_eq_false, not_false_eq_true, forall_const, true_implies, false_implies, implies_true, ↓reduceIte, reduceCtorEq, fn0, eq_self, ai, nz_lit, cmpL, k0 L]
  exact hp _ J Q' τ b' _ _ _ _ (nI_pos (by omega)) g1 (f.tr (FL.of q1)) (fun _ _ => rfl) (hX.home hM hL hi hd)
set_option maxHeartbeats 1000000 in
set_option maxRecDepth 100000 in
theorem l_goHome (h : CT I Q τ b z w a n m k) (hT : TXI I) (hX : XZ z n k N) (p : Int32) (h1 : AN L I Q τ b z w a n m k P) (h2 : AP L I τ z w a N P) : Runs l 87 [.ref 0, .int p] (SC L, I, Q) P := by
  have hR := fR_ok (l := l) (L := L) h hT.1
  obtain ⟨hM, hL⟩ := h.2.1.2
  have hm := hL.2.2.2.2.2.2.2
  have hn := hL.2.1
  refine run0 (n := 4) mok_87 ⟨rfl, rfl⟩ rfl ?_
  cases hf : ftz z p n with
  | none =>
    have t := ansTx_n (m := m) hf
    have hw : whyH z n p = -1 := by unfold whyH; rw [hf]
    refine wk2 hR ok_87 40 (fun pc => false) ?_
    simp only [kk_87, Option.toList_some, Option.toList_none, ex2, ex, catS, vC, isMk, sym2, popN, goC, callOK, swL, List.map_cons, List.map_nil, List.replicate_zero, List.replicate_succ, List.append_nil, List.nil_append, List.cons_append, List.getElem?_cons_zero, List.getElem?_cons_succ, List.set_cons_zero, List.set_cons_succ, List.length_cons, List.length_nil, List.head?_cons, Nat.reduceAdd, Nat.reduceLT, Nat.reduceLeDiff, Nat.reduceBEq, Nat.reduceEqDiff, Nat.succ_ne_zero, Nat.zero_lt_succ, Nat.le_refl, sc_rows, kc_lit, nc_lit, wlk_rows, uR_s, uR_uR, true_and, and_true, true_or, or_true, false_or, or_false, and_false, false_and, or_self, and_self, if_true, if_false, Bool.false_eq_true, Bool.or_false, Bool.or_true, Bool.false_or, Bool.true_or, not_true_eq_false, not_false_eq_true, forall_const, true_implies, false_implies, implies_true, ↓reduceIte, reduceCtorEq, fR, rd1, rd2, rd3, eq_self, t, ansCo_s, cmpL, k0 L]
    refine m_goHome h p (fun _ J g1 q1 => ?_) (fun c => absurd c (by rw [hw]; decide))
    refine wk2 (fn0_ok l) ok_87 40 (fun pc => false) ?_
    simp only [kk_87, Option.toList_some, Option.toList_none, ex2, ex, catS, vC, isMk, sym2, popN, goC, callOK, swL, List.map_cons, List.map_nil, List.replicate_zero, List.replicate_succ, List.append_nil, List.nil_append, List.cons_append, List.getElem?_cons_zero, List.getElem?_cons_succ, List.set_cons_zero, List.set_cons_succ, List.length_cons, List.length_nil, List.head?_cons, Nat.reduceAdd, Nat.reduceLT, Nat.reduceLeDiff, Nat.reduceBEq, Nat.reduceEqDiff, Nat.succ_ne_zero, Nat.zero_lt_succ, Nat.le_refl, sc_rows, kc_lit, nc_lit, wlk_rows, uR_s, uR_uR, true_and, and_true, true_or, or_true, false_or, or_false, and_false, false_and, or_self, and_self, if_true, if_false, Bool.false_eq_true, Bool.or_false, Bool.or_true, Bool.false_or, Bool.true_or, not_true_eq_false, not_false_eq_true, forall_const, true_implies, false_implies, implies_true, ↓reduceIte, reduceCtorEq, fn0, eq_self, hw, cmpL, nz_lit, k0 L]
    exact h1 (-1) J (by decide) (by decide) g1 (FL.of q1)
  | some i =>
    obtain ⟨hi, he⟩ := ftz_s hf
    have t := ansTx_s (m := m) hf
    have tw := (hM.2.1 i hi).1.1
    have hw : whyH z n p = if z (tp i 1) = 1 ∨ z (tp i 1) = 2 ∨ z (tp i 1) = 3 then -4 else if z (tp i 1) = 5 then -5 else 0 := by unfold whyH; rw [hf]
    have ft : ∀ j, ftz z p n = some j → j = i := fun j hj => by rw [hf] at hj; exact (Option.some.inj hj).symm
    rcases tw with e | e | e | e | e | e
    · have hw0 : whyH z n p = 0 := by rw [hw, e]; decide
      obtain ⟨pl, -⟩ := plF_in hL hi e
      have em : nI m - 1 = nI (mLv z i m) := by unfold mLv; rw [if_pos e]; exact (nI_dn (by omega)).2
      refine wk2 hR ok_87 40 (fun pc => false) ?_
      simp only [kk_87, Option.toList_some, Option.toList_none, ex2, ex, catS, vC, isMk, sym2, popN, goC, callOK, swL, List.map_cons, List.map_nil, List.replicate_zero, List.replicate_succ, List.append_nil, List.nil_append, List.cons_append, List.getElem?_cons_zero, List.getElem?_cons_succ, List.set_cons_zero, List.set_cons_succ, List.length_cons, List.length_nil, List.head?_cons, Nat.reduceAdd, Nat.reduceLT, Nat.reduceLeDiff, Nat.reduceBEq, Nat.reduceEqDiff, Nat.succ_ne_zero, Nat.zero_lt_succ, Nat.le_refl, sc_rows, kc_lit, nc_lit, wlk_rows, uR_s, uR_uR, true_and, and_true, true_or, or_true, false_or, or_false, and_false, false_and, or_self, and_self, if_true, if_false, Bool.false_eq_true, Bool.or_false, Bool.or_true, Bool.false_or, Bool.true_or, not_true_eq_false, not_false_eq_true, forall_const, true_implies, false_implies, implies_true, ↓reduceIte, reduceCtorEq, fR, rd1, rd2, rd3, eq_self, t, e, ansCo_s, cmpL, k0 L]
      refine m_goHome h p (fun c => absurd c (by rw [hw0]; decide)) (fun _ j hj hjn J Q2 b2' n2 m2 k2 g1 q1 => ?_)
      obtain rfl := ft j hj
      refine wk2 (fn0_ok l) ok_87 40 (fun pc => pc == 65) ?_
      simp only [kk_87, Option.toList_some, Option.toList_none, ex2, ex, catS, vC, isMk, sym2, popN, goC, callOK, swL, List.map_cons, List.map_nil, List.replicate_zero, List.replicate_succ, List.append_nil, List.nil_append, List.cons_append, List.getElem?_cons_zero, List.getElem?_cons_succ, List.set_cons_zero, List.set_cons_succ, List.length_cons, List.length_nil, List.head?_cons, Nat.reduceAdd, Nat.reduceLT, Nat.reduceLeDiff, Nat.reduceBEq, Nat.reduceEqDiff, Nat.succ_ne_zero, Nat.zero_lt_succ, Nat.le_refl, sc_rows, kc_lit, nc_lit, wlk_rows, uR_s, uR_uR, true_and, and_true, true_or, or_true, false_or, or_false, and_false, false_and, or_self, and_self, if_true, if_false, Bool.false_eq_true, Bool.or_false, Bool.or_true, Bool.false_or, Bool.true_or, not_true_eq_false, not_false_eq_true, forall_const, true_implies, false_implies, implies_true, ↓reduceIte, reduceCtorEq, fn0, eq_self, em, cmpL, d6L, nz_lit, k0 L]
      exact l_homeE h hT hX hf (by rw [e]; decide) g1 (FL.of q1) h2 _ _
    · have hw0 : whyH z n p = -4 := by rw [hw, e]; decide
      refine wk2 hR ok_87 40 (fun pc => false) ?_
      simp only [kk_87, Option.toList_some, Option.toList_none, ex2, ex, catS, vC, isMk, sym2, popN, goC, callOK, swL, List.map_cons, List.map_nil, List.replicate_zero, List.replicate_succ, List.append_nil, List.nil_append, List.cons_append, List.getElem?_cons_zero, List.getElem?_cons_succ, List.set_cons_zero, List.set_cons_succ, List.length_cons, List.length_nil, List.head?_cons, Nat.reduceAdd, Nat.reduceLT, Nat.reduceLeDiff, Nat.reduceBEq, Nat.reduceEqDiff, Nat.succ_ne_zero, Nat.zero_lt_succ, Nat.le_refl, sc_rows, kc_lit, nc_lit, wlk_rows, uR_s, uR_uR, true_and, and_true, true_or, or_true, false_or, or_false, and_false, false_and, or_self, and_self, if_true, if_false, Bool.false_eq_true, Bool.or_false, Bool.or_true, Bool.false_or, Bool.true_or, not_true_eq_false, not_false_eq_true, forall_const, true_implies, false_implies, implies_true, ↓reduceIte, reduceCtorEq, fR, rd1, rd2, rd3, eq_self, t, e, ansCo_s, cmpL, k0 L]
      refine m_goHome h p (fun _ J g1 q1 => ?_) (fun c => absurd c (by rw [hw0]; decide))
      refine wk2 (fn0_ok l) ok_87 40 (fun pc => false) ?_
      simp only [kk_87, Option.toList_some, Option.toList_none, ex2, ex, catS, vC, isMk, sym2, popN, goC, callOK, swL, List.map_cons, List.map_nil, List.replicate_zero, List.replicate_succ, List.append_nil, List.nil_append, List.cons_append, List.getElem?_cons_zero, List.getElem?_cons_succ, List.set_cons_zero, List.set_cons_succ, List.length_cons, List.length_nil, List.head?_cons, Nat.reduceAdd, Nat.reduceLT, Nat.reduceLeDiff, Nat.reduceBEq, Nat.reduceEqDiff, Nat.succ_ne_zero, Nat.zero_lt_succ, Nat.le_refl, sc_rows, kc_lit, nc_lit, wlk_rows, uR_s, uR_uR, true_and, and_true, true_or, or_true, false_or, or_false, and_false, false_and, or_self, and_self, if_true, if_false, Bool.false_eq_true, Bool.or_false, Bool.or_true, Bool.false_or, Bool.true_or, not_true_eq_false, not_false_eq_true, forall_const, true_implies, false_implies, implies_true, ↓reduceIte, reduceCtorEq, fn0, eq_self, hw0, cmpL, d6L, nz_lit, k0 L]
      exact h1 (-4) J (by decide) (by decide) g1 (FL.of q1)
    · have hw0 : whyH z n p = -4 := by rw [hw, e]; decide
      refine wk2 hR ok_87 40 (fun pc => false) ?_
      simp only [kk_87, Option.toList_some, Option.toList_none, ex2, ex, catS, vC, isMk, sym2, popN, goC, callOK, swL, List.map_cons, List.map_nil, List.replicate_zero, List.replicate_succ, List.append_nil, List.nil_append, List.cons_append, List.getElem?_cons_zero, List.getElem?_cons_succ, List.set_cons_zero, List.set_cons_succ, List.length_cons, List.length_nil, List.head?_cons, Nat.reduceAdd, Nat.reduceLT, Nat.reduceLeDiff, Nat.reduceBEq, Nat.reduceEqDiff, Nat.succ_ne_zero, Nat.zero_lt_succ, Nat.le_refl, sc_rows, kc_lit, nc_lit, wlk_rows, uR_s, uR_uR, true_and, and_true, true_or, or_true, false_or, or_false, and_false, false_and, or_self, and_self, if_true, if_false, Bool.false_eq_true, Bool.or_false, Bool.or_true, Bool.false_or, Bool.true_or, not_true_eq_false, not_false_eq_true, forall_const, true_implies, false_implies, implies_true, ↓reduceIte, reduceCtorEq, fR, rd1, rd2, rd3, eq_self, t, e, ansCo_s, cmpL, k0 L]
      refine m_goHome h p (fun _ J g1 q1 => ?_) (fun c => absurd c (by rw [hw0]; decide))
      refine wk2 (fn0_ok l) ok_87 40 (fun pc => false) ?_
      simp only [kk_87, Option.toList_some, Option.toList_none, ex2, ex, catS, vC, isMk, sym2, popN, goC, callOK, swL, List.map_cons, List.map_nil, List.replicate_zero, List.replicate_succ, List.append_nil, List.nil_append, List.cons_append, List.getElem?_cons_zero, List.getElem?_cons_succ, List.set_cons_zero, List.set_cons_succ, List.length_cons, List.length_nil, List.head?_cons, Nat.reduceAdd, Nat.reduceLT, Nat.reduceLeDiff, Nat.reduceBEq, Nat.reduceEqDiff, Nat.succ_ne_zero, Nat.zero_lt_succ, Nat.le_refl, sc_rows, kc_lit, nc_lit, wlk_rows, uR_s, uR_uR, true_and, and_true, true_or, or_true, false_or, or_false, and_false, false_and, or_self, and_self, if_true, if_false, Bool.false_eq_true, Bool.or_false, Bool.or_true, Bool.false_or, Bool.true_or, not_true_eq_false, not_false_eq_true, forall_const, true_implies, false_implies, implies_true, ↓reduceIte, reduceCtorEq, fn0, eq_self, hw0, cmpL, d6L, nz_lit, k0 L]
      exact h1 (-4) J (by decide) (by decide) g1 (FL.of q1)
    · have hw0 : whyH z n p = -4 := by rw [hw, e]; decide
      refine wk2 hR ok_87 40 (fun pc => false) ?_
      simp only [kk_87, Option.toList_some, Option.toList_none, ex2, ex, catS, vC, isMk, sym2, popN, goC, callOK, swL, List.map_cons, List.map_nil, List.replicate_zero, List.replicate_succ, List.append_nil, List.nil_append, List.cons_append, List.getElem?_cons_zero, List.getElem?_cons_succ, List.set_cons_zero, List.set_cons_succ, List.length_cons, List.length_nil, List.head?_cons, Nat.reduceAdd, Nat.reduceLT, Nat.reduceLeDiff, Nat.reduceBEq, Nat.reduceEqDiff, Nat.succ_ne_zero, Nat.zero_lt_succ, Nat.le_refl, sc_rows, kc_lit, nc_lit, wlk_rows, uR_s, uR_uR, true_and, and_true, true_or, or_true, false_or, or_false, and_false, false_and, or_self, and_self, if_true, if_false, Bool.false_eq_true, Bool.or_false, Bool.or_true, Bool.false_or, Bool.true_or, not_true_eq_false, not_false_eq_true, forall_const, true_implies, false_implies, implies_true, ↓reduceIte, reduceCtorEq, fR, rd1, rd2, rd3, eq_self, t, e, ansCo_s, cmpL, k0 L]
      refine m_goHome h p (fun _ J g1 q1 => ?_) (fun c => absurd c (by rw [hw0]; decide))
      refine wk2 (fn0_ok l) ok_87 40 (fun pc => false) ?_
      simp only [kk_87, Option.toList_some, Option.toList_none, ex2, ex, catS, vC, isMk, sym2, popN, goC, callOK, swL, List.map_cons, List.map_nil, List.replicate_zero, List.replicate_succ, List.append_nil, List.nil_append, List.cons_append, List.getElem?_cons_zero, List.getElem?_cons_succ, List.set_cons_zero, List.set_cons_succ, List.length_cons, List.length_nil, List.head?_cons, Nat.reduceAdd, Nat.reduceLT, Nat.reduceLeDiff, Nat.reduceBEq, Nat.reduceEqDiff, Nat.succ_ne_zero, Nat.zero_lt_succ, Nat.le_refl, sc_rows, kc_lit, nc_lit, wlk_rows, uR_s, uR_uR, true_and, and_true, true_or, or_true, false_or, or_false, and_false, false_and, or_self, and_self, if_true, if_false, Bool.false_eq_true, Bool.or_false, Bool.or_true, Bool.false_or, Bool.true_or, not_true_eq_false, not_false_eq_true, forall_const, true_implies, false_implies, implies_true, ↓reduceIte, reduceCtorEq, fn0, eq_self, hw0, cmpL, d6L, nz_lit, k0 L]
      exact h1 (-4) J (by decide) (by decide) g1 (FL.of q1)
    · have hw0 : whyH z n p = 0 := by rw [hw, e]; decide
      have em : nI m = nI (mLv z i m) := by unfold mLv; rw [if_neg (by rw [e]; decide)]
      refine wk2 hR ok_87 40 (fun pc => false) ?_
      simp only [kk_87, Option.toList_some, Option.toList_none, ex2, ex, catS, vC, isMk, sym2, popN, goC, callOK, swL, List.map_cons, List.map_nil, List.replicate_zero, List.replicate_succ, List.append_nil, List.nil_append, List.cons_append, List.getElem?_cons_zero, List.getElem?_cons_succ, List.set_cons_zero, List.set_cons_succ, List.length_cons, List.length_nil, List.head?_cons, Nat.reduceAdd, Nat.reduceLT, Nat.reduceLeDiff, Nat.reduceBEq, Nat.reduceEqDiff, Nat.succ_ne_zero, Nat.zero_lt_succ, Nat.le_refl, sc_rows, kc_lit, nc_lit, wlk_rows, uR_s, uR_uR, true_and, and_true, true_or, or_true, false_or, or_false, and_false, false_and, or_self, and_self, if_true, if_false, Bool.false_eq_true, Bool.or_false, Bool.or_true, Bool.false_or, Bool.true_or, not_true_eq_false, not_false_eq_true, forall_const, true_implies, false_implies, implies_true, ↓reduceIte, reduceCtorEq, fR, rd1, rd2, rd3, eq_self, t, e, ansCo_s, cmpL, k0 L]
      refine m_goHome h p (fun c => absurd c (by rw [hw0]; decide)) (fun _ j hj hjn J Q2 b2' n2 m2 k2 g1 q1 => ?_)
      obtain rfl := ft j hj
      refine wk2 (fn0_ok l) ok_87 40 (fun pc => pc == 65) ?_
      simp only [kk_87, Option.toList_some, Option.toList_none, ex2, ex, catS, vC, isMk, sym2, popN, goC, callOK, swL, List.map_cons, List.map_nil, List.replicate_zero, List.replicate_succ, List.append_nil, List.nil_append, List.cons_append, List.getElem?_cons_zero, List.getElem?_cons_succ, List.set_cons_zero, List.set_cons_succ, List.length_cons, List.length_nil, List.head?_cons, Nat.reduceAdd, Nat.reduceLT, Nat.reduceLeDiff, Nat.reduceBEq, Nat.reduceEqDiff, Nat.succ_ne_zero, Nat.zero_lt_succ, Nat.le_refl, sc_rows, kc_lit, nc_lit, wlk_rows, uR_s, uR_uR, true_and, and_true, true_or, or_true, false_or, or_false, and_false, false_and, or_self, and_self, if_true, if_false, Bool.false_eq_true, Bool.or_false, Bool.or_true, Bool.false_or, Bool.true_or, not_true_eq_false, not_false_eq_true, forall_const, true_implies, false_implies, implies_true, ↓reduceIte, reduceCtorEq, fn0, eq_self, cmpL, d6L, nz_lit, k0 L]
      rw [em]
      exact l_homeE h hT hX hf (by rw [e]; decide) g1 (FL.of q1) h2 _ _
    · have hw0 : whyH z n p = -5 := by rw [hw, e]; decide
      refine wk2 hR ok_87 40 (fun pc => false) ?_
      simp only [kk_87, Option.toList_some, Option.toList_none, ex2, ex, catS, vC, isMk, sym2, popN, goC, callOK, swL, List.map_cons, List.map_nil, List.replicate_zero, List.replicate_succ, List.append_nil, List.nil_append, List.cons_append, List.getElem?_cons_zero, List.getElem?_cons_succ, List.set_cons_zero, List.set_cons_succ, List.length_cons, List.length_nil, List.head?_cons, Nat.reduceAdd, Nat.reduceLT, Nat.reduceLeDiff, Nat.reduceBEq, Nat.reduceEqDiff, Nat.succ_ne_zero, Nat.zero_lt_succ, Nat.le_refl, sc_rows, kc_lit, nc_lit, wlk_rows, uR_s, uR_uR, true_and, and_true, true_or, or_true, false_or, or_false, and_false, false_and, or_self, and_self, if_true, if_false, Bool.false_eq_true, Bool.or_false, Bool.or_true, Bool.false_or, Bool.true_or, not_true_eq_false, not_false_eq_true, forall_const, true_implies, false_implies, implies_true, ↓reduceIte, reduceCtorEq, fR, rd1, rd2, rd3, eq_self, t, e, ansCo_s, cmpL, k0 L]
      refine m_goHome h p (fun _ J g1 q1 => ?_) (fun c => absurd c (by rw [hw0]; decide))
      refine wk2 (fn0_ok l) ok_87 40 (fun pc => false) ?_
      simp only [kk_87, Option.toList_some, Option.toList_none, ex2, ex, catS, vC, isMk, sym2, popN, goC, callOK, swL, List.map_cons, List.map_nil, List.replicate_zero, List.replicate_succ, List.append_nil, List.nil_append, List.cons_append, List.getElem?_cons_zero, List.getElem?_cons_succ, List.set_cons_zero, List.set_cons_succ, List.length_cons, List.length_nil, List.head?_cons, Nat.reduceAdd, Nat.reduceLT, Nat.reduceLeDiff, Nat.reduceBEq, Nat.reduceEqDiff, Nat.succ_ne_zero, Nat.zero_lt_succ, Nat.le_refl, sc_rows, kc_lit, nc_lit, wlk_rows, uR_s, uR_uR, true_and, and_true, true_or, or_true, false_or, or_false, and_false, false_and, or_self, and_self, if_true, if_false, Bool.false_eq_true, Bool.or_false, Bool.or_true, Bool.false_or, Bool.true_or, not_true_eq_false, not_false_eq_true, forall_const, true_implies, false_implies, implies_true, ↓reduceIte, reduceCtorEq, fn0, eq_self, hw0, cmpL, d6L, nz_lit, k0 L]
      exact h1 (-5) J (by decide) (by decide) g1 (FL.of q1)
end LC
