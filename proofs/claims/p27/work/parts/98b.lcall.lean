/-! p27: the law's call -/
theorem pl_tab : ∀ x, x < 21 → ∀ y, y < 21 → (nI x ≤ nI y → nI y - nI x = sz32 (nI y - nI x)) ∧ (¬ nI x ≤ nI y → nI x - nI y = sz32 (nI y - nI x)) := by decide +kernel
theorem XZ.call {z : Nat → Int32} {n m k t N : Nat} {f to : Int32} (h : XZ z n k N) (hM : MV z n k) (hL : Ln z n m) (ht : t < n) (hc : cnd z t) (hf : Pl f) (hto : Pl to) (hne : f ≠ to) : XZ (zCl z t f to m) n k (N + 1) := by
  obtain ⟨c, a, b, d, e⟩ := h
  exact ⟨c, (MV.call hM hL a ht hc hf hto hne).2.2.mono (by omega), by omega, (d.call hM hL a ht hc hf hto hne).mono (by omega), e.call hM hL a ht hc hf hto hne⟩
section LCA
variable {l : Launch} {L : Nat} {I : Nat → Nat → Int32} {Q : Nat → Nat → Option Nat} {P : Option Value → PH → Prop} {τ : Nat → Nat → Nat} {b : Nat → Nat} {z : Nat → Int32} {w : Nat → Nat → Int32} {a n m k N : Nat}
set_option maxHeartbeats 2000000 in
set_option maxRecDepth 100000 in
/-- behind a call that was taken -/
theorem l_callE {I' : Nat → Nat → Int32} {Q' : Nat → Nat → Option Nat} {b' : Nat → Nat} {n' m' k' t : Nat} {f to : Int32} (h : CT I Q τ b z w a n m k) (hT : TXI I) (hX : XZ z n k N) (ht : t < n) (hc : cnd z t) (hf : Pl f) (hto : Pl to) (hne : f ≠ to) (g : CT I' Q' τ b' (zCl z t f to m) (wSt w a z) (aSt a) n' m' k') (q : FL I I') (hp : AP L I τ z w a N P) (x10 : Option Value) : Sy l 88 (149, 1788) 122 [some (.ref 0), some (.int f), some (.int to), some (.int (z (tp t 0))), some (.int (nd z t f)), some (.int (fare32 f to)), some (.int (z (tp t 4))), some (.int (z 8)), some (.int (sz32 (to - f))), some (.int (z (tp t 0))), x10] [] (SC L, I', Q') P := by
  obtain ⟨hM, hL⟩ := h.2.1.2
  obtain ⟨c, hE, -, hW, -⟩ := id hX
  obtain ⟨hM', hL', -⟩ := MV.call hM hL hE ht hc hf hto hne
  obtain ⟨e1, e2, e3⟩ := g.nm hM' hL'
  subst e1 e2 e3
  obtain ⟨c1, ⟨c0, c4, -, -, -, c8⟩, d1, d2, co, e8, -, -⟩ := cl_row hM hL hE ht hc hf hto hne
  have hf' : ftz (zCl z t f to m) (z (tp t 0)) n' = some t := ftz_u hL' ht c0
  have tx := ansTx_s (m := mLv z t m) hf'
  have hR := fR_ok (l := l) (L := L) g (hT.fl q).1
  have pn := (hW.2.2.2.2 t ht).1
  have fin := hp (z (tp t 0)) I' Q' τ b' _ _ _ _ (Int32.not_lt.mpr pn) g q (fun _ _ => rfl) (hX.call hM hL ht hc hf hto hne)
  have z0 : zCl z t f to m 0 = z 0 := co 0 (by omega)
  by_cases y : nd z t f = 0
  · rw [if_pos y] at d1 d2
    refine wk2 hR ok_88 150 (fun pc => false) ?_
    simp only [kk_88, Option.toList_some, Option.toList_none, ex2, ex, catS, vC, isMk, sym2, popN, goC, callOK, swL, List.map_cons, List.map_nil, List.replicate_zero, List.replicate_succ, List.append_nil, List.nil_append, List.cons_append, List.getElem?_cons_zero, List.getElem?_cons_succ, List.set_cons_zero, List.set_cons_succ, List.length_cons, List.length_nil, List.head?_cons, Nat.reduceAdd, Nat.reduceLT, Nat.reduceLeDiff, Nat.reduceBEq, Nat.reduceEqDiff, Nat.succ_ne_zero, Nat.zero_lt_succ, Nat.le_refl, sc_rows, kc_lit, nc_lit, wlk_rows, uR_s, uR_uR, true_and, and_true, true_or, or_true, false_or, or_false, and_false, false_and, or_self, and_self, if_true, if_false, Bool.false_eq_true, Bool.or_false, Bool.or_true, Bool.false_or, Bool.true_or, not_true_eq_false, not_false_eq_true, forall_const, true_implies, false_implies, implies_true, ↓reduceIte, reduceCtorEq, fR, rd1, rd2, rd3, eq_self, tx, c4, d1, d2, c8, e8, z0, eq_true y, ansCo_s, nz_lit, d6L, k0 L]
    exact fin
  · rw [if_neg y] at d1 d2
    refine wk2 hR ok_88 150 (fun pc => false) ?_
    simp only [kk_88, Option.toList_some, Option.toList_none, ex2, ex, catS, vC, isMk, sym2, popN, goC, callOK, swL, List.map_cons, List.map_nil, List.replicate_zero, List.replicate_succ, List.append_nil, List.nil_append, List.cons_append, List.getElem?_cons_zero, List.getElem?_cons_succ, List.set_cons_zero, List.set_cons_succ, List.length_cons, List.length_nil, List.head?_cons, Nat.reduceAdd, Nat.reduceLT, Nat.reduceLeDiff, Nat.reduceBEq, Nat.reduceEqDiff, Nat.succ_ne_zero, Nat.zero_lt_succ, Nat.le_refl, sc_rows, kc_lit, nc_lit, wlk_rows, uR_s, uR_uR, true_and, and_true, true_or, or_true, false_or, or_false, and_false, false_and, or_self, and_self, if_true, if_false, Bool.false_eq_true, Bool.or_false, Bool.or_true, Bool.false_or, Bool.true_or, not_true_eq_false, not_false_eq_true, forall_const, true_implies, false_implies, implies_true, ↓reduceIte, reduceCtorEq, fR, rd1, rd2, rd3, eq_self, tx, c4, d1, d2, c8, e8, z0, eq_false y, ansCo_s, nz_lit, d6L, k0 L]
    exact fin
set_option maxHeartbeats 2000000 in
set_option maxRecDepth 100000 in
theorem l_call (h : CT I Q τ b z w a n m k) (hT : TXI I) (hX : XZ z n k N) {x y : Nat} (hx : x < 21) (hy : y < 21) (h1 : AN L I Q τ b z w a n m k P) (h2 : AP L I τ z w a N P) : Runs l 88 [.ref 0, .int (nI x), .int (nI y)] (SC L, I, Q) P := by
  have hR := fR_ok (l := l) (L := L) h hT.1
  obtain ⟨hM, hL⟩ := h.2.1.2
  obtain ⟨c, hE, -, hW, -⟩ := id hX
  have hpl : ∀ t, t < n → ¬ z (tp t 0) < 0 := fun t ht => Int32.not_lt.mpr (hW.2.2.2.2 t ht).1
  have px := pl21 x hx
  have py := pl21 y hy
  have hg : ¬ ¬ ((0 ≤ nI x ∧ nI x ≤ 20) ∧ 0 ≤ nI y ∧ nI y ≤ 20) := fun q => q ⟨px, py⟩
  obtain ⟨t1, t2⟩ := pl_tab x hx y hy
  refine run0 (n := 8) mok_88 ⟨rfl, rfl⟩ rfl ?_
  obtain ⟨le, pv, hle⟩ : ∃ (le : Prop) (pv : Int32), (nI x ≤ nI y) = le ∧ ((le = True ∧ nI y - nI x = pv) ∨ (le = False ∧ nI x - nI y = pv)) ∧ pv = sz32 (nI y - nI x) := by
    by_cases g : nI x ≤ nI y
    · exact ⟨True, _, eq_true g, Or.inl ⟨rfl, rfl⟩, t1 g⟩
    · exact ⟨False, _, eq_false g, Or.inr ⟨rfl, rfl⟩, t2 g⟩
  obtain ⟨hl1, hl2, hl3⟩ := hle
  by_cases e : x = y
  · subst e
    have hw : whyC z n m (nI x) (nI x) = -2 := by unfold whyC; rw [if_neg hg, if_pos rfl]
    have a0 : ∀ v, ansIf z n m (nI x) (nI x) v = -2 := fun v => by unfold ansIf; rw [if_neg hg, if_pos (Or.inl rfl)]
    have lr : (nI x ≤ nI x) = True := eq_true (Int32.le_refl _)
    refine wk2 hR ok_88 80 (fun pc => false) ?_
    simp only [kk_88, Option.toList_some, Option.toList_none, ex2, ex, catS, vC, isMk, sym2, popN, goC, callOK, swL, List.map_cons, List.map_nil, List.replicate_zero, List.replicate_succ, List.append_nil, List.nil_append, List.cons_append, List.getElem?_cons_zero, List.getElem?_cons_succ, List.set_cons_zero, List.set_cons_succ, List.length_cons, List.length_nil, List.head?_cons, Nat.reduceAdd, Nat.reduceLT, Nat.reduceLeDiff, Nat.reduceBEq, Nat.reduceEqDiff, Nat.succ_ne_zero, Nat.zero_lt_succ, Nat.le_refl, sc_rows, kc_lit, nc_lit, wlk_rows, uR_s, uR_uR, true_and, and_true, true_or, or_true, false_or, or_false, and_false, false_and, or_self, and_self, if_true, if_false, Bool.false_eq_true, Bool.or_false, Bool.or_true, Bool.false_or, Bool.true_or, not_true_eq_false, not_false_eq_true, forall_const, true_implies, false_implies, implies_true, ↓reduceIte, reduceCtorEq, fR, rd1, rd2, rd3, eq_self, a0, lr, ansCo_s, cmpL, k0 L]
    refine m_call h (nI x) (nI x) hE hpl (fun _ J g1 q1 => ?_) (fun c => absurd c (by rw [hw]; decide))
    refine wk2 (fn0_ok l) ok_88 40 (fun pc => false) ?_
    simp only [kk_88, Option.toList_some, Option.toList_none, ex2, ex, catS, vC, isMk, sym2, popN, goC, callOK, swL, List.map_cons, List.map_nil, List.replicate_zero, List.replicate_succ, List.append_nil, List.nil_append, List.cons_append, List.getElem?_cons_zero, List.getElem?_cons_succ, List.set_cons_zero, List.set_cons_succ, List.length_cons, List.length_nil, List.head?_cons, Nat.reduceAdd, Nat.reduceLT, Nat.reduceLeDiff, Nat.reduceBEq, Nat.reduceEqDiff, Nat.succ_ne_zero, Nat.zero_lt_succ, Nat.le_refl, sc_rows, kc_lit, nc_lit, wlk_rows, uR_s, uR_uR, true_and, and_true, true_or, or_true, false_or, or_false, and_false, false_and, or_self, and_self, if_true, if_false, Bool.false_eq_true, Bool.or_false, Bool.or_true, Bool.false_or, Bool.true_or, not_true_eq_false, not_false_eq_true, forall_const, true_implies, false_implies, implies_true, ↓reduceIte, reduceCtorEq, fn0, eq_self, hw, cmpL, k0 L]
    exact h1 (-2) J (by decide) (by decide) g1 (FL.of q1)
  · have hne : nI x ≠ nI y := fun q => e ((nI_eq (by omega) (by omega)).mp q)
    have hne' : (nI x = nI y) = False := eq_false hne
    cases hcal : calZ z n m (nI x) with
    | none =>
      have hw : whyC z n m (nI x) (nI y) = -4 := by unfold whyC; rw [if_neg hg, if_neg hne, hcal]
      have a0 : ∀ v, (0 ≤ v ∧ v ≤ 2) → ansIf z n m (nI x) (nI y) v = -4 := fun v hv => by unfold ansIf; rw [if_neg hg, if_neg (fun q => q.elim hne (fun q => q hv)), hcal]
      have b0 := a0 0 (by decide)
      have b1 := a0 1 (by decide)
      have b2' := a0 2 (by decide)
      rcases hl2 with ⟨ht, hv⟩ | ⟨ht, hv⟩
      · refine wk2 hR ok_88 80 (fun pc => false) ?_
        simp only [kk_88, Option.toList_some, Option.toList_none, ex2, ex, catS, vC, isMk, sym2, popN, goC, callOK, swL, List.map_cons, List.map_nil, List.replicate_zero, List.replicate_succ, List.append_nil, List.nil_append, List.cons_append, List.getElem?_cons_zero, List.getElem?_cons_succ, List.set_cons_zero, List.set_cons_succ, List.length_cons, List.length_nil, List.head?_cons, Nat.reduceAdd, Nat.reduceLT, Nat.reduceLeDiff, Nat.reduceBEq, Nat.reduceEqDiff, Nat.succ_ne_zero, Nat.zero_lt_succ, Nat.le_refl, sc_rows, kc_lit, nc_lit, wlk_rows, uR_s, uR_uR, true_and, and_true, true_or, or_true, false_or, or_false, and_false, false_and, or_self, and_self, if_true, if_false, Bool.false_eq_true, Bool.or_false, Bool.or_true, Bool.false_or, Bool.true_or, not_true_eq_false, not_false_eq_true, forall_const, true_implies, false_implies, implies_true, ↓reduceIte, reduceCtorEq, fR, rd1, rd2, rd3, eq_self, b0, b1, b2', hl1, ht, ansCo_s, cmpL, k0 L]
        refine m_call h (nI x) (nI y) hE hpl (fun _ J g1 q1 => ?_) (fun c => absurd c (by rw [hw]; decide))
        refine wk2 (fn0_ok l) ok_88 40 (fun pc => false) ?_
        simp only [kk_88, Option.toList_some, Option.toList_none, ex2, ex, catS, vC, isMk, sym2, popN, goC, callOK, swL, List.map_cons, List.map_nil, List.replicate_zero, List.replicate_succ, List.append_nil, List.nil_append, List.cons_append, List.getElem?_cons_zero, List.getElem?_cons_succ, List.set_cons_zero, List.set_cons_succ, List.length_cons, List.length_nil, List.head?_cons, Nat.reduceAdd, Nat.reduceLT, Nat.reduceLeDiff, Nat.reduceBEq, Nat.reduceEqDiff, Nat.succ_ne_zero, Nat.zero_lt_succ, Nat.le_refl, sc_rows, kc_lit, nc_lit, wlk_rows, uR_s, uR_uR, true_and, and_true, true_or, or_true, false_or, or_false, and_false, false_and, or_self, and_self, if_true, if_false, Bool.false_eq_true, Bool.or_false, Bool.or_true, Bool.false_or, Bool.true_or, not_true_eq_false, not_false_eq_true, forall_const, true_implies, false_implies, implies_true, ↓reduceIte, reduceCtorEq, fn0, eq_self, hw, hne', cmpL, k0 L]
        exact h1 (-4) J (by decide) (by decide) g1 (FL.of q1)
      · refine wk2 hR ok_88 80 (fun pc => false) ?_
        simp only [kk_88, Option.toList_some, Option.toList_none, ex2, ex, catS, vC, isMk, sym2, popN, goC, callOK, swL, List.map_cons, List.map_nil, List.replicate_zero, List.replicate_succ, List.append_nil, List.nil_append, List.cons_append, List.getElem?_cons_zero, List.getElem?_cons_succ, List.set_cons_zero, List.set_cons_succ, List.length_cons, List.length_nil, List.head?_cons, Nat.reduceAdd, Nat.reduceLT, Nat.reduceLeDiff, Nat.reduceBEq, Nat.reduceEqDiff, Nat.succ_ne_zero, Nat.zero_lt_succ, Nat.le_refl, sc_rows, kc_lit, nc_lit, wlk_rows, uR_s, uR_uR, true_and, and_true, true_or, or_true, false_or, or_false, and_false, false_and, or_self, and_self, if_true, if_false, Bool.false_eq_true, Bool.or_false, Bool.or_true, Bool.false_or, Bool.true_or, not_true_eq_false, not_false_eq_true, forall_const, true_implies, false_implies, implies_true, ↓reduceIte, reduceCtorEq, fR, rd1, rd2, rd3, eq_self, b0, b1, b2', hl1, ht, ansCo_s, cmpL, k0 L]
        refine m_call h (nI x) (nI y) hE hpl (fun _ J g1 q1 => ?_) (fun c => absurd c (by rw [hw]; decide))
        refine wk2 (fn0_ok l) ok_88 40 (fun pc => false) ?_
        simp only [kk_88, Option.toList_some, Option.toList_none, ex2, ex, catS, vC, isMk, sym2, popN, goC, callOK, swL, List.map_cons, List.map_nil, List.replicate_zero, List.replicate_succ, List.append_nil, List.nil_append, List.cons_append, List.getElem?_cons_zero, List.getElem?_cons_succ, List.set_cons_zero, List.set_cons_succ, List.length_cons, List.length_nil, List.head?_cons, Nat.reduceAdd, Nat.reduceLT, Nat.reduceLeDiff, Nat.reduceBEq, Nat.reduceEqDiff, Nat.succ_ne_zero, Nat.zero_lt_succ, Nat.le_refl, sc_rows, kc_lit, nc_lit, wlk_rows, uR_s, uR_uR, true_and, and_true, true_or, or_true, false_or, or_false, and_false, false_and, or_self, and_self, if_true, if_false, Bool.false_eq_true, Bool.or_false, Bool.or_true, Bool.false_or, Bool.true_or, not_true_eq_false, not_false_eq_true, forall_const, true_implies, false_implies, implies_true, ↓reduceIte, reduceCtorEq, fn0, eq_self, hw, hne', cmpL, k0 L]
        exact h1 (-4) J (by decide) (by decide) g1 (FL.of q1)
    | some t =>
      obtain ⟨ht, hcn⟩ := calZ_in hL hcal
      have hw : whyC z n m (nI x) (nI y) = 0 := by unfold whyC; rw [if_neg hg, if_neg hne, hcal]
      have b0 : ansIf z n m (nI x) (nI y) 0 = z (tp t 0) := by unfold ansIf; rw [if_neg hg, if_neg (fun q => q.elim hne (fun q => q (by decide))), hcal]; rfl
      have b1 : ansIf z n m (nI x) (nI y) 1 = nd z t (nI x) := by unfold ansIf; rw [if_neg hg, if_neg (fun q => q.elim hne (fun q => q (by decide))), hcal]; rfl
      have b2' : ansIf z n m (nI x) (nI y) 2 = fare32 (nI x) (nI y) := by unfold ansIf; rw [if_neg hg, if_neg (fun q => q.elim hne (fun q => q (by decide))), hcal]; rfl
      have tx := ansTx_s (m := m) (ftz_u hL ht rfl)
      have p0 : (0 ≤ z (tp t 0)) = True := eq_true (hW.2.2.2.2 t ht).1
      have behind : ∀ J Q2 b2'' n2 m2 k2, CT J Q2 τ b2'' (zCl z t (nI x) (nI y) m) (wSt w a z) (aSt a) n2 m2 k2 → FA I J Q Q2 → Sy l 88 (149, 1788) 72 [some (.ref 0), some (.int (nI x)), some (.int (nI y)), some (.int (z (tp t 0))), some (.int (nd z t (nI x))), some (.int (fare32 (nI x) (nI y))), some (.int (z (tp t 4))), some (.int (z 8)), some (.int pv), none, none] [.int (z (tp t 0))] (SC L, J, Q2) P := by
        intro J Q2 b2'' n2 m2 k2 g1 q1
        have := l_callE (l := l) h hT hX ht hcn px py hne g1 (FL.of q1) h2 none
        rw [← hl3] at this
        refine wk2 (fn0_ok l) ok_88 10 (fun pc => pc == 122) ?_
        simp only [kk_88, Option.toList_some, Option.toList_none, ex2, ex, catS, vC, isMk, sym2, popN, goC, callOK, swL, List.map_cons, List.map_nil, List.replicate_zero, List.replicate_succ, List.append_nil, List.nil_append, List.cons_append, List.getElem?_cons_zero, List.getElem?_cons_succ, List.set_cons_zero, List.set_cons_succ, List.length_cons, List.length_nil, List.head?_cons, Nat.reduceAdd, Nat.reduceLT, Nat.reduceLeDiff, Nat.reduceBEq, Nat.reduceEqDiff, Nat.succ_ne_zero, Nat.zero_lt_succ, Nat.le_refl, sc_rows, kc_lit, nc_lit, wlk_rows, uR_s, uR_uR, true_and, and_true, true_or, or_true, false_or, or_false, and_false, false_and, or_self, and_self, if_true, if_false, Bool.false_eq_true, Bool.or_false, Bool.or_true, Bool.false_or, Bool.true_or, not_true_eq_false, not_false_eq_true, forall_const, true_implies, false_implies, implies_true, ↓reduceIte, reduceCtorEq, fn0, eq_self, hne', p0, cmpL, k0 L]
        exact this
      rcases hl2 with ⟨htt, hv⟩ | ⟨htt, hv⟩
      · refine wk2 hR ok_88 80 (fun pc => false) ?_
        simp only [kk_88, Option.toList_some, Option.toList_none, ex2, ex, catS, vC, isMk, sym2, popN, goC, callOK, swL, List.map_cons, List.map_nil, List.replicate_zero, List.replicate_succ, List.append_nil, List.nil_append, List.cons_append, List.getElem?_cons_zero, List.getElem?_cons_succ, List.set_cons_zero, List.set_cons_succ, List.length_cons, List.length_nil, List.head?_cons, Nat.reduceAdd, Nat.reduceLT, Nat.reduceLeDiff, Nat.reduceBEq, Nat.reduceEqDiff, Nat.succ_ne_zero, Nat.zero_lt_succ, Nat.le_refl, sc_rows, kc_lit, nc_lit, wlk_rows, uR_s, uR_uR, true_and, and_true, true_or, or_true, false_or, or_false, and_false, false_and, or_self, and_self, if_true, if_false, Bool.false_eq_true, Bool.or_false, Bool.or_true, Bool.false_or, Bool.true_or, not_true_eq_false, not_false_eq_true, forall_const, true_implies, false_implies, implies_true, ↓reduceIte, reduceCtorEq, fR, rd1, rd2, rd3, eq_self, b0, b1, b2', tx, p0, hl1, htt, hv, ansCo_s, cmpL, k0 L]
        refine m_call h (nI x) (nI y) hE hpl (fun c => absurd c (by rw [hw]; decide)) (fun _ t' ht' _ J Q2 b2'' n2 m2 k2 g1 q1 => ?_)
        obtain rfl : t = t' := by rw [hcal] at ht'; exact Option.some.inj ht'
        exact behind J Q2 b2'' n2 m2 k2 g1 q1
      · refine wk2 hR ok_88 80 (fun pc => false) ?_
        simp only [kk_88, Option.toList_some, Option.toList_none, ex2, ex, catS, vC, isMk, sym2, popN, goC, callOK, swL, List.map_cons, List.map_nil, List.replicate_zero, List.replicate_succ, List.append_nil, List.nil_append, List.cons_append, List.getElem?_cons_zero, List.getElem?_cons_succ, List.set_cons_zero, List.set_cons_succ, List.length_cons, List.length_nil, List.head?_cons, Nat.reduceAdd, Nat.reduceLT, Nat.reduceLeDiff, Nat.reduceBEq, Nat.reduceEqDiff, Nat.succ_ne_zero, Nat.zero_lt_succ, Nat.le_refl, sc_rows, kc_lit, nc_lit, wlk_rows, uR_s, uR_uR, true_and, and_true, true_or, or_true, false_or, or_false, and_false, false_and, or_self, and_self, if_true, if_false, Bool.false_eq_true, Bool.or_false, Bool.or_true, Bool.false_or, Bool.true_or, not_true_eq_false, not_false_eq_true, forall_const, true_implies, false_implies, implies_true, ↓reduceIte, reduceCtorEq, fR, rd1, rd2, rd3, eq_self, b0, b1, b2', tx, p0, hl1, htt, hv, ansCo_s, cmpL, k0 L]
        refine m_call h (nI x) (nI y) hE hpl (fun c => absurd c (by rw [hw]; decide)) (fun _ t' ht' _ J Q2 b2'' n2 m2 k2 g1 q1 => ?_)
        obtain rfl : t = t' := by rw [hcal] at ht'; exact Option.some.inj ht'
        exact behind J Q2 b2'' n2 m2 k2 g1 q1
end LCA
