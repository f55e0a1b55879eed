/-! minutes that pass: the class, the reference, what holds -/
def zIt (z : Nat → Int32) : Nat → (Nat → Int32)
  | 0 => z
  | n + 1 => zMn (zIt z n)
def whyP (z : Nat → Int32) (x : Int32) : Int32 := if ¬ (1 ≤ x ∧ x ≤ 999) then -2 else if 99999 < z 5 + x then -3 else 0
theorem MV.mn {z : Nat → Int32} {n k b c : Nat} (hM : MV z n k) (hE : EX z n k b c) : ∃ k', MV (zMn z) n k' ∧ EX (zMn z) n k' b (c + 1) := by
  obtain ⟨k', a, b, -⟩ := min_tk 0 0 hM hE (Or.inl rfl)
  exact ⟨k', a, b⟩
theorem MV.it {z : Nat → Int32} {n k b c : Nat} (hM : MV z n k) (hE : EX z n k b c) : ∀ i, ∃ k', MV (zIt z i) n k' ∧ EX (zIt z i) n k' b (c + i) := by
  intro i
  induction i with
  | zero => exact ⟨k, hM, hE⟩
  | succ i ih =>
    obtain ⟨k', a, b⟩ := ih
    obtain ⟨k2, a2, b2⟩ := a.mn b
    exact ⟨k2, a2, b2⟩
theorem nn999 {x : Int32} (h : 1 ≤ x ∧ x ≤ 999) : ∃ N, N ≤ 999 ∧ 1 ≤ N ∧ x = nI N := by
  obtain ⟨N, h1, rfl⟩ := nI_of2 (M := 999) (n := 999) (x := x) rfl (nn_of1 h.1) h.2
  refine ⟨N, h1, ?_, rfl⟩
  by_cases q : N = 0
  · subst q; exact absurd h.1 (by decide)
  · omega
theorem whyP_0 {z : Nat → Int32} {x : Int32} {c : Nat} (h5 : z 5 = nI c) (hc : c ≤ 99999) (h : whyP z x = 0) : ∃ N, 1 ≤ N ∧ N ≤ 999 ∧ x = nI N ∧ c + N ≤ 99999 := by
  unfold whyP at h
  by_cases g : 1 ≤ x ∧ x ≤ 999
  · rw [if_neg (fun q => q g)] at h
    by_cases g2 : 99999 < z 5 + x
    · rw [if_pos g2] at h; exact absurd h (by decide)
    · obtain ⟨N, a, b, rfl⟩ := nn999 g
      refine ⟨N, b, a, rfl, ?_⟩
      rw [h5, nI_add, show (99999 : Int32) = nI 99999 from rfl, nI_ltI (by omega) (by omega)] at g2
      omega
  · rw [if_pos g] at h; exact absurd h (by decide)
theorem XV.it {z : Nat → Int32} {b : Nat} {x : Int32} (h : XV z b) (hw : whyP z x = 0) : XV (zIt z (ix x)) b := by
  obtain ⟨n, k, c, hM, hE, hc⟩ := h
  obtain ⟨N, h1, h2, rfl, h3⟩ := whyP_0 hE.2.1 hc hw
  rw [ix_nI (by omega)]
  obtain ⟨k', a, b⟩ := hM.it hE N
  exact ⟨n, k', c + N, a, b, h3⟩
theorem MV.mn0 {z : Nat → Int32} {n k : Nat} (hM : MV z n k) : ∃ k', MV (zMn z) n k' := by
  have hM1 := hM.clock (z 5 + 1)
  have hn := hM.n
  have hk := hM.2.2.2.2.1
  have e11 : ix (z 11) = n := by rw [hn.1]; exact ix_nI (by omega)
  have e13 : ix (z 13) = k := by rw [hM.2.2.2.1]; exact ix_nI (by omega)
  have hM2 := zTs_inv hM1 n (Nat.le_refl n)
  have key : ∀ r k (w : Nat → Int32), MV w n k → r ≤ k → ∃ k3, MV (zDis w r) n k3 := by
    intro r
    induction r with
    | zero => intro k w hw _; exact ⟨k, hw⟩
    | succ r ih =>
      intro k w hw hr
      obtain ⟨k', a, b⟩ := hw.ds (r := r) (by omega)
      exact ih k' _ a b
  obtain ⟨k3, hM3⟩ := key k k _ hM2 (Nat.le_refl k)
  have e3 : zDis (zTs (upd z 5 (z 5 + 1)) n) k = zM3 z := by simp only [zM3, e11, e13]
  rw [e3] at hM3
  have e13' : ix (zM3 z 13) = k3 := by rw [hM3.2.2.2.1]; exact ix_nI (by have := hM3.2.2.2.2.1; omega)
  have seats : ∀ d r (z : Nat → Int32) k hr, MV z n k → r + d = k → ∃ k', MV (seat 0 d z hr r).1 n k' := by
    intro d
    induction d with
    | zero => intro r z k hr hM _; exact ⟨k, hM⟩
    | succ d ih =>
      intro r z k hr hM he
      obtain ⟨⟨m, hl⟩, -⟩ := id hM
      have e11 : ix (z 11) = n := by rw [hl.1]; exact ix_nI (by have := hl.2.1; omega)
      have e12 : ix (z 12) = m := by rw [hl.2.2.1]; exact ix_nI (by have := hl.2.2.2.2.2.2.2; omega)
      cases hrd : rider z n m (z (27 + 3 * r)) with
      | none =>
        have es : seat 0 (d + 1) z hr r = seat 0 d z hr (r + 1) := by simp only [seat, e11, e12, hrd]
        rw [es]
        exact ih (r + 1) z k hr hM (by omega)
      | some t0 =>
        have es : seat 0 (d + 1) z hr r = seat 0 d (zSit z t0 r) (b2 (¬ hr = 0 ∨ z (27 + 3 * r + 2) = 0)) r := by simp only [seat, e11, e12, hrd]
        rw [es]
        exact ih r _ (k - 1) _ (hM.sit hl (by omega) hrd) (by omega)
  have em : zMn z = (seat 0 k3 (zM3 z) 0 0).1 := by simp only [zMn, zMin, e13']
  rw [em]
  exact seats k3 0 _ k3 0 hM3 (by omega)
section E1
variable {l : Launch} {L : Nat} {I : Nat → Nat → Int32} {Q : Nat → Nat → Option Nat} {P : Option Value → PH → Prop} {B : Nat} {σ : Nat → Nat} {z : Nat → Int32} {n m k : Nat}
theorem c_mn (hB : TB B) (hQ : QT0 Q B) (hS : QS Q B σ) (hM : MV z n k) (hL : Ln z n m) (hC : CA I B σ z n m k) (h1 : ∀ I' k' m', MV (zMn z) n k' → Ln (zMn z) n m' → CA I' B σ (zMn z) n m' k' → Fr I I' B → P none (SC L, I', Q)) : Runs l 43 [.ref B] (SC L, I, Q) P := c_minute hB hQ hS 0 0 hM hL hC h1
set_option maxRecDepth 100000 in
theorem c_letPass (hB : TB B) (hQ : QT0 Q B) (hS : QS Q B σ) (hM : MV z n k) (hL : Ln z n m) (hC : CA I B σ z n m k) (x : Int32) (h1 : whyP z x < 0 → P (some (.int (whyP z x))) (SC L, I, Q)) (h2 : whyP z x = 0 → ∀ I' k' m', MV (zIt z (ix x)) n k' → Ln (zIt z (ix x)) n m' → CA I' B σ (zIt z (ix x)) n m' k' → Fr I I' B → P (some (.int (zIt z (ix x) 9 - z 9))) (SC L, I', Q)) : Runs l 30 [.ref B, .int x] (SC L, I, Q) P := by
  have w := hC.tw
  refine run0 (n := 2) mok_30 ⟨rfl, rfl⟩ rfl ?_
  by_cases g : 1 ≤ x ∧ x ≤ 999
  · by_cases g2 : 99999 < z 5 + x
    · have ew : whyP z x = -3 := by unfold whyP; rw [if_neg (fun q => q g), if_pos g2]
      refine wk ((fn0_ok l)) ok_30 40 (fun pc => pc == 36) ?_
      simp only [fn0, kk_30, Option.toList_some, Option.toList_none, ex, catS, vC, isMk, sym, popN, goC, callOK, swL, List.map_cons, List.map_nil, List.replicate_zero, List.replicate_succ, List.append_nil, List.nil_append, List.cons_append, List.getElem?_cons_zero, List.getElem?_cons_succ, List.set_cons_zero, List.set_cons_succ, List.length_cons, List.length_nil, List.head?_cons, Nat.reduceAdd, Nat.reduceLT, Nat.reduceLeDiff, Nat.reduceBEq, Nat.reduceEqDiff, Nat.succ_ne_zero, Nat.zero_lt_succ, Nat.le_refl, sc_rows, kc_lit, nc_lit, wlk_rows, uR_s, uR_uR, true_and, and_true, true_or, or_true, false_or, or_false, and_false, false_and, or_self, and_self, if_true, if_false, Bool.false_eq_true, Bool.or_false, Bool.or_true, Bool.false_or, Bool.true_or, not_true_eq_false, not_false_eq_true, forall_const, true_implies, false_implies, implies_true, reduceIte, reduceCtorEq, tbk hB, tbx hB, w, eq_false (Int32.not_lt.mpr g.1), g.2, eq_false (Int32.not_le.mpr g2)]
      rw [ew] at h1
      exact h1 (by decide)
    · have ew : whyP z x = 0 := by unfold whyP; rw [if_neg (fun q => q g), if_neg g2]
      obtain ⟨N, n1, n2, rfl⟩ := nn999 g
      have h2' := h2 ew
      rw [ix_nI (by omega)] at h2'
      have loop : ∀ d i I0 k0 m0, i + d = N → MV (zIt z i) n k0 → Ln (zIt z i) n m0 → CA I0 B σ (zIt z i) n m0 k0 → Fr I I0 B → Sy l 30 (149, 1788) 36 [some (.ref B), some (.int (nI N)), some (.int (z 9)), some (.int (nI i))] [] (SC L, I0, Q) P := by
        intro d
        induction d with
        | zero =>
          intro i I0 k0 m0 hi hM0 hL0 hC0 hF
          have : i = N := by omega
          subst this
          have w0 := hC0.tw
          refine wk ((fn0_ok l)) ok_30 40 (fun pc => false) ?_
          simp only [fn0, kk_30, Option.toList_some, Option.toList_none, ex, catS, vC, isMk, sym, popN, goC, callOK, swL, List.map_cons, List.map_nil, List.replicate_zero, List.replicate_succ, List.append_nil, List.nil_append, List.cons_append, List.getElem?_cons_zero, List.getElem?_cons_succ, List.set_cons_zero, List.set_cons_succ, List.length_cons, List.length_nil, List.head?_cons, Nat.reduceAdd, Nat.reduceLT, Nat.reduceLeDiff, Nat.reduceBEq, Nat.reduceEqDiff, Nat.succ_ne_zero, Nat.zero_lt_succ, Nat.le_refl, sc_rows, kc_lit, nc_lit, wlk_rows, uR_s, uR_uR, true_and, and_true, true_or, or_true, false_or, or_false, and_false, false_and, or_self, and_self, if_true, if_false, Bool.false_eq_true, Bool.or_false, Bool.or_true, Bool.false_or, Bool.true_or, not_true_eq_false, not_false_eq_true, forall_const, true_implies, false_implies, implies_true, reduceIte, reduceCtorEq, tbk hB, tbx hB, w0, leT (Nat.le_refl i) (show i < 2147483648 by omega)]
          exact h2' I0 k0 m0 hM0 hL0 hC0 hF
        | succ d ih =>
          intro i I0 k0 m0 hi hM0 hL0 hC0 hF
          refine wk ((fn0_ok l)) ok_30 40 (fun pc => pc == 36) ?_
          simp only [fn0, kk_30, Option.toList_some, Option.toList_none, ex, catS, vC, isMk, sym, popN, goC, callOK, swL, List.map_cons, List.map_nil, List.replicate_zero, List.replicate_succ, List.append_nil, List.nil_append, List.cons_append, List.getElem?_cons_zero, List.getElem?_cons_succ, List.set_cons_zero, List.set_cons_succ, List.length_cons, List.length_nil, List.head?_cons, Nat.reduceAdd, Nat.reduceLT, Nat.reduceLeDiff, Nat.reduceBEq, Nat.reduceEqDiff, Nat.succ_ne_zero, Nat.zero_lt_succ, Nat.le_refl, sc_rows, kc_lit, nc_lit, wlk_rows, uR_s, uR_uR, true_and, and_true, true_or, or_true, false_or, or_false, and_false, false_and, or_self, and_self, if_true, if_false, Bool.false_eq_true, Bool.or_false, Bool.or_true, Bool.false_or, Bool.true_or, not_true_eq_false, not_false_eq_true, forall_const, true_implies, false_implies, implies_true, reduceIte, reduceCtorEq, tbk hB, tbx hB, leF (show i < N by omega) (show N < 2147483648 by omega)]
          refine c_mn hB hQ hS hM0 hL0 hC0 (fun I1 k1 m1 a b c f => ?_)
          refine wk ((fn0_ok l)) ok_30 40 (fun pc => pc == 36) ?_
          simp only [fn0, kk_30, Option.toList_some, Option.toList_none, ex, catS, vC, isMk, sym, popN, goC, callOK, swL, List.map_cons, List.map_nil, List.replicate_zero, List.replicate_succ, List.append_nil, List.nil_append, List.cons_append, List.getElem?_cons_zero, List.getElem?_cons_succ, List.set_cons_zero, List.set_cons_succ, List.length_cons, List.length_nil, List.head?_cons, Nat.reduceAdd, Nat.reduceLT, Nat.reduceLeDiff, Nat.reduceBEq, Nat.reduceEqDiff, Nat.succ_ne_zero, Nat.zero_lt_succ, Nat.le_refl, sc_rows, kc_lit, nc_lit, wlk_rows, uR_s, uR_uR, true_and, and_true, true_or, or_true, false_or, or_false, and_false, false_and, or_self, and_self, if_true, if_false, Bool.false_eq_true, Bool.or_false, Bool.or_true, Bool.false_or, Bool.true_or, not_true_eq_false, not_false_eq_true, forall_const, true_implies, false_implies, implies_true, reduceIte, reduceCtorEq, nI_up]
          exact ih (i + 1) I1 k1 m1 (by omega) a b c (hF.tr f)
      refine wk ((fn0_ok l)) ok_30 40 (fun pc => pc == 36) ?_
      simp only [fn0, kk_30, Option.toList_some, Option.toList_none, ex, catS, vC, isMk, sym, popN, goC, callOK, swL, List.map_cons, List.map_nil, List.replicate_zero, List.replicate_succ, List.append_nil, List.nil_append, List.cons_append, List.getElem?_cons_zero, List.getElem?_cons_succ, List.set_cons_zero, List.set_cons_succ, List.length_cons, List.length_nil, List.head?_cons, Nat.reduceAdd, Nat.reduceLT, Nat.reduceLeDiff, Nat.reduceBEq, Nat.reduceEqDiff, Nat.succ_ne_zero, Nat.zero_lt_succ, Nat.le_refl, sc_rows, kc_lit, nc_lit, wlk_rows, uR_s, uR_uR, true_and, and_true, true_or, or_true, false_or, or_false, and_false, false_and, or_self, and_self, if_true, if_false, Bool.false_eq_true, Bool.or_false, Bool.or_true, Bool.false_or, Bool.true_or, not_true_eq_false, not_false_eq_true, forall_const, true_implies, false_implies, implies_true, reduceIte, reduceCtorEq, tbk hB, tbx hB, w, eq_false (Int32.not_lt.mpr g.1), g.2, Int32.not_lt.mp g2]
      exact loop N 0 I k m (by omega) hM hL hC (Fr.rf I B)
  · have ew : whyP z x = -2 := by unfold whyP; rw [if_pos g]
    rw [ew] at h1
    by_cases g1 : x < 1
    · refine wk ((fn0_ok l)) ok_30 40 (fun pc => pc == 36) ?_
      simp only [fn0, kk_30, Option.toList_some, Option.toList_none, ex, catS, vC, isMk, sym, popN, goC, callOK, swL, List.map_cons, List.map_nil, List.replicate_zero, List.replicate_succ, List.append_nil, List.nil_append, List.cons_append, List.getElem?_cons_zero, List.getElem?_cons_succ, List.set_cons_zero, List.set_cons_succ, List.length_cons, List.length_nil, List.head?_cons, Nat.reduceAdd, Nat.reduceLT, Nat.reduceLeDiff, Nat.reduceBEq, Nat.reduceEqDiff, Nat.succ_ne_zero, Nat.zero_lt_succ, Nat.le_refl, sc_rows, kc_lit, nc_lit, wlk_rows, uR_s, uR_uR, true_and, and_true, true_or, or_true, false_or, or_false, and_false, false_and, or_self, and_self, if_true, if_false, Bool.false_eq_true, Bool.or_false, Bool.or_true, Bool.false_or, Bool.true_or, not_true_eq_false, not_false_eq_true, forall_const, true_implies, false_implies, implies_true, reduceIte, reduceCtorEq, g1]
      exact h1 (by decide)
    · have g3 : ¬ x ≤ 999 := fun q => g ⟨Int32.not_lt.mp g1, q⟩
      refine wk ((fn0_ok l)) ok_30 40 (fun pc => pc == 36) ?_
      simp only [fn0, kk_30, Option.toList_some, Option.toList_none, ex, catS, vC, isMk, sym, popN, goC, callOK, swL, List.map_cons, List.map_nil, List.replicate_zero, List.replicate_succ, List.append_nil, List.nil_append, List.cons_append, List.getElem?_cons_zero, List.getElem?_cons_succ, List.set_cons_zero, List.set_cons_succ, List.length_cons, List.length_nil, List.head?_cons, Nat.reduceAdd, Nat.reduceLT, Nat.reduceLeDiff, Nat.reduceBEq, Nat.reduceEqDiff, Nat.succ_ne_zero, Nat.zero_lt_succ, Nat.le_refl, sc_rows, kc_lit, nc_lit, wlk_rows, uR_s, uR_uR, true_and, and_true, true_or, or_true, false_or, or_false, and_false, false_and, or_self, and_self, if_true, if_false, Bool.false_eq_true, Bool.or_false, Bool.or_true, Bool.false_or, Bool.true_or, not_true_eq_false, not_false_eq_true, forall_const, true_implies, false_implies, implies_true, reduceIte, reduceCtorEq, g1, g3]
      exact h1 (by decide)
variable {y : Nat → Int32}
end E1

