/-! the class: storing a state, taking it back -/
section D5
variable {l : Launch} {L : Nat} {I : Nat → Nat → Int32} {Q : Nat → Nat → Option Nat} {P : Option Value → PH → Prop}
/-- a town whose rows have not changed -/
theorem CA.fr {I I' : Nat → Nat → Int32} {B : Nat} {σ : Nat → Nat} {z : Nat → Int32} {n m k : Nat} (h : CA I B σ z n m k) (hs : ∀ i, i < 12 → σ i < 12) (hn : n ≤ 12) (e : ∀ p, B ≤ p → p < B + 20 → I' p = I p) : CA I' B σ z n m k := by
  obtain ⟨a, b, c, d, f, g⟩ := h
  refine ⟨by rw [e B (by omega) (by omega)]; exact a, fun i hi => ?_, fun i h1 h2 u hu => ?_, by rw [e (B + 14) (by omega) (by omega)]; exact d, by rw [e (B + 19) (by omega) (by omega)]; exact f, ?_⟩
  · have := hs i (by omega)
    rw [e _ (by omega) (by omega)]; exact b i hi
  · have := hs i h2
    rw [e _ (by omega) (by omega)]; exact c i h1 h2 u hu
  · unfold WtA
    rw [e (B + 15) (by omega) (by omega), e (B + 16) (by omega) (by omega), e (B + 17) (by omega) (by omega), e (B + 18) (by omega) (by omega)]
    exact g
/-- every town's references -/
def QA (Q : Nat → Nat → Option Nat) (τ : Nat → Nat → Nat) : Prop := ∀ B, TB B → QT0 Q B ∧ QS Q B (τ B)
theorem QA.row {Q : Nat → Nat → Option Nat} {τ : Nat → Nat → Nat} (h : QA Q τ) (g : Nat → Option Nat) : QA (uR Q 62 g) τ := by
  intro B hB
  obtain ⟨a, b⟩ := h B hB
  have n0 : B ≠ 62 ∧ B + 15 ≠ 62 ∧ B + 1 ≠ 62 := by rcases hB with rfl | rfl | rfl | rfl | rfl | rfl | rfl <;> omega
  refine ⟨?_, ?_, b.2⟩
  · unfold QT0
    rw [uR_n _ _ n0.1, uR_n _ _ n0.2.1]
    exact a
  · intro i hi
    rw [uR_n _ _ n0.2.2]
    exact b.1 i hi
/-- a state that a town holds -/
def TH (I : Nat → Nat → Int32) (B : Nat) (σ : Nat → Nat) (z : Nat → Int32) : Prop := ∃ n m k, CA I B σ z n m k ∧ MV z n k ∧ Ln z n m
theorem TH.fr {I I' : Nat → Nat → Int32} {B : Nat} {σ : Nat → Nat} {z : Nat → Int32} (h : TH I B σ z) (hs : ∀ i, i < 12 → σ i < 12) (e : ∀ p, B ≤ p → p < B + 20 → I' p = I p) : TH I' B σ z := by
  obtain ⟨n, m, k, a, b, c⟩ := h
  exact ⟨n, m, k, a.fr hs b.n.2 e, b, c⟩
def HB (p : Nat) : Prop := p = 63 ∨ p = 83 ∨ p = 103 ∨ p = 123
theorem HB.tb {p : Nat} (h : HB p) : TB p := by rcases h with rfl | rfl | rfl | rfl <;> unfold TB <;> omega
theorem HB.ne {p q : Nat} (h : HB p) (h2 : HB q) (hne : p ≠ q) : p + 20 ≤ q ∨ q + 20 ≤ p := tb_ne h.tb h2.tb hne
def HQ (Q : Nat → Nat → Option Nat) (b : Nat → Nat) : Prop := Q 61 0 = some 62 ∧ (∀ i, i < 4 → Q 62 i = some (b i) ∧ HB (b i)) ∧ ∀ i j, i < 4 → j < 4 → b i = b j → i = j
def HS (I : Nat → Nat → Int32) (b : Nat → Nat) (τ : Nat → Nat → Nat) (w : Nat → Nat → Int32) (a : Nat) : Prop := I 61 1 = nI a ∧ a ≤ 4 ∧ ∀ i, i < a → TH I (b i) (τ (b i)) (w i)
def wSt (w : Nat → Nat → Int32) (a : Nat) (z : Nat → Int32) : Nat → Nat → Int32 := if a = 4 then fun i => if i = 3 then z else w (i + 1) else fun i => if i = a then z else w i
def aSt (a : Nat) : Nat := if a = 4 then 4 else a + 1
/-- nothing but the history has changed -/
def FrH (I I' : Nat → Nat → Int32) (Q Q' : Nat → Nat → Option Nat) : Prop := (∀ p, (p < 61 ∨ p = 62 ∨ 143 ≤ p) → I' p = I p) ∧ ∀ p, p ≠ 62 → Q' p = Q p
theorem HB.bd {p : Nat} (h : HB p) : 63 ≤ p ∧ p + 20 ≤ 143 := by rcases h with rfl | rfl | rfl | rfl <;> omega
set_option maxRecDepth 100000 in
theorem c_store {b : Nat → Nat} {τ : Nat → Nat → Nat} {w : Nat → Nat → Int32} {a C : Nat} {z : Nat → Int32} (hQ : QA Q τ) (hH : HQ Q b) (hA : HS I b τ w a) (hTC : C = 1 ∨ C = 21 ∨ C = 41) (hz : TH I C (τ C) z) (h1 : ∀ I' Q' b', QA Q' τ → HQ Q' b' → HS I' b' τ (wSt w a z) (aSt a) → FrH I I' Q Q' → P none (SC L, I', Q')) : Runs l 1 [.ref 61, .ref C] (SC L, I, Q) P := by
  obtain ⟨hq0, hq1, hq2⟩ := hH
  obtain ⟨e1, ha, hw⟩ := hA
  obtain ⟨n, m, k, hC, hM, hL⟩ := hz
  have hCB : TB C := by rcases hTC with rfl | rfl | rfl <;> unfold TB <;> omega
  have hC61 : C + 20 ≤ 61 := by omega
  have hbt : ∀ i, i < 4 → TB (b i) := fun i hi => (hq1 i hi).2.tb
  have hW : ∀ i, i < n → TxW z i := fun i hi => (hM.2.1 i hi).1
  refine run0 (n := 0) mok_1 ⟨rfl, rfl⟩ rfl ?_
  by_cases g : a = 4
  · subst g
    have e4 : I 61 1 = 4 := e1
    have hb : ∀ i, i < 4 → Q 62 i = some (b i) ∧ KC (b i) = 4 ∧ b i < 149 := fun i hi => ⟨(hq1 i hi).1, (tbk (hbt i hi)).1, (tbx (hbt i hi)).1⟩
    have b0 := (hq1 0 (by omega)).2.bd
    refine wk ((fn0_ok l)) ok_1 40 (fun pc => false) ?_
    simp only [fn0, kk_1, Option.toList_some, Option.toList_none, ex, catS, vC, isMk, sym, popN, goC, callOK, swL, List.map_cons, List.map_nil, List.replicate_zero, List.replicate_succ, List.append_nil, List.nil_append, List.cons_append, List.getElem?_cons_zero, List.getElem?_cons_succ, List.set_cons_zero, List.set_cons_succ, List.length_cons, List.length_nil, List.head?_cons, Nat.reduceAdd, Nat.reduceLT, Nat.reduceLeDiff, Nat.reduceBEq, Nat.reduceEqDiff, Nat.succ_ne_zero, Nat.zero_lt_succ, Nat.le_refl, sc_rows, kc_lit, nc_lit, wlk_rows, uR_s, uR_uR, true_and, and_true, true_or, or_true, false_or, or_false, and_false, false_and, or_self, and_self, if_true, if_false, Bool.false_eq_true, Bool.or_false, Bool.or_true, Bool.false_or, Bool.true_or, not_true_eq_false, not_false_eq_true, forall_const, true_implies, false_implies, implies_true, reduceIte, reduceCtorEq, kH L, e4]
    refine c_dropOldest b hq0 e4 hb ?_
    have ur : ∀ (f : Nat → Nat → Option Nat) g, uR f 62 g 61 = f 61 := fun f g => uR_n _ _ (by omega)
    have er : rot (Q 62) b 3 = some (b 0) := by simp [rot, va_up]
    have hQ' := hQ.row (rot (Q 62) b)
    have hC' : CA (uR I 61 (upd (I 61) 1 3)) C (τ C) z n m k := hC.fr (hQ C hCB).2.2.1 hM.n.2 (fun p h1 h2 => uR_n _ _ (by omega))
    refine wk ((fn0_ok l)) ok_1 40 (fun pc => false) ?_
    simp only [fn0, kk_1, Option.toList_some, Option.toList_none, ex, catS, vC, isMk, sym, popN, goC, callOK, swL, List.map_cons, List.map_nil, List.replicate_zero, List.replicate_succ, List.append_nil, List.nil_append, List.cons_append, List.getElem?_cons_zero, List.getElem?_cons_succ, List.set_cons_zero, List.set_cons_succ, List.length_cons, List.length_nil, List.head?_cons, Nat.reduceAdd, Nat.reduceLT, Nat.reduceLeDiff, Nat.reduceBEq, Nat.reduceEqDiff, Nat.succ_ne_zero, Nat.zero_lt_succ, Nat.le_refl, sc_rows, kc_lit, nc_lit, wlk_rows, uR_s, uR_uR, true_and, and_true, true_or, or_true, false_or, or_false, and_false, false_and, or_self, and_self, if_true, if_false, Bool.false_eq_true, Bool.or_false, Bool.or_true, Bool.false_or, Bool.true_or, not_true_eq_false, not_false_eq_true, forall_const, true_implies, false_implies, implies_true, reduceIte, reduceCtorEq, kH L, ur, hq0, er, in4, cl_lit, upd_e, tbk (hbt 0 (by omega)), tbx (hbt 0 (by omega)), tbk hCB, tbx hCB]
    refine c_copyTown (hbt 0 (by omega)) hCB (by omega) (hQ' _ (hbt 0 (by omega))).1 (hQ' _ hCB).1 (hQ' _ (hbt 0 (by omega))).2 (hQ' _ hCB).2 hC' hW hM.n.2 hL.2.2.2.2.2.2.2 hM.2.2.2.2.1 (fun I' hC2 hF => ?_)
    have e61 : I' 61 = upd (I 61) 1 3 := by rw [hF 61 (by omega), uR_s]
    refine wk ((fn0_ok l)) ok_1 40 (fun pc => false) ?_
    simp only [fn0, kk_1, Option.toList_some, Option.toList_none, ex, catS, vC, isMk, sym, popN, goC, callOK, swL, List.map_cons, List.map_nil, List.replicate_zero, List.replicate_succ, List.append_nil, List.nil_append, List.cons_append, List.getElem?_cons_zero, List.getElem?_cons_succ, List.set_cons_zero, List.set_cons_succ, List.length_cons, List.length_nil, List.head?_cons, Nat.reduceAdd, Nat.reduceLT, Nat.reduceLeDiff, Nat.reduceBEq, Nat.reduceEqDiff, Nat.succ_ne_zero, Nat.zero_lt_succ, Nat.le_refl, sc_rows, kc_lit, nc_lit, wlk_rows, uR_s, uR_uR, true_and, and_true, true_or, or_true, false_or, or_false, and_false, false_and, or_self, and_self, if_true, if_false, Bool.false_eq_true, Bool.or_false, Bool.or_true, Bool.false_or, Bool.true_or, not_true_eq_false, not_false_eq_true, forall_const, true_implies, false_implies, implies_true, reduceIte, reduceCtorEq, kH L, e61, upd_e, show (3 : Int32) + 1 = 4 by decide]
    have ea : aSt 4 = 4 := rfl
    refine h1 _ _ (fun i => if i = 3 then b 0 else b (i + 1)) hQ' ⟨?_, fun i hi => ?_, fun i j hi hj e => ?_⟩ ⟨?_, ?_, fun i hi => ?_⟩ ⟨fun p hp => ?_, fun p hp => uR_n _ _ hp⟩
    · rw [ur]; exact hq0
    · rw [uR_s]
      match i, hi with
      | 0, _ => exact ⟨by simp [rot, va_up], (hq1 1 (by omega)).2⟩
      | 1, _ => exact ⟨by simp [rot, va_up], (hq1 2 (by omega)).2⟩
      | 2, _ => exact ⟨by simp [rot, va_up], (hq1 3 (by omega)).2⟩
      | 3, _ => exact ⟨by simp [rot, va_up], (hq1 0 (by omega)).2⟩
    · by_cases q1 : i = 3
      · by_cases q2 : j = 3
        · omega
        · simp only [if_pos q1, if_neg q2] at e
          have := hq2 0 (j + 1) (by omega) (by omega) e
          omega
      · by_cases q2 : j = 3
        · simp only [if_neg q1, if_pos q2] at e
          have := hq2 (i + 1) 0 (by omega) (by omega) e
          omega
        · simp only [if_neg q1, if_neg q2] at e
          have := hq2 (i + 1) (j + 1) (by omega) (by omega) e
          omega
    · rw [uR_s, upd_e, ea]; rfl
    · rw [ea]; omega
    · rw [ea] at hi
      simp only [wSt, if_true]
      by_cases q : i = 3
      · rw [if_pos q, if_pos q]
        exact ⟨n, m, k, hC2.fr (hQ _ (hbt 0 (by omega))).2.2.1 hM.n.2 (fun p h1 h2 => uR_n _ _ (by omega)), hM, hL⟩
      · rw [if_neg q, if_neg q]
        have bi := (hq1 (i + 1) (by omega)).2.bd
        have hne := (hq1 (i + 1) (by omega)).2.ne (hq1 0 (by omega)).2 (fun e => by have := hq2 _ _ (by omega) (by omega) e; omega)
        refine (hw (i + 1) (by omega)).fr (hQ _ (hbt (i + 1) (by omega))).2.2.1 (fun p h1 h2 => ?_)
        rw [uR_n _ _ (by omega), hF p (by omega), uR_n _ _ (by omega)]
    · rw [uR_n _ _ (by omega), hF p (by omega), uR_n _ _ (by omega)]
  · have e4 : (nI a = 4) = False := by rw [show (4 : Int32) = nI 4 from rfl]; exact eqF g (by omega) (by omega)
    have ba := (hq1 a (by omega)).2.bd
    refine wk ((fn0_ok l)) ok_1 40 (fun pc => false) ?_
    simp only [fn0, kk_1, Option.toList_some, Option.toList_none, ex, catS, vC, isMk, sym, popN, goC, callOK, swL, List.map_cons, List.map_nil, List.replicate_zero, List.replicate_succ, List.append_nil, List.nil_append, List.cons_append, List.getElem?_cons_zero, List.getElem?_cons_succ, List.set_cons_zero, List.set_cons_succ, List.length_cons, List.length_nil, List.head?_cons, Nat.reduceAdd, Nat.reduceLT, Nat.reduceLeDiff, Nat.reduceBEq, Nat.reduceEqDiff, Nat.succ_ne_zero, Nat.zero_lt_succ, Nat.le_refl, sc_rows, kc_lit, nc_lit, wlk_rows, uR_s, uR_uR, true_and, and_true, true_or, or_true, false_or, or_false, and_false, false_and, or_self, and_self, if_true, if_false, Bool.false_eq_true, Bool.or_false, Bool.or_true, Bool.false_or, Bool.true_or, not_true_eq_false, not_false_eq_true, forall_const, true_implies, false_implies, implies_true, reduceIte, reduceCtorEq, kH L, e1, e4, hq0, ixp (show a < 4 by omega) (by omega), (hq1 a (by omega)).1, tbk (hbt a (by omega)), tbx (hbt a (by omega)), tbk hCB, tbx hCB]
    refine c_copyTown (hbt a (by omega)) hCB (by omega) (hQ _ (hbt a (by omega))).1 (hQ _ hCB).1 (hQ _ (hbt a (by omega))).2 (hQ _ hCB).2 hC hW hM.n.2 hL.2.2.2.2.2.2.2 hM.2.2.2.2.1 (fun I' hC2 hF => ?_)
    have e61 : I' 61 = I 61 := hF 61 (by omega)
    have ea : aSt a = a + 1 := by unfold aSt; rw [if_neg g]
    refine wk ((fn0_ok l)) ok_1 40 (fun pc => false) ?_
    simp only [fn0, kk_1, Option.toList_some, Option.toList_none, ex, catS, vC, isMk, sym, popN, goC, callOK, swL, List.map_cons, List.map_nil, List.replicate_zero, List.replicate_succ, List.append_nil, List.nil_append, List.cons_append, List.getElem?_cons_zero, List.getElem?_cons_succ, List.set_cons_zero, List.set_cons_succ, List.length_cons, List.length_nil, List.head?_cons, Nat.reduceAdd, Nat.reduceLT, Nat.reduceLeDiff, Nat.reduceBEq, Nat.reduceEqDiff, Nat.succ_ne_zero, Nat.zero_lt_succ, Nat.le_refl, sc_rows, kc_lit, nc_lit, wlk_rows, uR_s, uR_uR, true_and, and_true, true_or, or_true, false_or, or_false, and_false, false_and, or_self, and_self, if_true, if_false, Bool.false_eq_true, Bool.or_false, Bool.or_true, Bool.false_or, Bool.true_or, not_true_eq_false, not_false_eq_true, forall_const, true_implies, false_implies, implies_true, reduceIte, reduceCtorEq, kH L, e61, e1, nI_up]
    refine h1 _ _ b hQ ⟨hq0, hq1, hq2⟩ ⟨?_, ?_, fun i hi => ?_⟩ ⟨fun p hp => ?_, fun p hp => rfl⟩
    · rw [uR_s, upd_e, ea]
    · rw [ea]; omega
    · rw [ea] at hi
      simp only [wSt, if_neg g]
      by_cases q : i = a
      · rw [if_pos q, q]
        exact ⟨n, m, k, hC2.fr (hQ _ (hbt a (by omega))).2.2.1 hM.n.2 (fun p h1 h2 => uR_n _ _ (by omega)), hM, hL⟩
      · rw [if_neg q]
        have bi := (hq1 i (by omega)).2.bd
        have hne := (hq1 i (by omega)).2.ne (hq1 a (by omega)).2 (fun e => q (hq2 _ _ (by omega) (by omega) e))
        refine (hw i (by omega)).fr (hQ _ (hbt i (by omega))).2.2.1 (fun p h1 h2 => ?_)
        rw [uR_n _ _ (by omega), hF p (by omega)]
    · rw [uR_n _ _ (by omega), hF p (by omega)]
end D5

