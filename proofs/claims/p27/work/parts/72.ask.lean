/-! what is told: the answers, and the class -/
def plcI (z : Nat → Int32) (p : Int32) : Nat → Int32
  | 0 => -5
  | m + 1 => if z (15 + m) = p then nI m else plcI z p m
theorem plcI_s {z : Nat → Int32} {p : Int32} : ∀ {m j : Nat}, (∀ k k', k < m → k' < m → z (15 + k) = z (15 + k') → k = k') → j < m → z (15 + j) = p → plcI z p m = nI j := by
  intro m
  induction m with
  | zero => intro j _ h; omega
  | succ m ih =>
    intro j hu hj he
    simp only [plcI]
    by_cases g : z (15 + m) = p
    · rw [if_pos g, hu m j (by omega) hj (g.trans he.symm)]
    · rw [if_neg g]
      exact ih (fun k k' a b c => hu k k' (by omega) (by omega) c) (by
        by_cases q : j = m
        · subst q; exact absurd he g
        · omega) he
theorem plcI_n {z : Nat → Int32} {p : Int32} : ∀ {m : Nat}, (∀ j, j < m → z (15 + j) ≠ p) → plcI z p m = -5 := by
  intro m
  induction m with
  | zero => intro _; rfl
  | succ m ih =>
    intro h
    simp only [plcI]
    rw [if_neg (h m (by omega))]
    exact ih (fun j hj => h j (by omega))
def ansTx (z : Nat → Int32) (n m : Nat) (p w : Int32) : Int32 := match ftz z p n with
  | none => -1
  | some i => if w = 0 then z (tp i 1) else if w = 1 then plcI z p m else if w = 2 then z (tp i 2) else if w = 3 then z (tp i 3) else if w = 4 then z (tp i 4) else if w = 5 then z (tp i 5) else if w = 6 then z (tp i 6) else if w = 7 then z (tp i 7) else if w = 8 then z (tp i 8) else if w = 9 then b2 (may z i) else -2
def ansLi (z : Nat → Int32) (m : Nat) (r : Int32) : Int32 := if r < 0 then -2 else if r < nI m then z (15 + ix r) else -5
def ansPl (z : Nat → Int32) (n : Nat) (r : Int32) : Int32 := if r < 0 then -2 else if r < nI n then z (tp (ix r) 0) else -5
def ansWa (z : Nat → Int32) (k : Nat) (r w : Int32) : Int32 := if r < 0 ∨ ¬ (0 ≤ w ∧ w ≤ 1) then -2 else if r < nI k then (if w = 0 then z (27 + 3 * ix r) else z 5 - z (27 + 3 * ix r + 1)) else -5
def ansRi (z : Nat → Int32) (n m : Nat) (to : Int32) : Int32 := if ¬ (0 ≤ to ∧ to ≤ 20) then -1 else if to = 10 then -2 else match rider z n m to with
  | none => -5
  | some t => z (tp t 0)
def ansIf (z : Nat → Int32) (n m : Nat) (f to w : Int32) : Int32 := if ¬ ((0 ≤ f ∧ f ≤ 20) ∧ 0 ≤ to ∧ to ≤ 20) then -1 else if f = to ∨ ¬ (0 ≤ w ∧ w ≤ 2) then -2 else match calZ z n m f with
  | none => -4
  | some t => if w = 0 then z (tp t 0) else if w = 1 then nd z t f else fare32 f to
def ansRe (z : Nat → Int32) (n m : Nat) (p to : Int32) : Int32 := match ftz z p n with
  | none => -1
  | some i => if ¬ (0 ≤ to ∧ to ≤ 20) then -1 else if to = 10 then -2 else if ¬ z (tp i 1) = 0 then 1 else if stays z i then 2 else if tired z i then 3 else if rider z n m to = some i then 0 else 4
def moF (z : Nat → Int32) : Nat → Nat
  | 0 => 0
  | i + 1 => if z (tp (moF z i) 6) < z (tp (i + 1) 6) then i + 1 else moF z i
def feF (z : Nat → Int32) : Nat → Nat
  | 0 => 0
  | i + 1 => if z (tp (i + 1) 6) < z (tp (feF z i) 6) then i + 1 else feF z i
theorem moF_le (z : Nat → Int32) : ∀ i, moF z i ≤ i ∧ feF z i ≤ i := by
  intro i
  induction i with
  | zero => exact ⟨Nat.le_refl 0, Nat.le_refl 0⟩
  | succ i ih =>
    simp only [moF, feF]
    constructor
    · split <;> omega
    · split <;> omega
def ansSh (z : Nat → Int32) (n : Nat) (w : Int32) : Int32 := if ¬ (0 ≤ w ∧ w ≤ 2) then -2 else if n = 0 then -5 else if w = 0 then z (tp (moF z (n - 1)) 6) - z (tp (feF z (n - 1)) 6) else if w = 1 then z (tp (moF z (n - 1)) 0) else z (tp (feF z (n - 1)) 0)
def ansCo (z : Nat → Int32) (n m k a ln : Nat) (w : Int32) : Int32 := if w = 0 then z 5 else if w = 1 then z 5 / 1440 else if w = 2 then nI n else if w = 3 then nI m else if w = 4 then nI k else if w = 5 then z 6 else if w = 6 then z 7 else if w = 7 then z 8 else if w = 8 then z 9 else if w = 9 then z 10 else if w = 10 then z 0 else if w = 11 then z 1 else if w = 12 then z 2 else if w = 13 then z 3 else if w = 14 then z 4 else if w = 15 then nI a else if w = 16 then nI ln else -2
section G3
variable {l : Launch} {L : Nat} {I : Nat → Nat → Int32} {Q : Nat → Nat → Option Nat} {P : Option Value → PH → Prop} {τ : Nat → Nat → Nat} {b : Nat → Nat} {z : Nat → Int32} {w : Nat → Nat → Int32} {a n m k : Nat}
set_option maxRecDepth 100000 in
theorem m_taxi (h : CT I Q τ b z w a n m k) (p v : Int32) (h1 : P (some (.int (ansTx z n m p v))) (SC L, I, Q)) : Runs l 69 [.ref 0, .int p, .int v] (SC L, I, Q) P := by
  obtain ⟨⟨hQA, hH, hZ⟩, ⟨hC, hM, hL⟩, hA⟩ := h
  have hB := tb1.1
  have hQ := (hQA _ tb1.1).1
  have hS := (hQA _ tb1.1).2
  have hn := hL.2.1
  refine run0 (n := 1) mok_69 ⟨rfl, rfl⟩ rfl ?_
  unfold ansTx at h1
  refine wk ((fn0_ok l)) ok_69 20 (fun pc => false) ?_
  simp only [fn0, kk_69, Option.toList_some, Option.toList_none, ex, catS, vC, isMk, sym, popN, goC, callOK, swL, List.map_cons, List.map_nil, List.replicate_zero, List.replicate_succ, List.append_nil, List.nil_append, List.cons_append, List.getElem?_cons_zero, List.getElem?_cons_succ, List.set_cons_zero, List.set_cons_succ, List.length_cons, List.length_nil, List.head?_cons, Nat.reduceAdd, Nat.reduceLT, Nat.reduceLeDiff, Nat.reduceBEq, Nat.reduceEqDiff, Nat.succ_ne_zero, Nat.zero_lt_succ, Nat.le_refl, sc_rows, kc_lit, nc_lit, wlk_rows, uR_s, uR_uR, true_and, and_true, true_or, or_true, false_or, or_false, and_false, false_and, or_self, and_self, if_true, if_false, Bool.false_eq_true, Bool.or_false, Bool.or_true, Bool.false_or, Bool.true_or, not_true_eq_false, not_false_eq_true, forall_const, true_implies, false_implies, implies_true, reduceIte, reduceCtorEq, k0 L, hZ.1]
  refine c_ftz hB hQ hS hC hL p (fun i hf hi => ?_) (fun hf => ?_)
  · rw [hf] at h1
    simp only at h1
    have t := hC.tx hi
    have hs := hS.2.1 i (by omega)
    have tt := tbt hB hs
    have e8 := (hM.2.1 i hi).1.2.2.1
    have e9 : mayR I 1 (1 + 2 + τ 1 i) = may z i := may_eq hC hi
    refine wk ((fn0_ok l)) ok_69 6 (fun pc => pc == 72 || pc == 77 || pc == 86 || pc == 91 || pc == 96 || pc == 101 || pc == 106 || pc == 111 || pc == 116 || pc == 129 || pc == 146) ?_
    simp only [fn0, kk_69, Option.toList_some, Option.toList_none, ex, catS, vC, isMk, sym, popN, goC, callOK, swL, List.map_cons, List.map_nil, List.replicate_zero, List.replicate_succ, List.append_nil, List.nil_append, List.cons_append, List.getElem?_cons_zero, List.getElem?_cons_succ, List.set_cons_zero, List.set_cons_succ, List.length_cons, List.length_nil, List.head?_cons, Nat.reduceAdd, Nat.reduceLT, Nat.reduceLeDiff, Nat.reduceBEq, Nat.reduceEqDiff, Nat.succ_ne_zero, Nat.zero_lt_succ, Nat.le_refl, sc_rows, kc_lit, nc_lit, wlk_rows, uR_s, uR_uR, true_and, and_true, true_or, or_true, false_or, or_false, and_false, false_and, or_self, and_self, if_true, if_false, Bool.false_eq_true, Bool.or_false, Bool.or_true, Bool.false_or, Bool.true_or, not_true_eq_false, not_false_eq_true, forall_const, true_implies, false_implies, implies_true, reduceIte, reduceCtorEq, tt]
    refine ⟨fun g => ?_, fun g => ?_⟩
    · rw [if_pos g] at h1
      refine wk ((fn0_ok l)) ok_69 20 (fun pc => false) ?_
      simp only [fn0, kk_69, Option.toList_some, Option.toList_none, ex, catS, vC, isMk, sym, popN, goC, callOK, swL, List.map_cons, List.map_nil, List.replicate_zero, List.replicate_succ, List.append_nil, List.nil_append, List.cons_append, List.getElem?_cons_zero, List.getElem?_cons_succ, List.set_cons_zero, List.set_cons_succ, List.length_cons, List.length_nil, List.head?_cons, Nat.reduceAdd, Nat.reduceLT, Nat.reduceLeDiff, Nat.reduceBEq, Nat.reduceEqDiff, Nat.succ_ne_zero, Nat.zero_lt_succ, Nat.le_refl, sc_rows, kc_lit, nc_lit, wlk_rows, uR_s, uR_uR, true_and, and_true, true_or, or_true, false_or, or_false, and_false, false_and, or_self, and_self, if_true, if_false, Bool.false_eq_true, Bool.or_false, Bool.or_true, Bool.false_or, Bool.true_or, not_true_eq_false, not_false_eq_true, forall_const, true_implies, false_implies, implies_true, reduceIte, reduceCtorEq, tt, t]
      exact h1
    rw [if_neg g] at h1
    refine ⟨fun g => ?_, fun g => ?_⟩
    · rw [if_pos g] at h1
      refine wk ((fn0_ok l)) ok_69 20 (fun pc => false) ?_
      simp only [fn0, kk_69, Option.toList_some, Option.toList_none, ex, catS, vC, isMk, sym, popN, goC, callOK, swL, List.map_cons, List.map_nil, List.replicate_zero, List.replicate_succ, List.append_nil, List.nil_append, List.cons_append, List.getElem?_cons_zero, List.getElem?_cons_succ, List.set_cons_zero, List.set_cons_succ, List.length_cons, List.length_nil, List.head?_cons, Nat.reduceAdd, Nat.reduceLT, Nat.reduceLeDiff, Nat.reduceBEq, Nat.reduceEqDiff, Nat.succ_ne_zero, Nat.zero_lt_succ, Nat.le_refl, sc_rows, kc_lit, nc_lit, wlk_rows, uR_s, uR_uR, true_and, and_true, true_or, or_true, false_or, or_false, and_false, false_and, or_self, and_self, if_true, if_false, Bool.false_eq_true, Bool.or_false, Bool.or_true, Bool.false_or, Bool.true_or, not_true_eq_false, not_false_eq_true, forall_const, true_implies, false_implies, implies_true, reduceIte, reduceCtorEq, tt, k0 L, hZ.1]
      refine c_placeOf hB hQ hS hC hL.2.2.1 hL.2.2.2.2.2.2.2 hi hn (fun j hj he => ?_) (fun hno => ?_)
      · rw [plcI_s hL.2.2.2.2.2.2.1 hj (he.trans (ftz_s hf).2)] at h1
        refine wk ((fn0_ok l)) ok_69 20 (fun pc => false) ?_
        simp only [fn0, kk_69, Option.toList_some, Option.toList_none, ex, catS, vC, isMk, sym, popN, goC, callOK, swL, List.map_cons, List.map_nil, List.replicate_zero, List.replicate_succ, List.append_nil, List.nil_append, List.cons_append, List.getElem?_cons_zero, List.getElem?_cons_succ, List.set_cons_zero, List.set_cons_succ, List.length_cons, List.length_nil, List.head?_cons, Nat.reduceAdd, Nat.reduceLT, Nat.reduceLeDiff, Nat.reduceBEq, Nat.reduceEqDiff, Nat.succ_ne_zero, Nat.zero_lt_succ, Nat.le_refl, sc_rows, kc_lit, nc_lit, wlk_rows, uR_s, uR_uR, true_and, and_true, true_or, or_true, false_or, or_false, and_false, false_and, or_self, and_self, if_true, if_false, Bool.false_eq_true, Bool.or_false, Bool.or_true, Bool.false_or, Bool.true_or, not_true_eq_false, not_false_eq_true, forall_const, true_implies, false_implies, implies_true, reduceIte, reduceCtorEq]
        exact h1
      · rw [plcI_n (fun j hj => by rw [← (ftz_s hf).2]; exact hno j hj)] at h1
        refine wk ((fn0_ok l)) ok_69 20 (fun pc => false) ?_
        simp only [fn0, kk_69, Option.toList_some, Option.toList_none, ex, catS, vC, isMk, sym, popN, goC, callOK, swL, List.map_cons, List.map_nil, List.replicate_zero, List.replicate_succ, List.append_nil, List.nil_append, List.cons_append, List.getElem?_cons_zero, List.getElem?_cons_succ, List.set_cons_zero, List.set_cons_succ, List.length_cons, List.length_nil, List.head?_cons, Nat.reduceAdd, Nat.reduceLT, Nat.reduceLeDiff, Nat.reduceBEq, Nat.reduceEqDiff, Nat.succ_ne_zero, Nat.zero_lt_succ, Nat.le_refl, sc_rows, kc_lit, nc_lit, wlk_rows, uR_s, uR_uR, true_and, and_true, true_or, or_true, false_or, or_false, and_false, false_and, or_self, and_self, if_true, if_false, Bool.false_eq_true, Bool.or_false, Bool.or_true, Bool.false_or, Bool.true_or, not_true_eq_false, not_false_eq_true, forall_const, true_implies, false_implies, implies_true, reduceIte, reduceCtorEq]
        exact h1
    rw [if_neg g] at h1
    refine ⟨fun g => ?_, fun g => ?_⟩
    · rw [if_pos g] at h1
      refine wk ((fn0_ok l)) ok_69 20 (fun pc => false) ?_
      simp only [fn0, kk_69, Option.toList_some, Option.toList_none, ex, catS, vC, isMk, sym, popN, goC, callOK, swL, List.map_cons, List.map_nil, List.replicate_zero, List.replicate_succ, List.append_nil, List.nil_append, List.cons_append, List.getElem?_cons_zero, List.getElem?_cons_succ, List.set_cons_zero, List.set_cons_succ, List.length_cons, List.length_nil, List.head?_cons, Nat.reduceAdd, Nat.reduceLT, Nat.reduceLeDiff, Nat.reduceBEq, Nat.reduceEqDiff, Nat.succ_ne_zero, Nat.zero_lt_succ, Nat.le_refl, sc_rows, kc_lit, nc_lit, wlk_rows, uR_s, uR_uR, true_and, and_true, true_or, or_true, false_or, or_false, and_false, false_and, or_self, and_self, if_true, if_false, Bool.false_eq_true, Bool.or_false, Bool.or_true, Bool.false_or, Bool.true_or, not_true_eq_false, not_false_eq_true, forall_const, true_implies, false_implies, implies_true, reduceIte, reduceCtorEq, tt, t]
      exact h1
    rw [if_neg g] at h1
    refine ⟨fun g => ?_, fun g => ?_⟩
    · rw [if_pos g] at h1
      refine wk ((fn0_ok l)) ok_69 20 (fun pc => false) ?_
      simp only [fn0, kk_69, Option.toList_some, Option.toList_none, ex, catS, vC, isMk, sym, popN, goC, callOK, swL, List.map_cons, List.map_nil, List.replicate_zero, List.replicate_succ, List.append_nil, List.nil_append, List.cons_append, List.getElem?_cons_zero, List.getElem?_cons_succ, List.set_cons_zero, List.set_cons_succ, List.length_cons, List.length_nil, List.head?_cons, Nat.reduceAdd, Nat.reduceLT, Nat.reduceLeDiff, Nat.reduceBEq, Nat.reduceEqDiff, Nat.succ_ne_zero, Nat.zero_lt_succ, Nat.le_refl, sc_rows, kc_lit, nc_lit, wlk_rows, uR_s, uR_uR, true_and, and_true, true_or, or_true, false_or, or_false, and_false, false_and, or_self, and_self, if_true, if_false, Bool.false_eq_true, Bool.or_false, Bool.or_true, Bool.false_or, Bool.true_or, not_true_eq_false, not_false_eq_true, forall_const, true_implies, false_implies, implies_true, reduceIte, reduceCtorEq, tt, t]
      exact h1
    rw [if_neg g] at h1
    refine ⟨fun g => ?_, fun g => ?_⟩
    · rw [if_pos g] at h1
      refine wk ((fn0_ok l)) ok_69 20 (fun pc => false) ?_
      simp only [fn0, kk_69, Option.toList_some, Option.toList_none, ex, catS, vC, isMk, sym, popN, goC, callOK, swL, List.map_cons, List.map_nil, List.replicate_zero, List.replicate_succ, List.append_nil, List.nil_append, List.cons_append, List.getElem?_cons_zero, List.getElem?_cons_succ, List.set_cons_zero, List.set_cons_succ, List.length_cons, List.length_nil, List.head?_cons, Nat.reduceAdd, Nat.reduceLT, Nat.reduceLeDiff, Nat.reduceBEq, Nat.reduceEqDiff, Nat.succ_ne_zero, Nat.zero_lt_succ, Nat.le_refl, sc_rows, kc_lit, nc_lit, wlk_rows, uR_s, uR_uR, true_and, and_true, true_or, or_true, false_or, or_false, and_false, false_and, or_self, and_self, if_true, if_false, Bool.false_eq_true, Bool.or_false, Bool.or_true, Bool.false_or, Bool.true_or, not_true_eq_false, not_false_eq_true, forall_const, true_implies, false_implies, implies_true, reduceIte, reduceCtorEq, tt, t]
      exact h1
    rw [if_neg g] at h1
    refine ⟨fun g => ?_, fun g => ?_⟩
    · rw [if_pos g] at h1
      refine wk ((fn0_ok l)) ok_69 20 (fun pc => false) ?_
      simp only [fn0, kk_69, Option.toList_some, Option.toList_none, ex, catS, vC, isMk, sym, popN, goC, callOK, swL, List.map_cons, List.map_nil, List.replicate_zero, List.replicate_succ, List.append_nil, List.nil_append, List.cons_append, List.getElem?_cons_zero, List.getElem?_cons_succ, List.set_cons_zero, List.set_cons_succ, List.length_cons, List.length_nil, List.head?_cons, Nat.reduceAdd, Nat.reduceLT, Nat.reduceLeDiff, Nat.reduceBEq, Nat.reduceEqDiff, Nat.succ_ne_zero, Nat.zero_lt_succ, Nat.le_refl, sc_rows, kc_lit, nc_lit, wlk_rows, uR_s, uR_uR, true_and, and_true, true_or, or_true, false_or, or_false, and_false, false_and, or_self, and_self, if_true, if_false, Bool.false_eq_true, Bool.or_false, Bool.or_true, Bool.false_or, Bool.true_or, not_true_eq_false, not_false_eq_true, forall_const, true_implies, false_implies, implies_true, reduceIte, reduceCtorEq, tt, t]
      exact h1
    rw [if_neg g] at h1
    refine ⟨fun g => ?_, fun g => ?_⟩
    · rw [if_pos g] at h1
      refine wk ((fn0_ok l)) ok_69 20 (fun pc => false) ?_
      simp only [fn0, kk_69, Option.toList_some, Option.toList_none, ex, catS, vC, isMk, sym, popN, goC, callOK, swL, List.map_cons, List.map_nil, List.replicate_zero, List.replicate_succ, List.append_nil, List.nil_append, List.cons_append, List.getElem?_cons_zero, List.getElem?_cons_succ, List.set_cons_zero, List.set_cons_succ, List.length_cons, List.length_nil, List.head?_cons, Nat.reduceAdd, Nat.reduceLT, Nat.reduceLeDiff, Nat.reduceBEq, Nat.reduceEqDiff, Nat.succ_ne_zero, Nat.zero_lt_succ, Nat.le_refl, sc_rows, kc_lit, nc_lit, wlk_rows, uR_s, uR_uR, true_and, and_true, true_or, or_true, false_or, or_false, and_false, false_and, or_self, and_self, if_true, if_false, Bool.false_eq_true, Bool.or_false, Bool.or_true, Bool.false_or, Bool.true_or, not_true_eq_false, not_false_eq_true, forall_const, true_implies, false_implies, implies_true, reduceIte, reduceCtorEq, tt, t]
      exact h1
    rw [if_neg g] at h1
    refine ⟨fun g => ?_, fun g => ?_⟩
    · rw [if_pos g] at h1
      refine wk ((fn0_ok l)) ok_69 20 (fun pc => false) ?_
      simp only [fn0, kk_69, Option.toList_some, Option.toList_none, ex, catS, vC, isMk, sym, popN, goC, callOK, swL, List.map_cons, List.map_nil, List.replicate_zero, List.replicate_succ, List.append_nil, List.nil_append, List.cons_append, List.getElem?_cons_zero, List.getElem?_cons_succ, List.set_cons_zero, List.set_cons_succ, List.length_cons, List.length_nil, List.head?_cons, Nat.reduceAdd, Nat.reduceLT, Nat.reduceLeDiff, Nat.reduceBEq, Nat.reduceEqDiff, Nat.succ_ne_zero, Nat.zero_lt_succ, Nat.le_refl, sc_rows, kc_lit, nc_lit, wlk_rows, uR_s, uR_uR, true_and, and_true, true_or, or_true, false_or, or_false, and_false, false_and, or_self, and_self, if_true, if_false, Bool.false_eq_true, Bool.or_false, Bool.or_true, Bool.false_or, Bool.true_or, not_true_eq_false, not_false_eq_true, forall_const, true_implies, false_implies, implies_true, reduceIte, reduceCtorEq, tt, t]
      exact h1
    rw [if_neg g] at h1
    refine ⟨fun g => ?_, fun g => ?_⟩
    · rw [if_pos g] at h1
      rcases e8 with e | e
      · rw [e] at h1
        refine wk ((fn0_ok l)) ok_69 20 (fun pc => false) ?_
        simp only [fn0, kk_69, Option.toList_some, Option.toList_none, ex, catS, vC, isMk, sym, popN, goC, callOK, swL, List.map_cons, List.map_nil, List.replicate_zero, List.replicate_succ, List.append_nil, List.nil_append, List.cons_append, List.getElem?_cons_zero, List.getElem?_cons_succ, List.set_cons_zero, List.set_cons_succ, List.length_cons, List.length_nil, List.head?_cons, Nat.reduceAdd, Nat.reduceLT, Nat.reduceLeDiff, Nat.reduceBEq, Nat.reduceEqDiff, Nat.succ_ne_zero, Nat.zero_lt_succ, Nat.le_refl, sc_rows, kc_lit, nc_lit, wlk_rows, uR_s, uR_uR, true_and, and_true, true_or, or_true, false_or, or_false, and_false, false_and, or_self, and_self, if_true, if_false, Bool.false_eq_true, Bool.or_false, Bool.or_true, Bool.false_or, Bool.true_or, not_true_eq_false, not_false_eq_true, forall_const, true_implies, false_implies, implies_true, reduceIte, reduceCtorEq, tt, t, e]
        exact h1
      · rw [e] at h1
        refine wk ((fn0_ok l)) ok_69 20 (fun pc => false) ?_
        simp only [fn0, kk_69, Option.toList_some, Option.toList_none, ex, catS, vC, isMk, sym, popN, goC, callOK, swL, List.map_cons, List.map_nil, List.replicate_zero, List.replicate_succ, List.append_nil, List.nil_append, List.cons_append, List.getElem?_cons_zero, List.getElem?_cons_succ, List.set_cons_zero, List.set_cons_succ, List.length_cons, List.length_nil, List.head?_cons, Nat.reduceAdd, Nat.reduceLT, Nat.reduceLeDiff, Nat.reduceBEq, Nat.reduceEqDiff, Nat.succ_ne_zero, Nat.zero_lt_succ, Nat.le_refl, sc_rows, kc_lit, nc_lit, wlk_rows, uR_s, uR_uR, true_and, and_true, true_or, or_true, false_or, or_false, and_false, false_and, or_self, and_self, if_true, if_false, Bool.false_eq_true, Bool.or_false, Bool.or_true, Bool.false_or, Bool.true_or, not_true_eq_false, not_false_eq_true, forall_const, true_implies, false_implies, implies_true, reduceIte, reduceCtorEq, tt, t, e, nz_lit]
        exact h1
    rw [if_neg g] at h1
    refine ⟨fun g => ?_, fun g => ?_⟩
    · rw [if_pos g] at h1
      by_cases gm : may z i
      · rw [b2_t gm] at h1
        have gm' : b2 (mayR I 1 (1 + 2 + τ 1 i)) = 1 := b2_t (by rw [e9]; exact gm)
        refine wk (gn2_ok l L) ok_69 20 (fun pc => false) ?_
        simp only [gn2, kk_69, Option.toList_some, Option.toList_none, ex, catS, vC, isMk, sym, popN, goC, callOK, swL, List.map_cons, List.map_nil, List.replicate_zero, List.replicate_succ, List.append_nil, List.nil_append, List.cons_append, List.getElem?_cons_zero, List.getElem?_cons_succ, List.set_cons_zero, List.set_cons_succ, List.length_cons, List.length_nil, List.head?_cons, Nat.reduceAdd, Nat.reduceLT, Nat.reduceLeDiff, Nat.reduceBEq, Nat.reduceEqDiff, Nat.succ_ne_zero, Nat.zero_lt_succ, Nat.le_refl, sc_rows, kc_lit, nc_lit, wlk_rows, uR_s, uR_uR, true_and, and_true, true_or, or_true, false_or, or_false, and_false, false_and, or_self, and_self, if_true, if_false, Bool.false_eq_true, Bool.or_false, Bool.or_true, Bool.false_or, Bool.true_or, not_true_eq_false, not_false_eq_true, forall_const, true_implies, false_implies, implies_true, reduceIte, reduceCtorEq, hB, hQ, tt, k0 L, hZ.1, gm', fC_at, fC_begin, fC_place, fC_setg, fC_fare, fC_stays, fC_tired, fC_long, fC_min, CTh_eq, CXh_eq, ix_lit, lt_lit, cl_lit, nz_lit, in5, in12, abs_sz, gn1, fC_may]
        exact h1
      · rw [b2_f gm] at h1
        have gm' : b2 (mayR I 1 (1 + 2 + τ 1 i)) = 0 := b2_f (by rw [e9]; exact gm)
        refine wk (gn2_ok l L) ok_69 20 (fun pc => false) ?_
        simp only [gn2, kk_69, Option.toList_some, Option.toList_none, ex, catS, vC, isMk, sym, popN, goC, callOK, swL, List.map_cons, List.map_nil, List.replicate_zero, List.replicate_succ, List.append_nil, List.nil_append, List.cons_append, List.getElem?_cons_zero, List.getElem?_cons_succ, List.set_cons_zero, List.set_cons_succ, List.length_cons, List.length_nil, List.head?_cons, Nat.reduceAdd, Nat.reduceLT, Nat.reduceLeDiff, Nat.reduceBEq, Nat.reduceEqDiff, Nat.succ_ne_zero, Nat.zero_lt_succ, Nat.le_refl, sc_rows, kc_lit, nc_lit, wlk_rows, uR_s, uR_uR, true_and, and_true, true_or, or_true, false_or, or_false, and_false, false_and, or_self, and_self, if_true, if_false, Bool.false_eq_true, Bool.or_false, Bool.or_true, Bool.false_or, Bool.true_or, not_true_eq_false, not_false_eq_true, forall_const, true_implies, false_implies, implies_true, reduceIte, reduceCtorEq, hB, hQ, tt, k0 L, hZ.1, gm', fC_at, fC_begin, fC_place, fC_setg, fC_fare, fC_stays, fC_tired, fC_long, fC_min, CTh_eq, CXh_eq, ix_lit, lt_lit, cl_lit, nz_lit, in5, in12, abs_sz, gn1, fC_may]
        exact h1
    rw [if_neg g] at h1
    refine wk ((fn0_ok l)) ok_69 20 (fun pc => false) ?_
    simp only [fn0, kk_69, Option.toList_some, Option.toList_none, ex, catS, vC, isMk, sym, popN, goC, callOK, swL, List.map_cons, List.map_nil, List.replicate_zero, List.replicate_succ, List.append_nil, List.nil_append, List.cons_append, List.getElem?_cons_zero, List.getElem?_cons_succ, List.set_cons_zero, List.set_cons_succ, List.length_cons, List.length_nil, List.head?_cons, Nat.reduceAdd, Nat.reduceLT, Nat.reduceLeDiff, Nat.reduceBEq, Nat.reduceEqDiff, Nat.succ_ne_zero, Nat.zero_lt_succ, Nat.le_refl, sc_rows, kc_lit, nc_lit, wlk_rows, uR_s, uR_uR, true_and, and_true, true_or, or_true, false_or, or_false, and_false, false_and, or_self, and_self, if_true, if_false, Bool.false_eq_true, Bool.or_false, Bool.or_true, Bool.false_or, Bool.true_or, not_true_eq_false, not_false_eq_true, forall_const, true_implies, false_implies, implies_true, reduceIte, reduceCtorEq]
    exact h1
  · rw [hf] at h1
    simp only at h1
    refine wk ((fn0_ok l)) ok_69 20 (fun pc => pc == 15) ?_
    simp only [fn0, kk_69, Option.toList_some, Option.toList_none, ex, catS, vC, isMk, sym, popN, goC, callOK, swL, List.map_cons, List.map_nil, List.replicate_zero, List.replicate_succ, List.append_nil, List.nil_append, List.cons_append, List.getElem?_cons_zero, List.getElem?_cons_succ, List.set_cons_zero, List.set_cons_succ, List.length_cons, List.length_nil, List.head?_cons, Nat.reduceAdd, Nat.reduceLT, Nat.reduceLeDiff, Nat.reduceBEq, Nat.reduceEqDiff, Nat.succ_ne_zero, Nat.zero_lt_succ, Nat.le_refl, sc_rows, kc_lit, nc_lit, wlk_rows, uR_s, uR_uR, true_and, and_true, true_or, or_true, false_or, or_false, and_false, false_and, or_self, and_self, if_true, if_false, Bool.false_eq_true, Bool.or_false, Bool.or_true, Bool.false_or, Bool.true_or, not_true_eq_false, not_false_eq_true, forall_const, true_implies, false_implies, implies_true, reduceIte, reduceCtorEq]
    exact h1
theorem lt_nI {r : Int32} {N : Nat} (h0 : ¬ r < 0) (h : r < nI N) (hN : N < 2147483648) : ∃ j, j < N ∧ r = nI j := by
  obtain ⟨j, hj, rfl⟩ := nI_of h0
  exact ⟨j, (nI_ltI hj (by omega)).mp h, rfl⟩
theorem tk1 : KC 1 = 4 ∧ KC 2 = 9 ∧ KC 15 = 7 ∧ KC 16 = 2 ∧ KC 17 = 7 ∧ KC 18 = 7 ∧ KC 19 = 7 ∧ KC 20 = 7 := by decide
theorem tn1 (L : Nat) : NC L 2 = 12 ∧ NC L 15 = 12 ∧ NC L 17 = 15 ∧ NC L 18 = 15 ∧ NC L 19 = 15 ∧ NC L 20 = 5 := ⟨rfl, rfl, rfl, rfl, rfl, rfl⟩
theorem q1 {Q : Nat → Nat → Option Nat} (h : QT0 Q 1) : Q 1 0 = some 2 ∧ Q 1 2 = some 15 ∧ Q 1 4 = some 16 ∧ Q 1 5 = some 20 ∧ Q 16 1 = some 17 ∧ Q 16 2 = some 18 ∧ Q 16 3 = some 19 := h
theorem w1 (h : CA I 1 (τ 1) z n m k) : I 1 1 = z 11 ∧ I 1 3 = z 12 ∧ I 1 6 = z 5 ∧ I 1 7 = z 6 ∧ I 1 8 = z 7 ∧ I 1 9 = z 8 ∧ I 1 10 = z 9 ∧ I 1 11 = z 10 ∧ I 20 0 = z 0 ∧ I 20 1 = z 1 ∧ I 20 2 = z 2 ∧ I 20 3 = z 3 ∧ I 20 4 = z 4 ∧ I 16 0 = z 13 ∧ I 16 4 = z 14 := h.tw
set_option maxRecDepth 100000 in
theorem m_line (h : CT I Q τ b z w a n m k) (r : Int32) (h1 : P (some (.int (ansLi z m r))) (SC L, I, Q)) : Runs l 70 [.ref 0, .int r] (SC L, I, Q) P := by
  obtain ⟨⟨hQA, hH, hZ⟩, ⟨hC, hM, hL⟩, hA⟩ := h
  have hm := hL.2.2.2.2.2.2.2
  have t1 := w1 hC
  refine run0 (n := 0) mok_70 ⟨rfl, rfl⟩ rfl ?_
  unfold ansLi at h1
  by_cases g : r < 0
  · rw [if_pos g] at h1
    refine wk ((fn0_ok l)) ok_70 20 (fun pc => pc == 7) ?_
    simp only [fn0, kk_70, Option.toList_some, Option.toList_none, ex, catS, vC, isMk, sym, popN, goC, callOK, swL, List.map_cons, List.map_nil, List.replicate_zero, List.replicate_succ, List.append_nil, List.nil_append, List.cons_append, List.getElem?_cons_zero, List.getElem?_cons_succ, List.set_cons_zero, List.set_cons_succ, List.length_cons, List.length_nil, List.head?_cons, Nat.reduceAdd, Nat.reduceLT, Nat.reduceLeDiff, Nat.reduceBEq, Nat.reduceEqDiff, Nat.succ_ne_zero, Nat.zero_lt_succ, Nat.le_refl, sc_rows, kc_lit, nc_lit, wlk_rows, uR_s, uR_uR, true_and, and_true, true_or, or_true, false_or, or_false, and_false, false_and, or_self, and_self, if_true, if_false, Bool.false_eq_true, Bool.or_false, Bool.or_true, Bool.false_or, Bool.true_or, not_true_eq_false, not_false_eq_true, forall_const, true_implies, false_implies, implies_true, reduceIte, reduceCtorEq, neg_ge g]
    exact h1
  · rw [if_neg g] at h1
    by_cases g2 : r < nI m
    · rw [if_pos g2] at h1
      obtain ⟨j, hj, rfl⟩ := lt_nI g g2 (by omega)
      rw [ix_nI (by omega)] at h1
      have e : I 15 j = z (15 + j) := hC.2.2.2.1 j hj
      refine wk ((fn0_ok l)) ok_70 20 (fun pc => pc == 4 || pc == 30) ?_
      simp only [fn0, kk_70, Option.toList_some, Option.toList_none, ex, catS, vC, isMk, sym, popN, goC, callOK, swL, List.map_cons, List.map_nil, List.replicate_zero, List.replicate_succ, List.append_nil, List.nil_append, List.cons_append, List.getElem?_cons_zero, List.getElem?_cons_succ, List.set_cons_zero, List.set_cons_succ, List.length_cons, List.length_nil, List.head?_cons, Nat.reduceAdd, Nat.reduceLT, Nat.reduceLeDiff, Nat.reduceBEq, Nat.reduceEqDiff, Nat.succ_ne_zero, Nat.zero_lt_succ, Nat.le_refl, sc_rows, kc_lit, nc_lit, wlk_rows, uR_s, uR_uR, true_and, and_true, true_or, or_true, false_or, or_false, and_false, false_and, or_self, and_self, if_true, if_false, Bool.false_eq_true, Bool.or_false, Bool.or_true, Bool.false_or, Bool.true_or, not_true_eq_false, not_false_eq_true, forall_const, true_implies, false_implies, implies_true, reduceIte, reduceCtorEq, k0 L, tk1, tn1 L, q1 (hQA _ tb1.1).1, hZ.1, t1, hL.2.2.1, nI_pos' (show j < 2147483648 by omega), leF hj (show m < 2147483648 by omega), ixp (show j < 12 by omega) (by omega), e]
      exact h1
    · rw [if_neg g2] at h1
      refine wk ((fn0_ok l)) ok_70 20 (fun pc => pc == 4 || pc == 18) ?_
      simp only [fn0, kk_70, Option.toList_some, Option.toList_none, ex, catS, vC, isMk, sym, popN, goC, callOK, swL, List.map_cons, List.map_nil, List.replicate_zero, List.replicate_succ, List.append_nil, List.nil_append, List.cons_append, List.getElem?_cons_zero, List.getElem?_cons_succ, List.set_cons_zero, List.set_cons_succ, List.length_cons, List.length_nil, List.head?_cons, Nat.reduceAdd, Nat.reduceLT, Nat.reduceLeDiff, Nat.reduceBEq, Nat.reduceEqDiff, Nat.succ_ne_zero, Nat.zero_lt_succ, Nat.le_refl, sc_rows, kc_lit, nc_lit, wlk_rows, uR_s, uR_uR, true_and, and_true, true_or, or_true, false_or, or_false, and_false, false_and, or_self, and_self, if_true, if_false, Bool.false_eq_true, Bool.or_false, Bool.or_true, Bool.false_or, Bool.true_or, not_true_eq_false, not_false_eq_true, forall_const, true_implies, false_implies, implies_true, reduceIte, reduceCtorEq, k0 L, tk1, q1 (hQA _ tb1.1).1, hZ.1, t1, hL.2.2.1, Int32.not_lt.mp g, Int32.not_lt.mp g2]
      exact h1
set_option maxRecDepth 100000 in
theorem m_plate (h : CT I Q τ b z w a n m k) (r : Int32) (h1 : P (some (.int (ansPl z n r))) (SC L, I, Q)) : Runs l 71 [.ref 0, .int r] (SC L, I, Q) P := by
  obtain ⟨⟨hQA, hH, hZ⟩, ⟨hC, hM, hL⟩, hA⟩ := h
  have hn := hL.2.1
  have t1 := w1 hC
  refine run0 (n := 0) mok_71 ⟨rfl, rfl⟩ rfl ?_
  unfold ansPl at h1
  by_cases g : r < 0
  · rw [if_pos g] at h1
    refine wk ((fn0_ok l)) ok_71 20 (fun pc => pc == 7) ?_
    simp only [fn0, kk_71, Option.toList_some, Option.toList_none, ex, catS, vC, isMk, sym, popN, goC, callOK, swL, List.map_cons, List.map_nil, List.replicate_zero, List.replicate_succ, List.append_nil, List.nil_append, List.cons_append, List.getElem?_cons_zero, List.getElem?_cons_succ, List.set_cons_zero, List.set_cons_succ, List.length_cons, List.length_nil, List.head?_cons, Nat.reduceAdd, Nat.reduceLT, Nat.reduceLeDiff, Nat.reduceBEq, Nat.reduceEqDiff, Nat.succ_ne_zero, Nat.zero_lt_succ, Nat.le_refl, sc_rows, kc_lit, nc_lit, wlk_rows, uR_s, uR_uR, true_and, and_true, true_or, or_true, false_or, or_false, and_false, false_and, or_self, and_self, if_true, if_false, Bool.false_eq_true, Bool.or_false, Bool.or_true, Bool.false_or, Bool.true_or, not_true_eq_false, not_false_eq_true, forall_const, true_implies, false_implies, implies_true, reduceIte, reduceCtorEq, neg_ge g]
    exact h1
  · rw [if_neg g] at h1
    by_cases g2 : r < nI n
    · rw [if_pos g2] at h1
      obtain ⟨j, hj, rfl⟩ := lt_nI g g2 (by omega)
      rw [ix_nI (by omega)] at h1
      have eq : Q 2 j = some (1 + 2 + τ 1 j) := (hQA _ tb1.1).2.1 j (by omega)
      have tt := tbt tb1.1 ((hQA _ tb1.1).2.2.1 j (by omega))
      refine wk ((fn0_ok l)) ok_71 20 (fun pc => pc == 4 || pc == 33) ?_
      simp only [fn0, kk_71, Option.toList_some, Option.toList_none, ex, catS, vC, isMk, sym, popN, goC, callOK, swL, List.map_cons, List.map_nil, List.replicate_zero, List.replicate_succ, List.append_nil, List.nil_append, List.cons_append, List.getElem?_cons_zero, List.getElem?_cons_succ, List.set_cons_zero, List.set_cons_succ, List.length_cons, List.length_nil, List.head?_cons, Nat.reduceAdd, Nat.reduceLT, Nat.reduceLeDiff, Nat.reduceBEq, Nat.reduceEqDiff, Nat.succ_ne_zero, Nat.zero_lt_succ, Nat.le_refl, sc_rows, kc_lit, nc_lit, wlk_rows, uR_s, uR_uR, true_and, and_true, true_or, or_true, false_or, or_false, and_false, false_and, or_self, and_self, if_true, if_false, Bool.false_eq_true, Bool.or_false, Bool.or_true, Bool.false_or, Bool.true_or, not_true_eq_false, not_false_eq_true, forall_const, true_implies, false_implies, implies_true, reduceIte, reduceCtorEq, k0 L, tk1, tn1 L, q1 (hQA _ tb1.1).1, hZ.1, t1, hL.1, nI_pos' (show j < 2147483648 by omega), leF hj (show n < 2147483648 by omega), ixp (show j < 12 by omega) (by omega), eq, tt, hC.tx hj]
      exact h1
    · rw [if_neg g2] at h1
      refine wk ((fn0_ok l)) ok_71 20 (fun pc => pc == 4 || pc == 18) ?_
      simp only [fn0, kk_71, Option.toList_some, Option.toList_none, ex, catS, vC, isMk, sym, popN, goC, callOK, swL, List.map_cons, List.map_nil, List.replicate_zero, List.replicate_succ, List.append_nil, List.nil_append, List.cons_append, List.getElem?_cons_zero, List.getElem?_cons_succ, List.set_cons_zero, List.set_cons_succ, List.length_cons, List.length_nil, List.head?_cons, Nat.reduceAdd, Nat.reduceLT, Nat.reduceLeDiff, Nat.reduceBEq, Nat.reduceEqDiff, Nat.succ_ne_zero, Nat.zero_lt_succ, Nat.le_refl, sc_rows, kc_lit, nc_lit, wlk_rows, uR_s, uR_uR, true_and, and_true, true_or, or_true, false_or, or_false, and_false, false_and, or_self, and_self, if_true, if_false, Bool.false_eq_true, Bool.or_false, Bool.or_true, Bool.false_or, Bool.true_or, not_true_eq_false, not_false_eq_true, forall_const, true_implies, false_implies, implies_true, reduceIte, reduceCtorEq, k0 L, tk1, q1 (hQA _ tb1.1).1, hZ.1, t1, hL.1, Int32.not_lt.mp g, Int32.not_lt.mp g2]
      exact h1
set_option maxRecDepth 100000 in
theorem m_waiting (h : CT I Q τ b z w a n m k) (r v : Int32) (h1 : P (some (.int (ansWa z k r v))) (SC L, I, Q)) : Runs l 72 [.ref 0, .int r, .int v] (SC L, I, Q) P := by
  obtain ⟨⟨hQA, hH, hZ⟩, ⟨hC, hM, hL⟩, hA⟩ := h
  have hk := hM.2.2.2.2.1
  have t1 := w1 hC
  refine run0 (n := 0) mok_72 ⟨rfl, rfl⟩ rfl ?_
  unfold ansWa at h1
  by_cases g : r < 0
  · rw [if_pos (Or.inl g)] at h1
    refine wk ((fn0_ok l)) ok_72 20 (fun pc => pc == 4) ?_
    simp only [fn0, kk_72, Option.toList_some, Option.toList_none, ex, catS, vC, isMk, sym, popN, goC, callOK, swL, List.map_cons, List.map_nil, List.replicate_zero, List.replicate_succ, List.append_nil, List.nil_append, List.cons_append, List.getElem?_cons_zero, List.getElem?_cons_succ, List.set_cons_zero, List.set_cons_succ, List.length_cons, List.length_nil, List.head?_cons, Nat.reduceAdd, Nat.reduceLT, Nat.reduceLeDiff, Nat.reduceBEq, Nat.reduceEqDiff, Nat.succ_ne_zero, Nat.zero_lt_succ, Nat.le_refl, sc_rows, kc_lit, nc_lit, wlk_rows, uR_s, uR_uR, true_and, and_true, true_or, or_true, false_or, or_false, and_false, false_and, or_self, and_self, if_true, if_false, Bool.false_eq_true, Bool.or_false, Bool.or_true, Bool.false_or, Bool.true_or, not_true_eq_false, not_false_eq_true, forall_const, true_implies, false_implies, implies_true, reduceIte, reduceCtorEq, g]
    exact h1
  · by_cases gv : 0 ≤ v ∧ v ≤ 1
    · rw [if_neg (fun q => q.elim g (fun q => q gv))] at h1
      by_cases g2 : r < nI k
      · rw [if_pos g2] at h1
        obtain ⟨j, hj, rfl⟩ := lt_nI g g2 (by omega)
        rw [ix_nI (by omega)] at h1
        have ww := hC.2.2.2.2.2.2 j hj
        have ww1 : I 17 j = z (27 + 3 * j) ∧ I 18 j = z (27 + 3 * j + 1) := ⟨ww.1, ww.2.1⟩
        refine wk ((fn0_ok l)) ok_72 20 (fun pc => pc == 13 || pc == 33 || pc == 30) ?_
        simp only [fn0, kk_72, Option.toList_some, Option.toList_none, ex, catS, vC, isMk, sym, popN, goC, callOK, swL, List.map_cons, List.map_nil, List.replicate_zero, List.replicate_succ, List.append_nil, List.nil_append, List.cons_append, List.getElem?_cons_zero, List.getElem?_cons_succ, List.set_cons_zero, List.set_cons_succ, List.length_cons, List.length_nil, List.head?_cons, Nat.reduceAdd, Nat.reduceLT, Nat.reduceLeDiff, Nat.reduceBEq, Nat.reduceEqDiff, Nat.succ_ne_zero, Nat.zero_lt_succ, Nat.le_refl, sc_rows, kc_lit, nc_lit, wlk_rows, uR_s, uR_uR, true_and, and_true, true_or, or_true, false_or, or_false, and_false, false_and, or_self, and_self, if_true, if_false, Bool.false_eq_true, Bool.or_false, Bool.or_true, Bool.false_or, Bool.true_or, not_true_eq_false, not_false_eq_true, forall_const, true_implies, false_implies, implies_true, reduceIte, reduceCtorEq, k0 L, tk1, tn1 L, q1 (hQA _ tb1.1).1, hZ.1, t1, hM.2.2.2.1, eq_false g, eq_false (Int32.not_lt.mpr gv.1), gv.2, ltT hj (show k < 2147483648 by omega)]
        by_cases g3 : v = 0
        · rw [if_pos g3] at h1
          refine wk ((fn0_ok l)) ok_72 20 (fun pc => false) ?_
          simp only [fn0, kk_72, Option.toList_some, Option.toList_none, ex, catS, vC, isMk, sym, popN, goC, callOK, swL, List.map_cons, List.map_nil, List.replicate_zero, List.replicate_succ, List.append_nil, List.nil_append, List.cons_append, List.getElem?_cons_zero, List.getElem?_cons_succ, List.set_cons_zero, List.set_cons_succ, List.length_cons, List.length_nil, List.head?_cons, Nat.reduceAdd, Nat.reduceLT, Nat.reduceLeDiff, Nat.reduceBEq, Nat.reduceEqDiff, Nat.succ_ne_zero, Nat.zero_lt_succ, Nat.le_refl, sc_rows, kc_lit, nc_lit, wlk_rows, uR_s, uR_uR, true_and, and_true, true_or, or_true, false_or, or_false, and_false, false_and, or_self, and_self, if_true, if_false, Bool.false_eq_true, Bool.or_false, Bool.or_true, Bool.false_or, Bool.true_or, not_true_eq_false, not_false_eq_true, forall_const, true_implies, false_implies, implies_true, reduceIte, reduceCtorEq, k0 L, tk1, tn1 L, q1 (hQA _ tb1.1).1, hZ.1, t1, g3, ixp (show j < 15 by omega) (by omega), ww1]
          exact h1
        · rw [if_neg g3] at h1
          refine wk ((fn0_ok l)) ok_72 20 (fun pc => pc == 37) ?_
          simp only [fn0, kk_72, Option.toList_some, Option.toList_none, ex, catS, vC, isMk, sym, popN, goC, callOK, swL, List.map_cons, List.map_nil, List.replicate_zero, List.replicate_succ, List.append_nil, List.nil_append, List.cons_append, List.getElem?_cons_zero, List.getElem?_cons_succ, List.set_cons_zero, List.set_cons_succ, List.length_cons, List.length_nil, List.head?_cons, Nat.reduceAdd, Nat.reduceLT, Nat.reduceLeDiff, Nat.reduceBEq, Nat.reduceEqDiff, Nat.succ_ne_zero, Nat.zero_lt_succ, Nat.le_refl, sc_rows, kc_lit, nc_lit, wlk_rows, uR_s, uR_uR, true_and, and_true, true_or, or_true, false_or, or_false, and_false, false_and, or_self, and_self, if_true, if_false, Bool.false_eq_true, Bool.or_false, Bool.or_true, Bool.false_or, Bool.true_or, not_true_eq_false, not_false_eq_true, forall_const, true_implies, false_implies, implies_true, reduceIte, reduceCtorEq, k0 L, tk1, tn1 L, q1 (hQA _ tb1.1).1, hZ.1, t1, eq_false g3, ixp (show j < 15 by omega) (by omega), ww1]
          exact h1
      · rw [if_neg g2] at h1
        refine wk ((fn0_ok l)) ok_72 20 (fun pc => pc == 13 || pc == 33) ?_
        simp only [fn0, kk_72, Option.toList_some, Option.toList_none, ex, catS, vC, isMk, sym, popN, goC, callOK, swL, List.map_cons, List.map_nil, List.replicate_zero, List.replicate_succ, List.append_nil, List.nil_append, List.cons_append, List.getElem?_cons_zero, List.getElem?_cons_succ, List.set_cons_zero, List.set_cons_succ, List.length_cons, List.length_nil, List.head?_cons, Nat.reduceAdd, Nat.reduceLT, Nat.reduceLeDiff, Nat.reduceBEq, Nat.reduceEqDiff, Nat.succ_ne_zero, Nat.zero_lt_succ, Nat.le_refl, sc_rows, kc_lit, nc_lit, wlk_rows, uR_s, uR_uR, true_and, and_true, true_or, or_true, false_or, or_false, and_false, false_and, or_self, and_self, if_true, if_false, Bool.false_eq_true, Bool.or_false, Bool.or_true, Bool.false_or, Bool.true_or, not_true_eq_false, not_false_eq_true, forall_const, true_implies, false_implies, implies_true, reduceIte, reduceCtorEq, k0 L, tk1, q1 (hQA _ tb1.1).1, hZ.1, t1, hM.2.2.2.1, eq_false g, eq_false (Int32.not_lt.mpr gv.1), gv.2, eq_false g2]
        exact h1
    · rw [if_pos (Or.inr gv)] at h1
      by_cases gv1 : v < 0
      · refine wk ((fn0_ok l)) ok_72 20 (fun pc => pc == 13 || pc == 16) ?_
        simp only [fn0, kk_72, Option.toList_some, Option.toList_none, ex, catS, vC, isMk, sym, popN, goC, callOK, swL, List.map_cons, List.map_nil, List.replicate_zero, List.replicate_succ, List.append_nil, List.nil_append, List.cons_append, List.getElem?_cons_zero, List.getElem?_cons_succ, List.set_cons_zero, List.set_cons_succ, List.length_cons, List.length_nil, List.head?_cons, Nat.reduceAdd, Nat.reduceLT, Nat.reduceLeDiff, Nat.reduceBEq, Nat.reduceEqDiff, Nat.succ_ne_zero, Nat.zero_lt_succ, Nat.le_refl, sc_rows, kc_lit, nc_lit, wlk_rows, uR_s, uR_uR, true_and, and_true, true_or, or_true, false_or, or_false, and_false, false_and, or_self, and_self, if_true, if_false, Bool.false_eq_true, Bool.or_false, Bool.or_true, Bool.false_or, Bool.true_or, not_true_eq_false, not_false_eq_true, forall_const, true_implies, false_implies, implies_true, reduceIte, reduceCtorEq, eq_false g, gv1]
        refine wk ((fn0_ok l)) ok_72 20 (fun pc => false) ?_
        simp only [fn0, kk_72, Option.toList_some, Option.toList_none, ex, catS, vC, isMk, sym, popN, goC, callOK, swL, List.map_cons, List.map_nil, List.replicate_zero, List.replicate_succ, List.append_nil, List.nil_append, List.cons_append, List.getElem?_cons_zero, List.getElem?_cons_succ, List.set_cons_zero, List.set_cons_succ, List.length_cons, List.length_nil, List.head?_cons, Nat.reduceAdd, Nat.reduceLT, Nat.reduceLeDiff, Nat.reduceBEq, Nat.reduceEqDiff, Nat.succ_ne_zero, Nat.zero_lt_succ, Nat.le_refl, sc_rows, kc_lit, nc_lit, wlk_rows, uR_s, uR_uR, true_and, and_true, true_or, or_true, false_or, or_false, and_false, false_and, or_self, and_self, if_true, if_false, Bool.false_eq_true, Bool.or_false, Bool.or_true, Bool.false_or, Bool.true_or, not_true_eq_false, not_false_eq_true, forall_const, true_implies, false_implies, implies_true, reduceIte, reduceCtorEq]
        exact h1
      · have gv2 : ¬ v ≤ 1 := fun q => gv ⟨Int32.not_lt.mp gv1, q⟩
        refine wk ((fn0_ok l)) ok_72 20 (fun pc => pc == 13 || pc == 16) ?_
        simp only [fn0, kk_72, Option.toList_some, Option.toList_none, ex, catS, vC, isMk, sym, popN, goC, callOK, swL, List.map_cons, List.map_nil, List.replicate_zero, List.replicate_succ, List.append_nil, List.nil_append, List.cons_append, List.getElem?_cons_zero, List.getElem?_cons_succ, List.set_cons_zero, List.set_cons_succ, List.length_cons, List.length_nil, List.head?_cons, Nat.reduceAdd, Nat.reduceLT, Nat.reduceLeDiff, Nat.reduceBEq, Nat.reduceEqDiff, Nat.succ_ne_zero, Nat.zero_lt_succ, Nat.le_refl, sc_rows, kc_lit, nc_lit, wlk_rows, uR_s, uR_uR, true_and, and_true, true_or, or_true, false_or, or_false, and_false, false_and, or_self, and_self, if_true, if_false, Bool.false_eq_true, Bool.or_false, Bool.or_true, Bool.false_or, Bool.true_or, not_true_eq_false, not_false_eq_true, forall_const, true_implies, false_implies, implies_true, reduceIte, reduceCtorEq, eq_false g, eq_false gv1, eq_false gv2]
        refine wk ((fn0_ok l)) ok_72 20 (fun pc => false) ?_
        simp only [fn0, kk_72, Option.toList_some, Option.toList_none, ex, catS, vC, isMk, sym, popN, goC, callOK, swL, List.map_cons, List.map_nil, List.replicate_zero, List.replicate_succ, List.append_nil, List.nil_append, List.cons_append, List.getElem?_cons_zero, List.getElem?_cons_succ, List.set_cons_zero, List.set_cons_succ, List.length_cons, List.length_nil, List.head?_cons, Nat.reduceAdd, Nat.reduceLT, Nat.reduceLeDiff, Nat.reduceBEq, Nat.reduceEqDiff, Nat.succ_ne_zero, Nat.zero_lt_succ, Nat.le_refl, sc_rows, kc_lit, nc_lit, wlk_rows, uR_s, uR_uR, true_and, and_true, true_or, or_true, false_or, or_false, and_false, false_and, or_self, and_self, if_true, if_false, Bool.false_eq_true, Bool.or_false, Bool.or_true, Bool.false_or, Bool.true_or, not_true_eq_false, not_false_eq_true, forall_const, true_implies, false_implies, implies_true, reduceIte, reduceCtorEq]
        exact h1
set_option maxRecDepth 100000 in
theorem m_rides (h : CT I Q τ b z w a n m k) (to : Int32) (h1 : P (some (.int (ansRi z n m to))) (SC L, I, Q)) : Runs l 73 [.ref 0, .int to] (SC L, I, Q) P := by
  obtain ⟨⟨hQA, hH, hZ⟩, ⟨hC, hM, hL⟩, hA⟩ := h
  have hn := hL.2.1
  refine run0 (n := 1) mok_73 ⟨rfl, rfl⟩ rfl ?_
  unfold ansRi at h1
  by_cases g : 0 ≤ to ∧ to ≤ 20
  · rw [if_neg (fun q => q g)] at h1
    by_cases g2 : to = 10
    · rw [if_pos g2] at h1
      subst g2
      refine wk (gn1_ok l L) ok_73 20 (fun pc => pc == 18 || pc == 7) ?_
      simp only [gn1, kk_73, Option.toList_some, Option.toList_none, ex, catS, vC, isMk, sym, popN, goC, callOK, swL, List.map_cons, List.map_nil, List.replicate_zero, List.replicate_succ, List.append_nil, List.nil_append, List.cons_append, List.getElem?_cons_zero, List.getElem?_cons_succ, List.set_cons_zero, List.set_cons_succ, List.length_cons, List.length_nil, List.head?_cons, Nat.reduceAdd, Nat.reduceLT, Nat.reduceLeDiff, Nat.reduceBEq, Nat.reduceEqDiff, Nat.succ_ne_zero, Nat.zero_lt_succ, Nat.le_refl, sc_rows, kc_lit, nc_lit, wlk_rows, uR_s, uR_uR, true_and, and_true, true_or, or_true, false_or, or_false, and_false, false_and, or_self, and_self, if_true, if_false, Bool.false_eq_true, Bool.or_false, Bool.or_true, Bool.false_or, Bool.true_or, not_true_eq_false, not_false_eq_true, forall_const, true_implies, false_implies, implies_true, reduceIte, reduceCtorEq, b2_t g, nz_lit, fC_at, fC_begin, fC_place, fC_setg, fC_fare, fC_stays, fC_tired, fC_long, fC_min, CTh_eq, CXh_eq, ix_lit, lt_lit, cl_lit, nz_lit, in5, in12, abs_sz]
      exact h1
    · rw [if_neg g2] at h1
      refine wk (gn1_ok l L) ok_73 20 (fun pc => pc == 7 || pc == 15) ?_
      simp only [gn1, kk_73, Option.toList_some, Option.toList_none, ex, catS, vC, isMk, sym, popN, goC, callOK, swL, List.map_cons, List.map_nil, List.replicate_zero, List.replicate_succ, List.append_nil, List.nil_append, List.cons_append, List.getElem?_cons_zero, List.getElem?_cons_succ, List.set_cons_zero, List.set_cons_succ, List.length_cons, List.length_nil, List.head?_cons, Nat.reduceAdd, Nat.reduceLT, Nat.reduceLeDiff, Nat.reduceBEq, Nat.reduceEqDiff, Nat.succ_ne_zero, Nat.zero_lt_succ, Nat.le_refl, sc_rows, kc_lit, nc_lit, wlk_rows, uR_s, uR_uR, true_and, and_true, true_or, or_true, false_or, or_false, and_false, false_and, or_self, and_self, if_true, if_false, Bool.false_eq_true, Bool.or_false, Bool.or_true, Bool.false_or, Bool.true_or, not_true_eq_false, not_false_eq_true, forall_const, true_implies, false_implies, implies_true, reduceIte, reduceCtorEq, b2_t g, nz_lit, eq_false g2, k0 L, hZ.1, fC_at, fC_begin, fC_place, fC_setg, fC_fare, fC_stays, fC_tired, fC_long, fC_min, CTh_eq, CXh_eq, ix_lit, lt_lit, cl_lit, nz_lit, in5, in12, abs_sz]
      refine c_rider tb1.1 (hQA _ tb1.1).1 (hQA _ tb1.1).2 hC hL to ?_
      cases hr : rider z n m to with
      | none =>
        rw [hr] at h1
        simp only at h1
        refine wk (gn1_ok l L) ok_73 20 (fun pc => false) ?_
        simp only [gn1, kk_73, Option.toList_some, Option.toList_none, ex, catS, vC, isMk, sym, popN, goC, callOK, swL, List.map_cons, List.map_nil, List.replicate_zero, List.replicate_succ, List.append_nil, List.nil_append, List.cons_append, List.getElem?_cons_zero, List.getElem?_cons_succ, List.set_cons_zero, List.set_cons_succ, List.length_cons, List.length_nil, List.head?_cons, Nat.reduceAdd, Nat.reduceLT, Nat.reduceLeDiff, Nat.reduceBEq, Nat.reduceEqDiff, Nat.succ_ne_zero, Nat.zero_lt_succ, Nat.le_refl, sc_rows, kc_lit, nc_lit, wlk_rows, uR_s, uR_uR, true_and, and_true, true_or, or_true, false_or, or_false, and_false, false_and, or_self, and_self, if_true, if_false, Bool.false_eq_true, Bool.or_false, Bool.or_true, Bool.false_or, Bool.true_or, not_true_eq_false, not_false_eq_true, forall_const, true_implies, false_implies, implies_true, reduceIte, reduceCtorEq, fC_at, fC_begin, fC_place, fC_setg, fC_fare, fC_stays, fC_tired, fC_long, fC_min, CTh_eq, CXh_eq, ix_lit, lt_lit, cl_lit, nz_lit, in5, in12, abs_sz]
        exact h1
      | some t =>
        rw [hr] at h1
        simp only at h1
        obtain ⟨ht, -⟩ := rider_in hL hr
        have tt := tbt tb1.1 ((hQA _ tb1.1).2.2.1 t (by omega))
        refine wk (gn1_ok l L) ok_73 20 (fun pc => false) ?_
        simp only [gn1, kk_73, Option.toList_some, Option.toList_none, ex, catS, vC, isMk, sym, popN, goC, callOK, swL, List.map_cons, List.map_nil, List.replicate_zero, List.replicate_succ, List.append_nil, List.nil_append, List.cons_append, List.getElem?_cons_zero, List.getElem?_cons_succ, List.set_cons_zero, List.set_cons_succ, List.length_cons, List.length_nil, List.head?_cons, Nat.reduceAdd, Nat.reduceLT, Nat.reduceLeDiff, Nat.reduceBEq, Nat.reduceEqDiff, Nat.succ_ne_zero, Nat.zero_lt_succ, Nat.le_refl, sc_rows, kc_lit, nc_lit, wlk_rows, uR_s, uR_uR, true_and, and_true, true_or, or_true, false_or, or_false, and_false, false_and, or_self, and_self, if_true, if_false, Bool.false_eq_true, Bool.or_false, Bool.or_true, Bool.false_or, Bool.true_or, not_true_eq_false, not_false_eq_true, forall_const, true_implies, false_implies, implies_true, reduceIte, reduceCtorEq, tt, hC.tx ht, fC_at, fC_begin, fC_place, fC_setg, fC_fare, fC_stays, fC_tired, fC_long, fC_min, CTh_eq, CXh_eq, ix_lit, lt_lit, cl_lit, nz_lit, in5, in12, abs_sz]
        exact h1
  · rw [if_pos g] at h1
    refine wk (gn1_ok l L) ok_73 20 (fun pc => pc == 9) ?_
    simp only [gn1, kk_73, Option.toList_some, Option.toList_none, ex, catS, vC, isMk, sym, popN, goC, callOK, swL, List.map_cons, List.map_nil, List.replicate_zero, List.replicate_succ, List.append_nil, List.nil_append, List.cons_append, List.getElem?_cons_zero, List.getElem?_cons_succ, List.set_cons_zero, List.set_cons_succ, List.length_cons, List.length_nil, List.head?_cons, Nat.reduceAdd, Nat.reduceLT, Nat.reduceLeDiff, Nat.reduceBEq, Nat.reduceEqDiff, Nat.succ_ne_zero, Nat.zero_lt_succ, Nat.le_refl, sc_rows, kc_lit, nc_lit, wlk_rows, uR_s, uR_uR, true_and, and_true, true_or, or_true, false_or, or_false, and_false, false_and, or_self, and_self, if_true, if_false, Bool.false_eq_true, Bool.or_false, Bool.or_true, Bool.false_or, Bool.true_or, not_true_eq_false, not_false_eq_true, forall_const, true_implies, false_implies, implies_true, reduceIte, reduceCtorEq, b2_f g, fC_at, fC_begin, fC_place, fC_setg, fC_fare, fC_stays, fC_tired, fC_long, fC_min, CTh_eq, CXh_eq, ix_lit, lt_lit, cl_lit, nz_lit, in5, in12, abs_sz]
    exact h1
set_option maxRecDepth 100000 in
theorem m_ifCalled (h : CT I Q τ b z w a n m k) (f to v : Int32) (h1 : P (some (.int (ansIf z n m f to v))) (SC L, I, Q)) : Runs l 74 [.ref 0, .int f, .int to, .int v] (SC L, I, Q) P := by
  obtain ⟨⟨hQA, hH, hZ⟩, ⟨hC, hM, hL⟩, hA⟩ := h
  have hn := hL.2.1
  have hQ := (hQA _ tb1.1).1
  refine run0 (n := 1) mok_74 ⟨rfl, rfl⟩ rfl ?_
  unfold ansIf at h1
  by_cases g : (0 ≤ f ∧ f ≤ 20) ∧ 0 ≤ to ∧ to ≤ 20
  · rw [if_neg (fun q => q g)] at h1
    obtain ⟨gf, gt⟩ := g
    by_cases g2 : f = to
    · rw [if_pos (Or.inl g2)] at h1
      subst g2
      refine wk (gn1_ok l L) ok_74 20 (fun pc => pc == 14 || pc == 30 || pc == 21) ?_
      simp only [gn1, kk_74, Option.toList_some, Option.toList_none, ex, catS, vC, isMk, sym, popN, goC, callOK, swL, List.map_cons, List.map_nil, List.replicate_zero, List.replicate_succ, List.append_nil, List.nil_append, List.cons_append, List.getElem?_cons_zero, List.getElem?_cons_succ, List.set_cons_zero, List.set_cons_succ, List.length_cons, List.length_nil, List.head?_cons, Nat.reduceAdd, Nat.reduceLT, Nat.reduceLeDiff, Nat.reduceBEq, Nat.reduceEqDiff, Nat.succ_ne_zero, Nat.zero_lt_succ, Nat.le_refl, sc_rows, kc_lit, nc_lit, wlk_rows, uR_s, uR_uR, true_and, and_true, true_or, or_true, false_or, or_false, and_false, false_and, or_self, and_self, if_true, if_false, Bool.false_eq_true, Bool.or_false, Bool.or_true, Bool.false_or, Bool.true_or, not_true_eq_false, not_false_eq_true, forall_const, true_implies, false_implies, implies_true, reduceIte, reduceCtorEq, b2_t gf, nz_lit, fC_at, fC_begin, fC_place, fC_setg, fC_fare, fC_stays, fC_tired, fC_long, fC_min, CTh_eq, CXh_eq, ix_lit, lt_lit, cl_lit, nz_lit, in5, in12, abs_sz]
      refine wk (gn1_ok l L) ok_74 20 (fun pc => false) ?_
      simp only [gn1, kk_74, Option.toList_some, Option.toList_none, ex, catS, vC, isMk, sym, popN, goC, callOK, swL, List.map_cons, List.map_nil, List.replicate_zero, List.replicate_succ, List.append_nil, List.nil_append, List.cons_append, List.getElem?_cons_zero, List.getElem?_cons_succ, List.set_cons_zero, List.set_cons_succ, List.length_cons, List.length_nil, List.head?_cons, Nat.reduceAdd, Nat.reduceLT, Nat.reduceLeDiff, Nat.reduceBEq, Nat.reduceEqDiff, Nat.succ_ne_zero, Nat.zero_lt_succ, Nat.le_refl, sc_rows, kc_lit, nc_lit, wlk_rows, uR_s, uR_uR, true_and, and_true, true_or, or_true, false_or, or_false, and_false, false_and, or_self, and_self, if_true, if_false, Bool.false_eq_true, Bool.or_false, Bool.or_true, Bool.false_or, Bool.true_or, not_true_eq_false, not_false_eq_true, forall_const, true_implies, false_implies, implies_true, reduceIte, reduceCtorEq, fC_at, fC_begin, fC_place, fC_setg, fC_fare, fC_stays, fC_tired, fC_long, fC_min, CTh_eq, CXh_eq, ix_lit, lt_lit, cl_lit, nz_lit, in5, in12, abs_sz]
      exact h1
    · by_cases gv : 0 ≤ v ∧ v ≤ 2
      · rw [if_neg (fun q => q.elim g2 (fun q => q gv))] at h1
        refine wk (gn1_ok l L) ok_74 20 (fun pc => pc == 14 || pc == 30 || pc == 33) ?_
        simp only [gn1, kk_74, Option.toList_some, Option.toList_none, ex, catS, vC, isMk, sym, popN, goC, callOK, swL, List.map_cons, List.map_nil, List.replicate_zero, List.replicate_succ, List.append_nil, List.nil_append, List.cons_append, List.getElem?_cons_zero, List.getElem?_cons_succ, List.set_cons_zero, List.set_cons_succ, List.length_cons, List.length_nil, List.head?_cons, Nat.reduceAdd, Nat.reduceLT, Nat.reduceLeDiff, Nat.reduceBEq, Nat.reduceEqDiff, Nat.succ_ne_zero, Nat.zero_lt_succ, Nat.le_refl, sc_rows, kc_lit, nc_lit, wlk_rows, uR_s, uR_uR, true_and, and_true, true_or, or_true, false_or, or_false, and_false, false_and, or_self, and_self, if_true, if_false, Bool.false_eq_true, Bool.or_false, Bool.or_true, Bool.false_or, Bool.true_or, not_true_eq_false, not_false_eq_true, forall_const, true_implies, false_implies, implies_true, reduceIte, reduceCtorEq, b2_t gf, b2_t gt, nz_lit, eq_false g2, eq_false (Int32.not_lt.mpr gv.1), gv.2, fC_at, fC_begin, fC_place, fC_setg, fC_fare, fC_stays, fC_tired, fC_long, fC_min, CTh_eq, CXh_eq, ix_lit, lt_lit, cl_lit, nz_lit, in5, in12, abs_sz]
        refine wk (gn1_ok l L) ok_74 20 (fun pc => false) ?_
        simp only [gn1, kk_74, Option.toList_some, Option.toList_none, ex, catS, vC, isMk, sym, popN, goC, callOK, swL, List.map_cons, List.map_nil, List.replicate_zero, List.replicate_succ, List.append_nil, List.nil_append, List.cons_append, List.getElem?_cons_zero, List.getElem?_cons_succ, List.set_cons_zero, List.set_cons_succ, List.length_cons, List.length_nil, List.head?_cons, Nat.reduceAdd, Nat.reduceLT, Nat.reduceLeDiff, Nat.reduceBEq, Nat.reduceEqDiff, Nat.succ_ne_zero, Nat.zero_lt_succ, Nat.le_refl, sc_rows, kc_lit, nc_lit, wlk_rows, uR_s, uR_uR, true_and, and_true, true_or, or_true, false_or, or_false, and_false, false_and, or_self, and_self, if_true, if_false, Bool.false_eq_true, Bool.or_false, Bool.or_true, Bool.false_or, Bool.true_or, not_true_eq_false, not_false_eq_true, forall_const, true_implies, false_implies, implies_true, reduceIte, reduceCtorEq, k0 L, hZ.1, fC_at, fC_begin, fC_place, fC_setg, fC_fare, fC_stays, fC_tired, fC_long, fC_min, CTh_eq, CXh_eq, ix_lit, lt_lit, cl_lit, nz_lit, in5, in12, abs_sz]
        refine c_callee tb1.1 hQ (hQA _ tb1.1).2 hM hL hC f ?_
        cases hc : calZ z n m f with
        | none =>
          rw [hc] at h1
          simp only at h1
          refine wk (gn1_ok l L) ok_74 20 (fun pc => false) ?_
          simp only [gn1, kk_74, Option.toList_some, Option.toList_none, ex, catS, vC, isMk, sym, popN, goC, callOK, swL, List.map_cons, List.map_nil, List.replicate_zero, List.replicate_succ, List.append_nil, List.nil_append, List.cons_append, List.getElem?_cons_zero, List.getElem?_cons_succ, List.set_cons_zero, List.set_cons_succ, List.length_cons, List.length_nil, List.head?_cons, Nat.reduceAdd, Nat.reduceLT, Nat.reduceLeDiff, Nat.reduceBEq, Nat.reduceEqDiff, Nat.succ_ne_zero, Nat.zero_lt_succ, Nat.le_refl, sc_rows, kc_lit, nc_lit, wlk_rows, uR_s, uR_uR, true_and, and_true, true_or, or_true, false_or, or_false, and_false, false_and, or_self, and_self, if_true, if_false, Bool.false_eq_true, Bool.or_false, Bool.or_true, Bool.false_or, Bool.true_or, not_true_eq_false, not_false_eq_true, forall_const, true_implies, false_implies, implies_true, reduceIte, reduceCtorEq, rvo, fC_at, fC_begin, fC_place, fC_setg, fC_fare, fC_stays, fC_tired, fC_long, fC_min, CTh_eq, CXh_eq, ix_lit, lt_lit, cl_lit, nz_lit, in5, in12, abs_sz]
          exact h1
        | some t =>
          rw [hc] at h1
          simp only at h1
          obtain ⟨ht, hcn⟩ := calZ_in hL hc
          have tt := tbt tb1.1 ((hQA _ tb1.1).2.2.1 t (by omega))
          have e4 : minR I 1 (1 + 2 + τ 1 t) f = nd z t f := min_eq hC ht hcn (hM.2.1 t ht).1 f
          refine wk (gn1_ok l L) ok_74 20 (fun pc => pc == 80 || pc == 86 || pc == 97) ?_
          simp only [gn1, kk_74, Option.toList_some, Option.toList_none, ex, catS, vC, isMk, sym, popN, goC, callOK, swL, List.map_cons, List.map_nil, List.replicate_zero, List.replicate_succ, List.append_nil, List.nil_append, List.cons_append, List.getElem?_cons_zero, List.getElem?_cons_succ, List.set_cons_zero, List.set_cons_succ, List.length_cons, List.length_nil, List.head?_cons, Nat.reduceAdd, Nat.reduceLT, Nat.reduceLeDiff, Nat.reduceBEq, Nat.reduceEqDiff, Nat.succ_ne_zero, Nat.zero_lt_succ, Nat.le_refl, sc_rows, kc_lit, nc_lit, wlk_rows, uR_s, uR_uR, true_and, and_true, true_or, or_true, false_or, or_false, and_false, false_and, or_self, and_self, if_true, if_false, Bool.false_eq_true, Bool.or_false, Bool.or_true, Bool.false_or, Bool.true_or, not_true_eq_false, not_false_eq_true, forall_const, true_implies, false_implies, implies_true, reduceIte, reduceCtorEq, rvo, tt, fC_at, fC_begin, fC_place, fC_setg, fC_fare, fC_stays, fC_tired, fC_long, fC_min, CTh_eq, CXh_eq, ix_lit, lt_lit, cl_lit, nz_lit, in5, in12, abs_sz]
          refine ⟨fun g0 => ?_, fun g0 => ⟨fun g1 => ?_, fun g1 => ?_⟩⟩
          · rw [if_pos g0] at h1
            refine wk (gn1_ok l L) ok_74 20 (fun pc => false) ?_
            simp only [gn1, kk_74, Option.toList_some, Option.toList_none, ex, catS, vC, isMk, sym, popN, goC, callOK, swL, List.map_cons, List.map_nil, List.replicate_zero, List.replicate_succ, List.append_nil, List.nil_append, List.cons_append, List.getElem?_cons_zero, List.getElem?_cons_succ, List.set_cons_zero, List.set_cons_succ, List.length_cons, List.length_nil, List.head?_cons, Nat.reduceAdd, Nat.reduceLT, Nat.reduceLeDiff, Nat.reduceBEq, Nat.reduceEqDiff, Nat.succ_ne_zero, Nat.zero_lt_succ, Nat.le_refl, sc_rows, kc_lit, nc_lit, wlk_rows, uR_s, uR_uR, true_and, and_true, true_or, or_true, false_or, or_false, and_false, false_and, or_self, and_self, if_true, if_false, Bool.false_eq_true, Bool.or_false, Bool.or_true, Bool.false_or, Bool.true_or, not_true_eq_false, not_false_eq_true, forall_const, true_implies, false_implies, implies_true, reduceIte, reduceCtorEq, tt, hC.tx ht, fC_at, fC_begin, fC_place, fC_setg, fC_fare, fC_stays, fC_tired, fC_long, fC_min, CTh_eq, CXh_eq, ix_lit, lt_lit, cl_lit, nz_lit, in5, in12, abs_sz]
            exact h1
          · rw [if_neg g0, if_pos g1] at h1
            refine wk (gn1_ok l L) ok_74 20 (fun pc => false) ?_
            simp only [gn1, kk_74, Option.toList_some, Option.toList_none, ex, catS, vC, isMk, sym, popN, goC, callOK, swL, List.map_cons, List.map_nil, List.replicate_zero, List.replicate_succ, List.append_nil, List.nil_append, List.cons_append, List.getElem?_cons_zero, List.getElem?_cons_succ, List.set_cons_zero, List.set_cons_succ, List.length_cons, List.length_nil, List.head?_cons, Nat.reduceAdd, Nat.reduceLT, Nat.reduceLeDiff, Nat.reduceBEq, Nat.reduceEqDiff, Nat.succ_ne_zero, Nat.zero_lt_succ, Nat.le_refl, sc_rows, kc_lit, nc_lit, wlk_rows, uR_s, uR_uR, true_and, and_true, true_or, or_true, false_or, or_false, and_false, false_and, or_self, and_self, if_true, if_false, Bool.false_eq_true, Bool.or_false, Bool.or_true, Bool.false_or, Bool.true_or, not_true_eq_false, not_false_eq_true, forall_const, true_implies, false_implies, implies_true, reduceIte, reduceCtorEq, tt, tb1, hQ, k0 L, hZ.1, e4, fC_at, fC_begin, fC_place, fC_setg, fC_fare, fC_stays, fC_tired, fC_long, fC_min, CTh_eq, CXh_eq, ix_lit, lt_lit, cl_lit, nz_lit, in5, in12, abs_sz]
            exact h1
          · rw [if_neg g0, if_neg g1] at h1
            refine wk (gn1_ok l L) ok_74 20 (fun pc => false) ?_
            simp only [gn1, kk_74, Option.toList_some, Option.toList_none, ex, catS, vC, isMk, sym, popN, goC, callOK, swL, List.map_cons, List.map_nil, List.replicate_zero, List.replicate_succ, List.append_nil, List.nil_append, List.cons_append, List.getElem?_cons_zero, List.getElem?_cons_succ, List.set_cons_zero, List.set_cons_succ, List.length_cons, List.length_nil, List.head?_cons, Nat.reduceAdd, Nat.reduceLT, Nat.reduceLeDiff, Nat.reduceBEq, Nat.reduceEqDiff, Nat.succ_ne_zero, Nat.zero_lt_succ, Nat.le_refl, sc_rows, kc_lit, nc_lit, wlk_rows, uR_s, uR_uR, true_and, and_true, true_or, or_true, false_or, or_false, and_false, false_and, or_self, and_self, if_true, if_false, Bool.false_eq_true, Bool.or_false, Bool.or_true, Bool.false_or, Bool.true_or, not_true_eq_false, not_false_eq_true, forall_const, true_implies, false_implies, implies_true, reduceIte, reduceCtorEq, fC_at, fC_begin, fC_place, fC_setg, fC_fare, fC_stays, fC_tired, fC_long, fC_min, CTh_eq, CXh_eq, ix_lit, lt_lit, cl_lit, nz_lit, in5, in12, abs_sz]
            exact h1
      · rw [if_pos (Or.inr gv)] at h1
        by_cases gv1 : v < 0
        · refine wk (gn1_ok l L) ok_74 20 (fun pc => pc == 14 || pc == 30 || pc == 33) ?_
          simp only [gn1, kk_74, Option.toList_some, Option.toList_none, ex, catS, vC, isMk, sym, popN, goC, callOK, swL, List.map_cons, List.map_nil, List.replicate_zero, List.replicate_succ, List.append_nil, List.nil_append, List.cons_append, List.getElem?_cons_zero, List.getElem?_cons_succ, List.set_cons_zero, List.set_cons_succ, List.length_cons, List.length_nil, List.head?_cons, Nat.reduceAdd, Nat.reduceLT, Nat.reduceLeDiff, Nat.reduceBEq, Nat.reduceEqDiff, Nat.succ_ne_zero, Nat.zero_lt_succ, Nat.le_refl, sc_rows, kc_lit, nc_lit, wlk_rows, uR_s, uR_uR, true_and, and_true, true_or, or_true, false_or, or_false, and_false, false_and, or_self, and_self, if_true, if_false, Bool.false_eq_true, Bool.or_false, Bool.or_true, Bool.false_or, Bool.true_or, not_true_eq_false, not_false_eq_true, forall_const, true_implies, false_implies, implies_true, reduceIte, reduceCtorEq, b2_t gf, b2_t gt, nz_lit, eq_false g2, gv1, fC_at, fC_begin, fC_place, fC_setg, fC_fare, fC_stays, fC_tired, fC_long, fC_min, CTh_eq, CXh_eq, ix_lit, lt_lit, cl_lit, nz_lit, in5, in12, abs_sz]
          refine wk (gn1_ok l L) ok_74 20 (fun pc => false) ?_
          simp only [gn1, kk_74, Option.toList_some, Option.toList_none, ex, catS, vC, isMk, sym, popN, goC, callOK, swL, List.map_cons, List.map_nil, List.replicate_zero, List.replicate_succ, List.append_nil, List.nil_append, List.cons_append, List.getElem?_cons_zero, List.getElem?_cons_succ, List.set_cons_zero, List.set_cons_succ, List.length_cons, List.length_nil, List.head?_cons, Nat.reduceAdd, Nat.reduceLT, Nat.reduceLeDiff, Nat.reduceBEq, Nat.reduceEqDiff, Nat.succ_ne_zero, Nat.zero_lt_succ, Nat.le_refl, sc_rows, kc_lit, nc_lit, wlk_rows, uR_s, uR_uR, true_and, and_true, true_or, or_true, false_or, or_false, and_false, false_and, or_self, and_self, if_true, if_false, Bool.false_eq_true, Bool.or_false, Bool.or_true, Bool.false_or, Bool.true_or, not_true_eq_false, not_false_eq_true, forall_const, true_implies, false_implies, implies_true, reduceIte, reduceCtorEq, fC_at, fC_begin, fC_place, fC_setg, fC_fare, fC_stays, fC_tired, fC_long, fC_min, CTh_eq, CXh_eq, ix_lit, lt_lit, cl_lit, nz_lit, in5, in12, abs_sz]
          exact h1
        · have gv2 : ¬ v ≤ 2 := fun q => gv ⟨Int32.not_lt.mp gv1, q⟩
          refine wk (gn1_ok l L) ok_74 20 (fun pc => pc == 14 || pc == 30 || pc == 33) ?_
          simp only [gn1, kk_74, Option.toList_some, Option.toList_none, ex, catS, vC, isMk, sym, popN, goC, callOK, swL, List.map_cons, List.map_nil, List.replicate_zero, List.replicate_succ, List.append_nil, List.nil_append, List.cons_append, List.getElem?_cons_zero, List.getElem?_cons_succ, List.set_cons_zero, List.set_cons_succ, List.length_cons, List.length_nil, List.head?_cons, Nat.reduceAdd, Nat.reduceLT, Nat.reduceLeDiff, Nat.reduceBEq, Nat.reduceEqDiff, Nat.succ_ne_zero, Nat.zero_lt_succ, Nat.le_refl, sc_rows, kc_lit, nc_lit, wlk_rows, uR_s, uR_uR, true_and, and_true, true_or, or_true, false_or, or_false, and_false, false_and, or_self, and_self, if_true, if_false, Bool.false_eq_true, Bool.or_false, Bool.or_true, Bool.false_or, Bool.true_or, not_true_eq_false, not_false_eq_true, forall_const, true_implies, false_implies, implies_true, reduceIte, reduceCtorEq, b2_t gf, b2_t gt, nz_lit, eq_false g2, eq_false gv1, eq_false gv2, fC_at, fC_begin, fC_place, fC_setg, fC_fare, fC_stays, fC_tired, fC_long, fC_min, CTh_eq, CXh_eq, ix_lit, lt_lit, cl_lit, nz_lit, in5, in12, abs_sz]
          refine wk (gn1_ok l L) ok_74 20 (fun pc => false) ?_
          simp only [gn1, kk_74, Option.toList_some, Option.toList_none, ex, catS, vC, isMk, sym, popN, goC, callOK, swL, List.map_cons, List.map_nil, List.replicate_zero, List.replicate_succ, List.append_nil, List.nil_append, List.cons_append, List.getElem?_cons_zero, List.getElem?_cons_succ, List.set_cons_zero, List.set_cons_succ, List.length_cons, List.length_nil, List.head?_cons, Nat.reduceAdd, Nat.reduceLT, Nat.reduceLeDiff, Nat.reduceBEq, Nat.reduceEqDiff, Nat.succ_ne_zero, Nat.zero_lt_succ, Nat.le_refl, sc_rows, kc_lit, nc_lit, wlk_rows, uR_s, uR_uR, true_and, and_true, true_or, or_true, false_or, or_false, and_false, false_and, or_self, and_self, if_true, if_false, Bool.false_eq_true, Bool.or_false, Bool.or_true, Bool.false_or, Bool.true_or, not_true_eq_false, not_false_eq_true, forall_const, true_implies, false_implies, implies_true, reduceIte, reduceCtorEq, fC_at, fC_begin, fC_place, fC_setg, fC_fare, fC_stays, fC_tired, fC_long, fC_min, CTh_eq, CXh_eq, ix_lit, lt_lit, cl_lit, nz_lit, in5, in12, abs_sz]
          exact h1
  · rw [if_pos g] at h1
    by_cases gf : 0 ≤ f ∧ f ≤ 20
    · have gt : ¬ (0 ≤ to ∧ to ≤ 20) := fun q => g ⟨gf, q⟩
      refine wk (gn1_ok l L) ok_74 20 (fun pc => pc == 14 || pc == 16) ?_
      simp only [gn1, kk_74, Option.toList_some, Option.toList_none, ex, catS, vC, isMk, sym, popN, goC, callOK, swL, List.map_cons, List.map_nil, List.replicate_zero, List.replicate_succ, List.append_nil, List.nil_append, List.cons_append, List.getElem?_cons_zero, List.getElem?_cons_succ, List.set_cons_zero, List.set_cons_succ, List.length_cons, List.length_nil, List.head?_cons, Nat.reduceAdd, Nat.reduceLT, Nat.reduceLeDiff, Nat.reduceBEq, Nat.reduceEqDiff, Nat.succ_ne_zero, Nat.zero_lt_succ, Nat.le_refl, sc_rows, kc_lit, nc_lit, wlk_rows, uR_s, uR_uR, true_and, and_true, true_or, or_true, false_or, or_false, and_false, false_and, or_self, and_self, if_true, if_false, Bool.false_eq_true, Bool.or_false, Bool.or_true, Bool.false_or, Bool.true_or, not_true_eq_false, not_false_eq_true, forall_const, true_implies, false_implies, implies_true, reduceIte, reduceCtorEq, b2_t gf, b2_f gt, nz_lit, fC_at, fC_begin, fC_place, fC_setg, fC_fare, fC_stays, fC_tired, fC_long, fC_min, CTh_eq, CXh_eq, ix_lit, lt_lit, cl_lit, nz_lit, in5, in12, abs_sz]
      refine wk (gn1_ok l L) ok_74 20 (fun pc => false) ?_
      simp only [gn1, kk_74, Option.toList_some, Option.toList_none, ex, catS, vC, isMk, sym, popN, goC, callOK, swL, List.map_cons, List.map_nil, List.replicate_zero, List.replicate_succ, List.append_nil, List.nil_append, List.cons_append, List.getElem?_cons_zero, List.getElem?_cons_succ, List.set_cons_zero, List.set_cons_succ, List.length_cons, List.length_nil, List.head?_cons, Nat.reduceAdd, Nat.reduceLT, Nat.reduceLeDiff, Nat.reduceBEq, Nat.reduceEqDiff, Nat.succ_ne_zero, Nat.zero_lt_succ, Nat.le_refl, sc_rows, kc_lit, nc_lit, wlk_rows, uR_s, uR_uR, true_and, and_true, true_or, or_true, false_or, or_false, and_false, false_and, or_self, and_self, if_true, if_false, Bool.false_eq_true, Bool.or_false, Bool.or_true, Bool.false_or, Bool.true_or, not_true_eq_false, not_false_eq_true, forall_const, true_implies, false_implies, implies_true, reduceIte, reduceCtorEq, fC_at, fC_begin, fC_place, fC_setg, fC_fare, fC_stays, fC_tired, fC_long, fC_min, CTh_eq, CXh_eq, ix_lit, lt_lit, cl_lit, nz_lit, in5, in12, abs_sz]
      exact h1
    · refine wk (gn1_ok l L) ok_74 20 (fun pc => pc == 14 || pc == 7) ?_
      simp only [gn1, kk_74, Option.toList_some, Option.toList_none, ex, catS, vC, isMk, sym, popN, goC, callOK, swL, List.map_cons, List.map_nil, List.replicate_zero, List.replicate_succ, List.append_nil, List.nil_append, List.cons_append, List.getElem?_cons_zero, List.getElem?_cons_succ, List.set_cons_zero, List.set_cons_succ, List.length_cons, List.length_nil, List.head?_cons, Nat.reduceAdd, Nat.reduceLT, Nat.reduceLeDiff, Nat.reduceBEq, Nat.reduceEqDiff, Nat.succ_ne_zero, Nat.zero_lt_succ, Nat.le_refl, sc_rows, kc_lit, nc_lit, wlk_rows, uR_s, uR_uR, true_and, and_true, true_or, or_true, false_or, or_false, and_false, false_and, or_self, and_self, if_true, if_false, Bool.false_eq_true, Bool.or_false, Bool.or_true, Bool.false_or, Bool.true_or, not_true_eq_false, not_false_eq_true, forall_const, true_implies, false_implies, implies_true, reduceIte, reduceCtorEq, b2_f gf, fC_at, fC_begin, fC_place, fC_setg, fC_fare, fC_stays, fC_tired, fC_long, fC_min, CTh_eq, CXh_eq, ix_lit, lt_lit, cl_lit, nz_lit, in5, in12, abs_sz]
      refine wk (gn1_ok l L) ok_74 20 (fun pc => false) ?_
      simp only [gn1, kk_74, Option.toList_some, Option.toList_none, ex, catS, vC, isMk, sym, popN, goC, callOK, swL, List.map_cons, List.map_nil, List.replicate_zero, List.replicate_succ, List.append_nil, List.nil_append, List.cons_append, List.getElem?_cons_zero, List.getElem?_cons_succ, List.set_cons_zero, List.set_cons_succ, List.length_cons, List.length_nil, List.head?_cons, Nat.reduceAdd, Nat.reduceLT, Nat.reduceLeDiff, Nat.reduceBEq, Nat.reduceEqDiff, Nat.succ_ne_zero, Nat.zero_lt_succ, Nat.le_refl, sc_rows, kc_lit, nc_lit, wlk_rows, uR_s, uR_uR, true_and, and_true, true_or, or_true, false_or, or_false, and_false, false_and, or_self, and_self, if_true, if_false, Bool.false_eq_true, Bool.or_false, Bool.or_true, Bool.false_or, Bool.true_or, not_true_eq_false, not_false_eq_true, forall_const, true_implies, false_implies, implies_true, reduceIte, reduceCtorEq, fC_at, fC_begin, fC_place, fC_setg, fC_fare, fC_stays, fC_tired, fC_long, fC_min, CTh_eq, CXh_eq, ix_lit, lt_lit, cl_lit, nz_lit, in5, in12, abs_sz]
      exact h1
end G3

