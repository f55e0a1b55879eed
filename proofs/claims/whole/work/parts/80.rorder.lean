/-! the text: the reference's orders -/
section H5
variable {l : Launch} {L : Nat} {I : Nat → Nat → Int32} {Q : Nat → Nat → Option Nat} {P : Option Value → PH → Prop} {ln s : Nat}
/-- the orders that the reference has told -/
def TO (f : Nat → Int32) (c : Nat → Int32) (j : Nat) : Prop := ∀ i, i < j → f (3 * i) = (ordN c (stO c i)).2.2.1 ∧ f (3 * i + 1) = nI (ordN c (stO c i)).2.2.2.1 ∧ ((ordN c (stO c i)).2.2.1 = 99 → f (3 * i + 2) = nI (ordN c (stO c i)).2.2.2.2)
/-- an order told -/
def TE (f : Nat → Int32) (j : Nat) (r : Int32 × Nat × Nat) : Prop := f (3 * j) = r.1 ∧ f (3 * j + 1) = nI r.2.1 ∧ (r.1 = 99 → f (3 * j + 2) = nI r.2.2)
theorem TO.up {f f' : Nat → Int32} {c : Nat → Int32} {j : Nat} (h : TO f c j) (e : ∀ i, i < 3 * j → f' i = f i) (h2 : TE f' j (ordN c (stO c j)).2.2) : TO f' c (j + 1) := by
  intro i hi
  by_cases q : i = j
  · subst q; exact h2
  · rw [e _ (by omega), e _ (by omega), e _ (by omega)]
    exact h i (by omega)
/-- the reader's rows behind an order: told, its number, the spot -/
def ro (I : Nat → Nat → Int32) (g : Nat → Int32) (j s : Nat) : Nat → Nat → Int32 := uR (uR I 155 g) 149 (upd (upd (I 149) 14 (nI s)) 13 (nI j))
theorem ro_of (I : Nat → Nat → Int32) (g : Nat → Int32) (j s : Nat) : uR (a14 (uR I 155 g) s) 149 (upd (a14 (uR I 155 g) s 149) 13 (nI j)) = ro I g j s := by
  unfold a14 ro
  rw [uR_s, uR_uR, uR_n I g (show 149 ≠ 155 by omega)]
theorem u155 (I : Nat → Nat → Int32) (g g' : Nat → Int32) (s : Nat) : uR (a14 (uR I 155 g) s) 155 g' = a14 (uR I 155 g') s := by
  unfold a14
  rw [uR_n I g (show 149 ≠ 155 by omega), uR_n I g' (show 149 ≠ 155 by omega), uR_comm _ _ _ (show 149 ≠ 155 by omega), uR_uR]
theorem a155 (I : Nat → Nat → Int32) (g : Nat → Int32) (s : Nat) : a14 (uR I 155 g) s 155 = g := by rw [a14_o _ _ (by omega), uR_s]
theorem a155' (I : Nat → Nat → Int32) (s : Nat) (g : Nat → Int32) : uR (a14 I s) 155 g = a14 (uR I 155 g) s := by
  unfold a14
  rw [uR_n I g (show 149 ≠ 155 by omega), uR_comm _ _ _ (show 149 ≠ 155 by omega)]
theorem RT.told (h : RT I ln s) (g : Nat → Int32) : RT (uR I 155 g) ln s := by
  unfold RT
  rw [uR_n I g (show 149 ≠ 155 by omega)]
  exact h
theorem a154 (I : Nat → Nat → Int32) (g : Nat → Int32) (s : Nat) : a14 (uR I 155 g) s 154 = I 154 := by rw [a14_o _ _ (by omega), uR_n _ _ (by omega)]
/-- the end of an order -/
def OEnd (l : Launch) (L : Nat) (I : Nat → Nat → Int32) (Q : Nat → Nat → Option Nat) (P : Option Value → PH → Prop) (s j : Nat) (c : Nat → Int32) : Prop := ∀ (ok : Bool) (s' : Nat) (sg : Int32) (v u : Nat) (g : Nat → Int32) (v2 : Int32), ordN c s = (ok, s', sg, v, u) → (∀ i, i < 3 * j → g i = I 155 i) → (ok = true → TE g j (sg, v, u)) → v2 = b2 (ok = true) → Sy l 134 (156, 3525) 258 [some (.ref 149), some (.int (nI (3 * j))), some (.int v2)] [] (SC L, a14 (uR I 155 g) s', Q) P
theorem b2_tt : (1 : Int32) = b2 (true = true) := (b2_t rfl).symm
theorem b2_ff : (0 : Int32) = b2 (false = true) := (b2_f (fun q => by cases q)).symm
theorem nff {p : Prop} (q : false = true) : p := by cases q
def ZI (j : Nat) : Prop := (vp_in (nI (3 * j)) 66 ∧ (nI (3 * j)).toNatClampNeg = 3 * j) ∧ (vp_in (nI (3 * j + 1)) 66 ∧ (nI (3 * j + 1)).toNatClampNeg = 3 * j + 1) ∧ (vp_in (nI (3 * j + 2)) 66 ∧ (nI (3 * j + 2)).toNatClampNeg = 3 * j + 2) ∧ nI (3 * j) + 2 = nI (3 * j + 2)
theorem ZI.of {j : Nat} (h : j ≤ 20) : ZI j := ⟨ixp (by omega) (by omega), ixp (by omega) (by omega), ixp (by omega) (by omega), nI_add _ 2⟩
theorem up3a (g : Nat → Int32) (x : Int32) {i j : Nat} (h : i < 3 * j) : upd g (3 * j) x i = g i := upd_n _ _ (by omega)
theorem up3b (g : Nat → Int32) (x : Int32) {i j : Nat} (h : i < 3 * j) : upd g (3 * j + 1) x i = g i := upd_n _ _ (by omega)
theorem up3c (g : Nat → Int32) (x : Int32) {i j : Nat} (h : i < 3 * j) : upd g (3 * j + 2) x i = g i := upd_n _ _ (by omega)
set_option maxRecDepth 100000 in
theorem r_oW (hQ : QM Q) (h : RT I ln s) (hs : s ≤ 70) {j : Nat} (hz : ZI j) {c : Nat → Int32} (hc : chx (I 154) ln = c) (last : OEnd l L I Q P s j c) (w : c s = 119) {a2 : Option Value} : Sy l 134 (156, 3525) 16 [some (.ref 149), some (.int (nI (3 * j))), a2] [] (SC L, a14 (uR I 155 (I 155)) (s + 1), Q) P := by
  obtain ⟨i0, i1, -, -⟩ := hz
  have eo : ordN c s = match num0 c 0 20 (s + 1) with
    | none => (false, s + 1, 119, 0, 0)
    | some (v, s1) => (decide (v ≠ 10), s1, 119, v, 0) := by unfold ordN; rw [if_pos w]; cases num0 c 0 20 (s + 1) <;> rfl
  refine wk ((fn0_ok l)) ok_134 20 (fun pc => pc == 258) ?_
  simp only [fn0, kk_134, Option.toList_some, Option.toList_none, ex, sym, popN, goC, callOK, swL, List.map_cons, List.map_nil, List.replicate_zero, List.replicate_succ, List.append_nil, List.nil_append, List.cons_append, List.getElem?_cons_zero, List.getElem?_cons_succ, List.set_cons_zero, List.set_cons_succ, List.length_cons, List.length_nil, List.head?_cons, Nat.reduceAdd, Nat.reduceLT, Nat.reduceLeDiff, Nat.reduceBEq, Nat.reduceEqDiff, Nat.succ_ne_zero, Nat.zero_lt_succ, Nat.le_refl, sc_rows, kc_lit, nc_lit, wlk_rows, uR_s, uR_uR, true_and, and_true, true_or, or_true, false_or, or_false, and_false, false_and, or_self, and_self, if_true, if_false, Bool.false_eq_true, Bool.or_false, Bool.or_true, Bool.false_or, Bool.true_or, not_true_eq_false, not_false_eq_true, forall_const, true_implies, false_implies, implies_true, reduceIte, reduceCtorEq, kT L, hQ.2.2.2.2.2, i0, a155, u155, nI_up]
  have rt : RT (a14 (uR I 155 (upd (I 155) (3 * j) 119)) (s + 1)) ln (s + 1) := (h.told _).at (by omega)
  refine r_num (lo := 0) (H := 20) hQ rt (by omega) (by omega) (by omega) (fun hn => ?_) (fun v s' hn hv => ?_)
  · rw [a154, hc] at hn
    rw [hn] at eo
    dsimp only at eo
    have key := last _ _ _ _ _ (upd (upd (I 155) (3 * j) 119) (3 * j + 1) (-5)) 0 eo (fun i hi => (up3b _ _ hi).trans (up3a _ _ hi)) nff b2_ff
    refine wk ((fn0_ok l)) ok_134 20 (fun pc => pc == 258 || pc == 65 || pc == 52) ?_
    simp only [fn0, kk_134, Option.toList_some, Option.toList_none, ex, sym, popN, goC, callOK, swL, List.map_cons, List.map_nil, List.replicate_zero, List.replicate_succ, List.append_nil, List.nil_append, List.cons_append, List.getElem?_cons_zero, List.getElem?_cons_succ, List.set_cons_zero, List.set_cons_succ, List.length_cons, List.length_nil, List.head?_cons, Nat.reduceAdd, Nat.reduceLT, Nat.reduceLeDiff, Nat.reduceBEq, Nat.reduceEqDiff, Nat.succ_ne_zero, Nat.zero_lt_succ, Nat.le_refl, sc_rows, kc_lit, nc_lit, wlk_rows, uR_s, uR_uR, true_and, and_true, true_or, or_true, false_or, or_false, and_false, false_and, or_self, and_self, if_true, if_false, Bool.false_eq_true, Bool.or_false, Bool.or_true, Bool.false_or, Bool.true_or, not_true_eq_false, not_false_eq_true, forall_const, true_implies, false_implies, implies_true, reduceIte, reduceCtorEq, kT L, nI_up, hQ.2.2.2.2.2, i1, a155, u155, upd_e]
    exact key
  · rw [a154, hc] at hn
    rw [hn] at eo
    dsimp only at eo
    rw [a14_a14]
    have n5 : (nI v = -5) = False := n5F (by omega)
    have te : TE (upd (upd (I 155) (3 * j) 119) (3 * j + 1) (nI v)) j (119, v, 0) := ⟨by rw [upd_n _ _ (by omega), upd_e], by rw [upd_e], fun q => absurd (show (119 : Int32) = 99 from q) (by decide)⟩
    by_cases g10 : v = 10
    · subst g10
      have key := last _ _ _ _ _ (upd (upd (I 155) (3 * j) 119) (3 * j + 1) 10) 0 eo (fun i hi => (up3b _ _ hi).trans (up3a _ _ hi)) (fun q => by simp at q) (by simp [b2])
      refine wk ((fn0_ok l)) ok_134 30 (fun pc => pc == 258 || pc == 65) ?_
      simp only [fn0, kk_134, Option.toList_some, Option.toList_none, ex, sym, popN, goC, callOK, swL, List.map_cons, List.map_nil, List.replicate_zero, List.replicate_succ, List.append_nil, List.nil_append, List.cons_append, List.getElem?_cons_zero, List.getElem?_cons_succ, List.set_cons_zero, List.set_cons_succ, List.length_cons, List.length_nil, List.head?_cons, Nat.reduceAdd, Nat.reduceLT, Nat.reduceLeDiff, Nat.reduceBEq, Nat.reduceEqDiff, Nat.succ_ne_zero, Nat.zero_lt_succ, Nat.le_refl, sc_rows, kc_lit, nc_lit, wlk_rows, uR_s, uR_uR, true_and, and_true, true_or, or_true, false_or, or_false, and_false, false_and, or_self, and_self, if_true, if_false, Bool.false_eq_true, Bool.or_false, Bool.or_true, Bool.false_or, Bool.true_or, not_true_eq_false, not_false_eq_true, forall_const, true_implies, false_implies, implies_true, reduceIte, reduceCtorEq, kT L, nI_up, hQ.2.2.2.2.2, i1, a155, u155, upd_e, show nI 10 = (10 : Int32) from rfl, show ((10 : Int32) = -5) = False by decide]
      exact key
    · have e10 : (nI v = 10) = False := by rw [show (10 : Int32) = nI 10 from rfl]; exact eqF g10 (by omega) (by omega)
      have key := last _ _ _ _ _ (upd (upd (I 155) (3 * j) 119) (3 * j + 1) (nI v)) 1 eo (fun i hi => (up3b _ _ hi).trans (up3a _ _ hi)) (fun _ => te) (by simp [b2, g10])
      refine wk ((fn0_ok l)) ok_134 30 (fun pc => pc == 258 || pc == 69) ?_
      simp only [fn0, kk_134, Option.toList_some, Option.toList_none, ex, sym, popN, goC, callOK, swL, List.map_cons, List.map_nil, List.replicate_zero, List.replicate_succ, List.append_nil, List.nil_append, List.cons_append, List.getElem?_cons_zero, List.getElem?_cons_succ, List.set_cons_zero, List.set_cons_succ, List.length_cons, List.length_nil, List.head?_cons, Nat.reduceAdd, Nat.reduceLT, Nat.reduceLeDiff, Nat.reduceBEq, Nat.reduceEqDiff, Nat.succ_ne_zero, Nat.zero_lt_succ, Nat.le_refl, sc_rows, kc_lit, nc_lit, wlk_rows, uR_s, uR_uR, true_and, and_true, true_or, or_true, false_or, or_false, and_false, false_and, or_self, and_self, if_true, if_false, Bool.false_eq_true, Bool.or_false, Bool.or_true, Bool.false_or, Bool.true_or, not_true_eq_false, not_false_eq_true, forall_const, true_implies, false_implies, implies_true, reduceIte, reduceCtorEq, kT L, nI_up, hQ.2.2.2.2.2, i1, a155, u155, upd_e, n5, e10]
      exact key
set_option maxRecDepth 100000 in
theorem r_oP (hQ : QM Q) (h : RT I ln s) (hs : s ≤ 70) {j : Nat} (hz : ZI j) {c : Nat → Int32} (hc : chx (I 154) ln = c) (last : OEnd l L I Q P s j c) (w1 : c s ≠ 119) (w2 : c s ≠ 99) (w : c s = 46) : Sy l 134 (156, 3525) 206 [some (.ref 149), some (.int (nI (3 * j))), some (.int 1)] [] (SC L, a14 (uR I 155 (I 155)) (s + 1), Q) P := by
  obtain ⟨i0, i1, -, -⟩ := hz
  have eo : ordN c s = match num0 c 1 999 (s + 1) with
    | none => (false, s + 1, 46, 0, 0)
    | some (v, s1) => (true, s1, 46, v, 0) := by unfold ordN; rw [if_neg w1, if_neg w2, if_pos w]; cases num0 c 1 999 (s + 1) <;> rfl
  refine wk ((fn0_ok l)) ok_134 20 (fun pc => pc == 236) ?_
  simp only [fn0, kk_134, Option.toList_some, Option.toList_none, ex, sym, popN, goC, callOK, swL, List.map_cons, List.map_nil, List.replicate_zero, List.replicate_succ, List.append_nil, List.nil_append, List.cons_append, List.getElem?_cons_zero, List.getElem?_cons_succ, List.set_cons_zero, List.set_cons_succ, List.length_cons, List.length_nil, List.head?_cons, Nat.reduceAdd, Nat.reduceLT, Nat.reduceLeDiff, Nat.reduceBEq, Nat.reduceEqDiff, Nat.succ_ne_zero, Nat.zero_lt_succ, Nat.le_refl, sc_rows, kc_lit, nc_lit, wlk_rows, uR_s, uR_uR, true_and, and_true, true_or, or_true, false_or, or_false, and_false, false_and, or_self, and_self, if_true, if_false, Bool.false_eq_true, Bool.or_false, Bool.or_true, Bool.false_or, Bool.true_or, not_true_eq_false, not_false_eq_true, forall_const, true_implies, false_implies, implies_true, reduceIte, reduceCtorEq, kT L, hQ.2.2.2.2.2, i0, nz_lit, a155, u155, nI_up]
  have rt : RT (a14 (uR I 155 (upd (I 155) (3 * j) 46)) (s + 1)) ln (s + 1) := (h.told _).at (by omega)
  refine r_num (lo := 1) (H := 999) hQ rt (by omega) (by omega) (by omega) (fun hn => ?_) (fun v s' hn hv => ?_)
  · rw [a154, hc] at hn
    rw [hn] at eo
    dsimp only at eo
    have key := last _ _ _ _ _ (upd (upd (I 155) (3 * j) 46) (3 * j + 1) (-5)) 0 eo (fun i hi => (up3b _ _ hi).trans (up3a _ _ hi)) nff b2_ff
    refine wk ((fn0_ok l)) ok_134 30 (fun pc => pc == 258 || pc == 252) ?_
    simp only [fn0, kk_134, Option.toList_some, Option.toList_none, ex, sym, popN, goC, callOK, swL, List.map_cons, List.map_nil, List.replicate_zero, List.replicate_succ, List.append_nil, List.nil_append, List.cons_append, List.getElem?_cons_zero, List.getElem?_cons_succ, List.set_cons_zero, List.set_cons_succ, List.length_cons, List.length_nil, List.head?_cons, Nat.reduceAdd, Nat.reduceLT, Nat.reduceLeDiff, Nat.reduceBEq, Nat.reduceEqDiff, Nat.succ_ne_zero, Nat.zero_lt_succ, Nat.le_refl, sc_rows, kc_lit, nc_lit, wlk_rows, uR_s, uR_uR, true_and, and_true, true_or, or_true, false_or, or_false, and_false, false_and, or_self, and_self, if_true, if_false, Bool.false_eq_true, Bool.or_false, Bool.or_true, Bool.false_or, Bool.true_or, not_true_eq_false, not_false_eq_true, forall_const, true_implies, false_implies, implies_true, reduceIte, reduceCtorEq, kT L, hQ.2.2.2.2.2, i1, a155, u155, nI_up, upd_e]
    exact key
  · rw [a154, hc] at hn
    rw [hn] at eo
    dsimp only at eo
    rw [a14_a14]
    have n5 : (nI v = -5) = False := n5F (by omega)
    have te : TE (upd (upd (I 155) (3 * j) 46) (3 * j + 1) (nI v)) j (46, v, 0) := ⟨by rw [upd_n _ _ (by omega), upd_e], by rw [upd_e], fun q => absurd (show (46 : Int32) = 99 from q) (by decide)⟩
    have key := last _ _ _ _ _ (upd (upd (I 155) (3 * j) 46) (3 * j + 1) (nI v)) 1 eo (fun i hi => (up3b _ _ hi).trans (up3a _ _ hi)) (fun _ => te) b2_tt
    refine wk ((fn0_ok l)) ok_134 30 (fun pc => pc == 258 || pc == 256) ?_
    simp only [fn0, kk_134, Option.toList_some, Option.toList_none, ex, sym, popN, goC, callOK, swL, List.map_cons, List.map_nil, List.replicate_zero, List.replicate_succ, List.append_nil, List.nil_append, List.cons_append, List.getElem?_cons_zero, List.getElem?_cons_succ, List.set_cons_zero, List.set_cons_succ, List.length_cons, List.length_nil, List.head?_cons, Nat.reduceAdd, Nat.reduceLT, Nat.reduceLeDiff, Nat.reduceBEq, Nat.reduceEqDiff, Nat.succ_ne_zero, Nat.zero_lt_succ, Nat.le_refl, sc_rows, kc_lit, nc_lit, wlk_rows, uR_s, uR_uR, true_and, and_true, true_or, or_true, false_or, or_false, and_false, false_and, or_self, and_self, if_true, if_false, Bool.false_eq_true, Bool.or_false, Bool.or_true, Bool.false_or, Bool.true_or, not_true_eq_false, not_false_eq_true, forall_const, true_implies, false_implies, implies_true, reduceIte, reduceCtorEq, kT L, hQ.2.2.2.2.2, i1, a155, u155, nI_up, upd_e, n5]
    exact key
set_option maxRecDepth 100000 in
theorem r_oX (hQ : QM Q) (h : RT I ln s) (hs : s ≤ 70) {j : Nat} (hz : ZI j) {c : Nat → Int32} (last : OEnd l L I Q P s j c) (w1 : c s ≠ 119) (w2 : c s ≠ 99) (w : c s ≠ 46) : Sy l 134 (156, 3525) 206 [some (.ref 149), some (.int (nI (3 * j))), some (.int 0)] [] (SC L, a14 (uR I 155 (I 155)) s, Q) P := by
  obtain ⟨i0, i1, -, -⟩ := hz
  have eo : ordN c s = (false, s, 0, 0, 0) := by unfold ordN; rw [if_neg w1, if_neg w2, if_neg w]
  have key := last _ _ _ _ _ (upd (upd (I 155) (3 * j) 46) (3 * j + 1) (-5)) 0 eo (fun i hi => (up3b _ _ hi).trans (up3a _ _ hi)) nff b2_ff
  refine wk ((fn0_ok l)) ok_134 40 (fun pc => pc == 258 || pc == 225 || pc == 252) ?_
  simp only [fn0, kk_134, Option.toList_some, Option.toList_none, ex, sym, popN, goC, callOK, swL, List.map_cons, List.map_nil, List.replicate_zero, List.replicate_succ, List.append_nil, List.nil_append, List.cons_append, List.getElem?_cons_zero, List.getElem?_cons_succ, List.set_cons_zero, List.set_cons_succ, List.length_cons, List.length_nil, List.head?_cons, Nat.reduceAdd, Nat.reduceLT, Nat.reduceLeDiff, Nat.reduceBEq, Nat.reduceEqDiff, Nat.succ_ne_zero, Nat.zero_lt_succ, Nat.le_refl, sc_rows, kc_lit, nc_lit, wlk_rows, uR_s, uR_uR, true_and, and_true, true_or, or_true, false_or, or_false, and_false, false_and, or_self, and_self, if_true, if_false, Bool.false_eq_true, Bool.or_false, Bool.or_true, Bool.false_or, Bool.true_or, not_true_eq_false, not_false_eq_true, forall_const, true_implies, false_implies, implies_true, reduceIte, reduceCtorEq, kT L, hQ.2.2.2.2.2, i0, i1, a155, u155, nI_up, upd_e]
  exact key
set_option maxRecDepth 100000 in
theorem r_oN (hQ : QM Q) {j s' : Nat} (hz : ZI j) {f : Nat → Int32} (key : Sy l 134 (156, 3525) 258 [some (.ref 149), some (.int (nI (3 * j))), some (.int 0)] [] (SC L, a14 (uR I 155 (upd f (3 * j + 2) (-5))) s', Q) P) {a2 : Option Value} : Sy l 134 (156, 3525) 155 [some (.ref 149), some (.int (nI (3 * j))), a2] [.int (nI (3 * j + 2)), .ref 155] (SC L, a14 (uR I 155 f) s', Q) P := by
  obtain ⟨-, i1, i2, n2⟩ := hz
  refine wk ((fn0_ok l)) ok_134 30 (fun pc => pc == 171 || pc == 258) ?_
  simp only [fn0, kk_134, Option.toList_some, Option.toList_none, ex, sym, popN, goC, callOK, swL, List.map_cons, List.map_nil, List.replicate_zero, List.replicate_succ, List.append_nil, List.nil_append, List.cons_append, List.getElem?_cons_zero, List.getElem?_cons_succ, List.set_cons_zero, List.set_cons_succ, List.length_cons, List.length_nil, List.head?_cons, Nat.reduceAdd, Nat.reduceLT, Nat.reduceLeDiff, Nat.reduceBEq, Nat.reduceEqDiff, Nat.succ_ne_zero, Nat.zero_lt_succ, Nat.le_refl, sc_rows, kc_lit, nc_lit, wlk_rows, uR_s, uR_uR, true_and, and_true, true_or, or_true, false_or, or_false, and_false, false_and, or_self, and_self, if_true, if_false, Bool.false_eq_true, Bool.or_false, Bool.or_true, Bool.false_or, Bool.true_or, not_true_eq_false, not_false_eq_true, forall_const, true_implies, false_implies, implies_true, reduceIte, reduceCtorEq, kT L, nI_up, hQ.2.2.2.2.2, i2, n2, a155, u155, upd_e]
  exact key
set_option maxRecDepth 100000 in
theorem r_oC2 (hQ : QM Q) (h : RT I ln s) {j v s' : Nat} (hz : ZI j) {c : Nat → Int32} (hc : chx (I 154) ln = c) (last : OEnd l L I Q P s j c) (hs' : s' ≤ 80) (hv : v ≤ 999) {a2 : Option Value} (eo : ordN c s = if c s' = 62 then match num0 c 0 20 (s' + 1) with
            | none => (false, s' + 1, (99 : Int32), v, 0)
            | some (u, s2) => (decide (u ≠ v), s2, (99 : Int32), v, u)
          else (false, s', (99 : Int32), v, 0)) : Sy l 134 (156, 3525) 119 [some (.ref 149), some (.int (nI (3 * j))), a2] [] (SC L, a14 (uR I 155 (upd (upd (I 155) (3 * j) 99) (3 * j + 1) (nI v))) s', Q) P := by
  obtain ⟨i0, i1, i2, n2⟩ := id hz
  have rt2 : RT (a14 (uR I 155 (upd (upd (I 155) (3 * j) 99) (3 * j + 1) (nI v))) s') ln s' := (h.told _).at (by omega)
  refine wk ((fn0_ok l)) ok_134 20 (fun pc => false) ?_
  simp only [fn0, kk_134, Option.toList_some, Option.toList_none, ex, sym, popN, goC, callOK, swL, List.map_cons, List.map_nil, List.replicate_zero, List.replicate_succ, List.append_nil, List.nil_append, List.cons_append, List.getElem?_cons_zero, List.getElem?_cons_succ, List.set_cons_zero, List.set_cons_succ, List.length_cons, List.length_nil, List.head?_cons, Nat.reduceAdd, Nat.reduceLT, Nat.reduceLeDiff, Nat.reduceBEq, Nat.reduceEqDiff, Nat.succ_ne_zero, Nat.zero_lt_succ, Nat.le_refl, sc_rows, kc_lit, nc_lit, wlk_rows, uR_s, uR_uR, true_and, and_true, true_or, or_true, false_or, or_false, and_false, false_and, or_self, and_self, if_true, if_false, Bool.false_eq_true, Bool.or_false, Bool.or_true, Bool.false_or, Bool.true_or, not_true_eq_false, not_false_eq_true, forall_const, true_implies, false_implies, implies_true, reduceIte, reduceCtorEq, kT L]
  refine r_takes hQ rt2 62 (by decide) (fun g62 => ?_) (fun g62 => ?_)
  · rw [a154, hc] at g62
    rw [if_pos g62] at eo
    rw [a14_a14]
    have rt3 : RT (a14 (uR I 155 (upd (upd (I 155) (3 * j) 99) (3 * j + 1) (nI v))) (s' + 1)) ln (s' + 1) := (h.told _).at (by omega)
    refine wk ((fn0_ok l)) ok_134 30 (fun pc => pc == 155 || pc == 132) ?_
    simp only [fn0, kk_134, Option.toList_some, Option.toList_none, ex, sym, popN, goC, callOK, swL, List.map_cons, List.map_nil, List.replicate_zero, List.replicate_succ, List.append_nil, List.nil_append, List.cons_append, List.getElem?_cons_zero, List.getElem?_cons_succ, List.set_cons_zero, List.set_cons_succ, List.length_cons, List.length_nil, List.head?_cons, Nat.reduceAdd, Nat.reduceLT, Nat.reduceLeDiff, Nat.reduceBEq, Nat.reduceEqDiff, Nat.succ_ne_zero, Nat.zero_lt_succ, Nat.le_refl, sc_rows, kc_lit, nc_lit, wlk_rows, uR_s, uR_uR, true_and, and_true, true_or, or_true, false_or, or_false, and_false, false_and, or_self, and_self, if_true, if_false, Bool.false_eq_true, Bool.or_false, Bool.or_true, Bool.false_or, Bool.true_or, not_true_eq_false, not_false_eq_true, forall_const, true_implies, false_implies, implies_true, reduceIte, reduceCtorEq, kT L, nI_up, hQ.2.2.2.2.2, i2, n2, a155, u155, nz_lit]
    refine r_num (lo := 0) (H := 20) hQ rt3 (by omega) (by omega) (by omega) (fun hn2 => ?_) (fun u s2 hn2 hu => ?_)
    · rw [a154, hc] at hn2
      rw [hn2] at eo
      dsimp only at eo
      have key := last _ _ _ _ _ (upd (upd (upd (I 155) (3 * j) 99) (3 * j + 1) (nI v)) (3 * j + 2) (-5)) 0 eo (fun i hi => (up3c _ _ hi).trans ((up3b _ _ hi).trans (up3a _ _ hi))) nff b2_ff
      refine wk ((fn0_ok l)) ok_134 30 (fun pc => pc == 171 || pc == 258) ?_
      simp only [fn0, kk_134, Option.toList_some, Option.toList_none, ex, sym, popN, goC, callOK, swL, List.map_cons, List.map_nil, List.replicate_zero, List.replicate_succ, List.append_nil, List.nil_append, List.cons_append, List.getElem?_cons_zero, List.getElem?_cons_succ, List.set_cons_zero, List.set_cons_succ, List.length_cons, List.length_nil, List.head?_cons, Nat.reduceAdd, Nat.reduceLT, Nat.reduceLeDiff, Nat.reduceBEq, Nat.reduceEqDiff, Nat.succ_ne_zero, Nat.zero_lt_succ, Nat.le_refl, sc_rows, kc_lit, nc_lit, wlk_rows, uR_s, uR_uR, true_and, and_true, true_or, or_true, false_or, or_false, and_false, false_and, or_self, and_self, if_true, if_false, Bool.false_eq_true, Bool.or_false, Bool.or_true, Bool.false_or, Bool.true_or, not_true_eq_false, not_false_eq_true, forall_const, true_implies, false_implies, implies_true, reduceIte, reduceCtorEq, kT L, nI_up, hQ.2.2.2.2.2, i2, n2, a155, u155, upd_e]
      exact key
    · rw [a154, hc] at hn2
      rw [hn2] at eo
      dsimp only at eo
      rw [a14_a14]
      have u5 : (nI u = -5) = False := n5F (by omega)
      have r1 : upd (upd (upd (I 155) (3 * j) 99) (3 * j + 1) (nI v)) (3 * j + 2) (nI u) (3 * j + 1) = nI v := by rw [upd_n _ _ (by omega), upd_e]
      have te : TE (upd (upd (upd (I 155) (3 * j) 99) (3 * j + 1) (nI v)) (3 * j + 2) (nI u)) j (99, v, u) := ⟨by rw [upd_n _ _ (by omega), upd_n _ _ (by omega), upd_e], r1, fun _ => upd_e _ _ _⟩
      by_cases guv : u = v
      · subst guv
        have key := last _ _ _ _ _ (upd (upd (upd (I 155) (3 * j) 99) (3 * j + 1) (nI u)) (3 * j + 2) (nI u)) 0 eo (fun i hi => (up3c _ _ hi).trans ((up3b _ _ hi).trans (up3a _ _ hi))) (fun q => by simp at q) (by simp [b2])
        refine wk ((fn0_ok l)) ok_134 40 (fun pc => pc == 258 || pc == 190) ?_
        simp only [fn0, kk_134, Option.toList_some, Option.toList_none, ex, sym, popN, goC, callOK, swL, List.map_cons, List.map_nil, List.replicate_zero, List.replicate_succ, List.append_nil, List.nil_append, List.cons_append, List.getElem?_cons_zero, List.getElem?_cons_succ, List.set_cons_zero, List.set_cons_succ, List.length_cons, List.length_nil, List.head?_cons, Nat.reduceAdd, Nat.reduceLT, Nat.reduceLeDiff, Nat.reduceBEq, Nat.reduceEqDiff, Nat.succ_ne_zero, Nat.zero_lt_succ, Nat.le_refl, sc_rows, kc_lit, nc_lit, wlk_rows, uR_s, uR_uR, true_and, and_true, true_or, or_true, false_or, or_false, and_false, false_and, or_self, and_self, if_true, if_false, Bool.false_eq_true, Bool.or_false, Bool.or_true, Bool.false_or, Bool.true_or, not_true_eq_false, not_false_eq_true, forall_const, true_implies, false_implies, implies_true, reduceIte, reduceCtorEq, kT L, hQ.2.2.2.2.2, i1, i2, n2, nI_up, a155, u155, upd_e, u5, r1]
        exact key
      · have e2 : (nI u = nI v) = False := eqF guv (by omega) (by omega)
        have key := last _ _ _ _ _ (upd (upd (upd (I 155) (3 * j) 99) (3 * j + 1) (nI v)) (3 * j + 2) (nI u)) 1 eo (fun i hi => (up3c _ _ hi).trans ((up3b _ _ hi).trans (up3a _ _ hi))) (fun _ => te) (by simp [b2, guv])
        refine wk ((fn0_ok l)) ok_134 40 (fun pc => pc == 258 || pc == 194) ?_
        simp only [fn0, kk_134, Option.toList_some, Option.toList_none, ex, sym, popN, goC, callOK, swL, List.map_cons, List.map_nil, List.replicate_zero, List.replicate_succ, List.append_nil, List.nil_append, List.cons_append, List.getElem?_cons_zero, List.getElem?_cons_succ, List.set_cons_zero, List.set_cons_succ, List.length_cons, List.length_nil, List.head?_cons, Nat.reduceAdd, Nat.reduceLT, Nat.reduceLeDiff, Nat.reduceBEq, Nat.reduceEqDiff, Nat.succ_ne_zero, Nat.zero_lt_succ, Nat.le_refl, sc_rows, kc_lit, nc_lit, wlk_rows, uR_s, uR_uR, true_and, and_true, true_or, or_true, false_or, or_false, and_false, false_and, or_self, and_self, if_true, if_false, Bool.false_eq_true, Bool.or_false, Bool.or_true, Bool.false_or, Bool.true_or, not_true_eq_false, not_false_eq_true, forall_const, true_implies, false_implies, implies_true, reduceIte, reduceCtorEq, kT L, hQ.2.2.2.2.2, i1, i2, n2, nI_up, a155, u155, upd_e, u5, r1, e2]
        exact key
  · rw [a154, hc] at g62
    rw [if_neg g62] at eo
    have key := last _ _ _ _ _ (upd (upd (upd (I 155) (3 * j) 99) (3 * j + 1) (nI v)) (3 * j + 2) (-5)) 0 eo (fun i hi => (up3c _ _ hi).trans ((up3b _ _ hi).trans (up3a _ _ hi))) nff b2_ff
    refine wk ((fn0_ok l)) ok_134 30 (fun pc => pc == 128 || pc == 145 || pc == 155) ?_
    simp only [fn0, kk_134, Option.toList_some, Option.toList_none, ex, sym, popN, goC, callOK, swL, List.map_cons, List.map_nil, List.replicate_zero, List.replicate_succ, List.append_nil, List.nil_append, List.cons_append, List.getElem?_cons_zero, List.getElem?_cons_succ, List.set_cons_zero, List.set_cons_succ, List.length_cons, List.length_nil, List.head?_cons, Nat.reduceAdd, Nat.reduceLT, Nat.reduceLeDiff, Nat.reduceBEq, Nat.reduceEqDiff, Nat.succ_ne_zero, Nat.zero_lt_succ, Nat.le_refl, sc_rows, kc_lit, nc_lit, wlk_rows, uR_s, uR_uR, true_and, and_true, true_or, or_true, false_or, or_false, and_false, false_and, or_self, and_self, if_true, if_false, Bool.false_eq_true, Bool.or_false, Bool.or_true, Bool.false_or, Bool.true_or, not_true_eq_false, not_false_eq_true, forall_const, true_implies, false_implies, implies_true, reduceIte, reduceCtorEq, kT L, nI_up, hQ.2.2.2.2.2, n2, nz_lit]
    exact r_oN hQ hz key
set_option maxRecDepth 100000 in
theorem r_oC (hQ : QM Q) (h : RT I ln s) (hs : s ≤ 70) {j : Nat} (hz : ZI j) {c : Nat → Int32} (hc : chx (I 154) ln = c) (last : OEnd l L I Q P s j c) (w : c s ≠ 119) (w2 : c s = 99) {a2 : Option Value} : Sy l 134 (156, 3525) 83 [some (.ref 149), some (.int (nI (3 * j))), a2] [] (SC L, a14 (uR I 155 (I 155)) (s + 1), Q) P := by
  obtain ⟨i0, i1, i2, n2⟩ := id hz
  have eo : ordN c s = match num0 c 0 20 (s + 1) with
    | none => (false, s + 1, 99, 0, 0)
    | some (v, s1) => if c s1 = 62 then match num0 c 0 20 (s1 + 1) with
        | none => (false, s1 + 1, 99, v, 0)
        | some (u, s2) => (decide (u ≠ v), s2, 99, v, u)
      else (false, s1, 99, v, 0) := by unfold ordN; rw [if_neg w, if_pos w2]; cases num0 c 0 20 (s + 1) <;> rfl
  refine wk ((fn0_ok l)) ok_134 20 (fun pc => pc == 199) ?_
  simp only [fn0, kk_134, Option.toList_some, Option.toList_none, ex, sym, popN, goC, callOK, swL, List.map_cons, List.map_nil, List.replicate_zero, List.replicate_succ, List.append_nil, List.nil_append, List.cons_append, List.getElem?_cons_zero, List.getElem?_cons_succ, List.set_cons_zero, List.set_cons_succ, List.length_cons, List.length_nil, List.head?_cons, Nat.reduceAdd, Nat.reduceLT, Nat.reduceLeDiff, Nat.reduceBEq, Nat.reduceEqDiff, Nat.succ_ne_zero, Nat.zero_lt_succ, Nat.le_refl, sc_rows, kc_lit, nc_lit, wlk_rows, uR_s, uR_uR, true_and, and_true, true_or, or_true, false_or, or_false, and_false, false_and, or_self, and_self, if_true, if_false, Bool.false_eq_true, Bool.or_false, Bool.or_true, Bool.false_or, Bool.true_or, not_true_eq_false, not_false_eq_true, forall_const, true_implies, false_implies, implies_true, reduceIte, reduceCtorEq, kT L, hQ.2.2.2.2.2, i0, nz_lit, a155, u155, nI_up]
  have rt : RT (a14 (uR I 155 (upd (I 155) (3 * j) 99)) (s + 1)) ln (s + 1) := (h.told _).at (by omega)
  refine r_num (lo := 0) (H := 20) hQ rt (by omega) (by omega) (by omega) (fun hn => ?_) (fun v s' hn hv => ?_)
  · rw [a154, hc] at hn
    rw [hn] at eo
    dsimp only at eo
    have key := last _ _ _ _ _ (upd (upd (upd (I 155) (3 * j) 99) (3 * j + 1) (-5)) (3 * j + 2) (-5)) 0 eo (fun i hi => (up3c _ _ hi).trans ((up3b _ _ hi).trans (up3a _ _ hi))) nff b2_ff
    refine wk ((fn0_ok l)) ok_134 30 (fun pc => pc == 119 || pc == 145 || pc == 155) ?_
    simp only [fn0, kk_134, Option.toList_some, Option.toList_none, ex, sym, popN, goC, callOK, swL, List.map_cons, List.map_nil, List.replicate_zero, List.replicate_succ, List.append_nil, List.nil_append, List.cons_append, List.getElem?_cons_zero, List.getElem?_cons_succ, List.set_cons_zero, List.set_cons_succ, List.length_cons, List.length_nil, List.head?_cons, Nat.reduceAdd, Nat.reduceLT, Nat.reduceLeDiff, Nat.reduceBEq, Nat.reduceEqDiff, Nat.succ_ne_zero, Nat.zero_lt_succ, Nat.le_refl, sc_rows, kc_lit, nc_lit, wlk_rows, uR_s, uR_uR, true_and, and_true, true_or, or_true, false_or, or_false, and_false, false_and, or_self, and_self, if_true, if_false, Bool.false_eq_true, Bool.or_false, Bool.or_true, Bool.false_or, Bool.true_or, not_true_eq_false, not_false_eq_true, forall_const, true_implies, false_implies, implies_true, reduceIte, reduceCtorEq, kT L, nI_up, nz_lit, hQ.2.2.2.2.2, i1, n2, a155, u155, upd_e]
    exact r_oN hQ hz key
  · rw [a154, hc] at hn
    rw [hn] at eo
    dsimp only at eo
    rw [a14_a14]
    have n5 : (nI v = -5) = False := n5F (by omega)
    have su := num0_u hn
    refine wk ((fn0_ok l)) ok_134 20 (fun pc => pc == 132 || pc == 119) ?_
    simp only [fn0, kk_134, Option.toList_some, Option.toList_none, ex, sym, popN, goC, callOK, swL, List.map_cons, List.map_nil, List.replicate_zero, List.replicate_succ, List.append_nil, List.nil_append, List.cons_append, List.getElem?_cons_zero, List.getElem?_cons_succ, List.set_cons_zero, List.set_cons_succ, List.length_cons, List.length_nil, List.head?_cons, Nat.reduceAdd, Nat.reduceLT, Nat.reduceLeDiff, Nat.reduceBEq, Nat.reduceEqDiff, Nat.succ_ne_zero, Nat.zero_lt_succ, Nat.le_refl, sc_rows, kc_lit, nc_lit, wlk_rows, uR_s, uR_uR, true_and, and_true, true_or, or_true, false_or, or_false, and_false, false_and, or_self, and_self, if_true, if_false, Bool.false_eq_true, Bool.or_false, Bool.or_true, Bool.false_or, Bool.true_or, not_true_eq_false, not_false_eq_true, forall_const, true_implies, false_implies, implies_true, reduceIte, reduceCtorEq, kT L, nI_up, hQ.2.2.2.2.2, i1, a155, u155, upd_e, n5]
    exact r_oC2 hQ h hz hc last (by omega) hv eo
set_option maxRecDepth 100000 in
theorem r_order (hQ : QM Q) (h : RT I ln s) (hs : s ≤ 70) {j : Nat} (hj : I 149 13 = nI j) (hj2 : j ≤ 20) (h1 : ∀ g, (∀ i, i < 3 * j → g i = I 155 i) → ((ordN (chx (I 154) ln) s).1 = true → TE g j (ordN (chx (I 154) ln) s).2.2) → P (some (.int (b2 ((ordN (chx (I 154) ln) s).1 = true)))) (SC L, ro I g (j + 1) (ordN (chx (I 154) ln) s).2.1, Q)) : Runs l 134 [.ref 149] (SC L, I, Q) P := by
  generalize hc : chx (I 154) ln = c at h1
  have hz := ZI.of hj2
  have k3 : (3 : Int32) * nI j = nI (3 * j) := (nI_add27 j).2.2
  have a13 : ∀ g t, a14 (uR I 155 g) t 149 13 = nI j := fun g t => by
    unfold a14
    rw [uR_s, upd_n _ _ (by omega), uR_n I g (show 149 ≠ 155 by omega)]
    exact hj
  have e0 : I = a14 (uR I 155 (I 155)) s := by rw [uR_self]; exact h.sp.symm
  have e1 : a14 I (s + 1) = a14 (uR I 155 (I 155)) (s + 1) := by rw [uR_self]
  have last : OEnd l L I Q P s j c := by
    intro ok s' sg v u g v2 e x1 x2 x3
    rw [e] at h1
    have key := h1 g x1 x2
    rw [← ro_of, ← x3] at key
    have q01 : v2 = 0 ∨ v2 = 1 := by rw [x3]; exact b2_01
    refine wk ((fn0_ok l)) ok_134 30 (fun pc => false) ?_
    simp only [fn0, kk_134, Option.toList_some, Option.toList_none, ex, sym, popN, goC, callOK, swL, List.map_cons, List.map_nil, List.replicate_zero, List.replicate_succ, List.append_nil, List.nil_append, List.cons_append, List.getElem?_cons_zero, List.getElem?_cons_succ, List.set_cons_zero, List.set_cons_succ, List.length_cons, List.length_nil, List.head?_cons, Nat.reduceAdd, Nat.reduceLT, Nat.reduceLeDiff, Nat.reduceBEq, Nat.reduceEqDiff, Nat.succ_ne_zero, Nat.zero_lt_succ, Nat.le_refl, sc_rows, kc_lit, nc_lit, wlk_rows, uR_s, uR_uR, true_and, and_true, true_or, or_true, false_or, or_false, and_false, false_and, or_self, and_self, if_true, if_false, Bool.false_eq_true, Bool.or_false, Bool.or_true, Bool.false_or, Bool.true_or, not_true_eq_false, not_false_eq_true, forall_const, true_implies, false_implies, implies_true, reduceIte, reduceCtorEq, kT L, a13, nI_up, q01]
    exact key
  refine run0 (n := 2) mok_134 ⟨rfl, rfl⟩ rfl ?_
  refine wk ((fn0_ok l)) ok_134 10 (fun pc => false) ?_
  simp only [fn0, kk_134, Option.toList_some, Option.toList_none, ex, sym, popN, goC, callOK, swL, List.map_cons, List.map_nil, List.replicate_zero, List.replicate_succ, List.append_nil, List.nil_append, List.cons_append, List.getElem?_cons_zero, List.getElem?_cons_succ, List.set_cons_zero, List.set_cons_succ, List.length_cons, List.length_nil, List.head?_cons, Nat.reduceAdd, Nat.reduceLT, Nat.reduceLeDiff, Nat.reduceBEq, Nat.reduceEqDiff, Nat.succ_ne_zero, Nat.zero_lt_succ, Nat.le_refl, sc_rows, kc_lit, nc_lit, wlk_rows, uR_s, uR_uR, true_and, and_true, true_or, or_true, false_or, or_false, and_false, false_and, or_self, and_self, if_true, if_false, Bool.false_eq_true, Bool.or_false, Bool.or_true, Bool.false_or, Bool.true_or, not_true_eq_false, not_false_eq_true, forall_const, true_implies, false_implies, implies_true, reduceIte, reduceCtorEq, kT L, hj, k3]
  refine r_takes hQ h 119 (by decide) (fun w => ?_) (fun w => ?_)
  · rw [hc] at w
    rw [e1]
    refine wk ((fn0_ok l)) ok_134 10 (fun pc => pc == 74 || pc == 16) ?_
    simp only [fn0, kk_134, Option.toList_some, Option.toList_none, ex, sym, popN, goC, callOK, swL, List.map_cons, List.map_nil, List.replicate_zero, List.replicate_succ, List.append_nil, List.nil_append, List.cons_append, List.getElem?_cons_zero, List.getElem?_cons_succ, List.set_cons_zero, List.set_cons_succ, List.length_cons, List.length_nil, List.head?_cons, Nat.reduceAdd, Nat.reduceLT, Nat.reduceLeDiff, Nat.reduceBEq, Nat.reduceEqDiff, Nat.succ_ne_zero, Nat.zero_lt_succ, Nat.le_refl, sc_rows, kc_lit, nc_lit, wlk_rows, uR_s, uR_uR, true_and, and_true, true_or, or_true, false_or, or_false, and_false, false_and, or_self, and_self, if_true, if_false, Bool.false_eq_true, Bool.or_false, Bool.or_true, Bool.false_or, Bool.true_or, not_true_eq_false, not_false_eq_true, forall_const, true_implies, false_implies, implies_true, reduceIte, reduceCtorEq, nz_lit]
    exact r_oW hQ h hs hz hc last w
  · rw [hc] at w
    refine wk ((fn0_ok l)) ok_134 10 (fun pc => pc == 16) ?_
    simp only [fn0, kk_134, Option.toList_some, Option.toList_none, ex, sym, popN, goC, callOK, swL, List.map_cons, List.map_nil, List.replicate_zero, List.replicate_succ, List.append_nil, List.nil_append, List.cons_append, List.getElem?_cons_zero, List.getElem?_cons_succ, List.set_cons_zero, List.set_cons_succ, List.length_cons, List.length_nil, List.head?_cons, Nat.reduceAdd, Nat.reduceLT, Nat.reduceLeDiff, Nat.reduceBEq, Nat.reduceEqDiff, Nat.succ_ne_zero, Nat.zero_lt_succ, Nat.le_refl, sc_rows, kc_lit, nc_lit, wlk_rows, uR_s, uR_uR, true_and, and_true, true_or, or_true, false_or, or_false, and_false, false_and, or_self, and_self, if_true, if_false, Bool.false_eq_true, Bool.or_false, Bool.or_true, Bool.false_or, Bool.true_or, not_true_eq_false, not_false_eq_true, forall_const, true_implies, false_implies, implies_true, reduceIte, reduceCtorEq, kT L]
    refine r_takes hQ h 99 (by decide) (fun w2 => ?_) (fun w2 => ?_)
    · rw [hc] at w2
      rw [e1]
      refine wk ((fn0_ok l)) ok_134 10 (fun pc => pc == 83 || pc == 199) ?_
      simp only [fn0, kk_134, Option.toList_some, Option.toList_none, ex, sym, popN, goC, callOK, swL, List.map_cons, List.map_nil, List.replicate_zero, List.replicate_succ, List.append_nil, List.nil_append, List.cons_append, List.getElem?_cons_zero, List.getElem?_cons_succ, List.set_cons_zero, List.set_cons_succ, List.length_cons, List.length_nil, List.head?_cons, Nat.reduceAdd, Nat.reduceLT, Nat.reduceLeDiff, Nat.reduceBEq, Nat.reduceEqDiff, Nat.succ_ne_zero, Nat.zero_lt_succ, Nat.le_refl, sc_rows, kc_lit, nc_lit, wlk_rows, uR_s, uR_uR, true_and, and_true, true_or, or_true, false_or, or_false, and_false, false_and, or_self, and_self, if_true, if_false, Bool.false_eq_true, Bool.or_false, Bool.or_true, Bool.false_or, Bool.true_or, not_true_eq_false, not_false_eq_true, forall_const, true_implies, false_implies, implies_true, reduceIte, reduceCtorEq, nz_lit]
      exact r_oC hQ h hs hz hc last w w2
    · rw [hc] at w2
      refine wk ((fn0_ok l)) ok_134 10 (fun pc => pc == 83) ?_
      simp only [fn0, kk_134, Option.toList_some, Option.toList_none, ex, sym, popN, goC, callOK, swL, List.map_cons, List.map_nil, List.replicate_zero, List.replicate_succ, List.append_nil, List.nil_append, List.cons_append, List.getElem?_cons_zero, List.getElem?_cons_succ, List.set_cons_zero, List.set_cons_succ, List.length_cons, List.length_nil, List.head?_cons, Nat.reduceAdd, Nat.reduceLT, Nat.reduceLeDiff, Nat.reduceBEq, Nat.reduceEqDiff, Nat.succ_ne_zero, Nat.zero_lt_succ, Nat.le_refl, sc_rows, kc_lit, nc_lit, wlk_rows, uR_s, uR_uR, true_and, and_true, true_or, or_true, false_or, or_false, and_false, false_and, or_self, and_self, if_true, if_false, Bool.false_eq_true, Bool.or_false, Bool.or_true, Bool.false_or, Bool.true_or, not_true_eq_false, not_false_eq_true, forall_const, true_implies, false_implies, implies_true, reduceIte, reduceCtorEq, kT L]
      refine r_takes hQ h 46 (by decide) (fun w3 => ?_) (fun w3 => ?_)
      · rw [hc] at w3
        rw [e1]
        refine wk ((fn0_ok l)) ok_134 10 (fun pc => pc == 206) ?_
        simp only [fn0, kk_134, Option.toList_some, Option.toList_none, ex, sym, popN, goC, callOK, swL, List.map_cons, List.map_nil, List.replicate_zero, List.replicate_succ, List.append_nil, List.nil_append, List.cons_append, List.getElem?_cons_zero, List.getElem?_cons_succ, List.set_cons_zero, List.set_cons_succ, List.length_cons, List.length_nil, List.head?_cons, Nat.reduceAdd, Nat.reduceLT, Nat.reduceLeDiff, Nat.reduceBEq, Nat.reduceEqDiff, Nat.succ_ne_zero, Nat.zero_lt_succ, Nat.le_refl, sc_rows, kc_lit, nc_lit, wlk_rows, uR_s, uR_uR, true_and, and_true, true_or, or_true, false_or, or_false, and_false, false_and, or_self, and_self, if_true, if_false, Bool.false_eq_true, Bool.or_false, Bool.or_true, Bool.false_or, Bool.true_or, not_true_eq_false, not_false_eq_true, forall_const, true_implies, false_implies, implies_true, reduceIte, reduceCtorEq]
        exact r_oP hQ h hs hz hc last w w2 w3
      · rw [hc] at w3
        have fin := r_oX hQ h hs hz last w w2 w3
        rw [← e0] at fin
        refine wk ((fn0_ok l)) ok_134 10 (fun pc => pc == 206) ?_
        simp only [fn0, kk_134, Option.toList_some, Option.toList_none, ex, sym, popN, goC, callOK, swL, List.map_cons, List.map_nil, List.replicate_zero, List.replicate_succ, List.append_nil, List.nil_append, List.cons_append, List.getElem?_cons_zero, List.getElem?_cons_succ, List.set_cons_zero, List.set_cons_succ, List.length_cons, List.length_nil, List.head?_cons, Nat.reduceAdd, Nat.reduceLT, Nat.reduceLeDiff, Nat.reduceBEq, Nat.reduceEqDiff, Nat.succ_ne_zero, Nat.zero_lt_succ, Nat.le_refl, sc_rows, kc_lit, nc_lit, wlk_rows, uR_s, uR_uR, true_and, and_true, true_or, or_true, false_or, or_false, and_false, false_and, or_self, and_self, if_true, if_false, Bool.false_eq_true, Bool.or_false, Bool.or_true, Bool.false_or, Bool.true_or, not_true_eq_false, not_false_eq_true, forall_const, true_implies, false_implies, implies_true, reduceIte, reduceCtorEq]
        exact fin
end H5
