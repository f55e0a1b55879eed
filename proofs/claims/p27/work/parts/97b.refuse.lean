/-! p27: calls that are refused change nothing -/
theorem nzL : ((2 : Int32) = 0) = False ∧ ((3 : Int32) = 0) = False ∧ ((4 : Int32) = 0) = False ∧ ((5 : Int32) = 0) = False ∧ ((7 : Int32) = 0) = False ∧ ((9 : Int32) = 0) = False ∧ ((15 : Int32) = 0) = False ∧ ((16 : Int32) = 0) = False ∧ ((17 : Int32) = 0) = False ∧ ((20 : Int32) = 0) = False ∧ ((21 : Int32) = 0) = False ∧ ((99 : Int32) = 0) = False ∧ ((100 : Int32) = 0) = False ∧ ((300 : Int32) = 0) = False ∧ ((1000 : Int32) = 0) = False ∧ ((1440 : Int32) = 0) = False ∧ ((1 : Int32) = 0) = False := by decide
/-- what the law's object is told of its text and its constants -/
def TXI (I : Nat → Nat → Int32) : Prop := I 0 6 = nI 0 ∧ (∀ j, vp_nar .char (I 143 j) = I 143 j) ∧ KonI I
theorem TXI.fl {I I' : Nat → Nat → Int32} (h : TXI I) (f : FL I I') : TXI I' := ⟨f.txt h.1, fun j => by rw [f.2 143 (by omega)]; exact h.2.1 j, f.kon h.2.2⟩
theorem far_no {z : Nat → Int32} {n : Nat} {p : Int32} (h : PR z n) (hp : ¬ (0 ≤ p ∧ p ≤ 999)) : ftz z p n = none := by
  cases e : ftz z p n with
  | none => rfl
  | some i =>
    obtain ⟨a, b⟩ := ftz_s e
    have := h.2 i a
    rw [b] at this
    exact absurd this hp
theorem neg_rk {r : Nat} (h : r < 99) : (-1 - nI r) < 0 := by
  have key : ∀ r, r < 99 → (-1 - nI r) < (0 : Int32) := by decide +kernel
  exact key r h
theorem far_e {r : Nat} (h : r < 99) : ¬ (0 ≤ (-1 - nI r) ∧ (-1 - nI r) ≤ 999) ∧ ¬ (0 ≤ (-1 - nI r) ∧ (-1 - nI r) ≤ 20) := by
  have a := neg_rk h
  exact ⟨fun q => absurd q.1 (Int32.not_le.mpr a), fun q => absurd q.1 (Int32.not_le.mpr a)⟩
theorem far_o {r : Nat} (h : r < 99) : ¬ (0 ≤ (1000 + nI r) ∧ (1000 + nI r) ≤ 999) ∧ ¬ (0 ≤ (21 + nI r) ∧ (21 + nI r) ≤ 20) := by
  have key : ∀ r, r < 99 → ¬ (1000 + nI r) ≤ (999 : Int32) ∧ ¬ (21 + nI r) ≤ (20 : Int32) := by decide +kernel
  exact ⟨fun q => (key r h).1 q.2, fun q => (key r h).2 q.2⟩
theorem whyS_own {z : Nat → Int32} (h : SetOK z) {r : Nat} (hr : r < 5) : whyS z (nI r) (z r) = -5 := by
  have ei : ix (nI r) = r := ix_nI (by omega)
  have hb : loS r ≤ z r ∧ z r ≤ hiS r := by
    match r, hr with
    | 0, _ => exact h.1
    | 1, _ => exact h.2.1
    | 2, _ => exact h.2.2.1
    | 3, _ => exact h.2.2.2.1
    | 4, _ => exact h.2.2.2.2
  have h5 : 0 ≤ nI r ∧ nI r < 5 := ⟨nI_pos' (by omega), (nI_ltI (a := r) (b := 5) (by omega) (by omega)).mpr hr⟩
  unfold whyS
  rw [ei, if_neg (fun q => q h5), if_neg (fun q => q hb), if_pos rfl]
theorem ansCo_set (z : Nat → Int32) (n m k a : Nat) {r : Nat} (hr : r < 5) : ansCo z n m k a 0 (10 + nI r) = z r := by
  match r, hr with
  | 0, _ => rfl
  | 1, _ => rfl
  | 2, _ => rfl
  | 3, _ => rfl
  | 4, _ => rfl
theorem pl21 : ∀ r, r < 21 → 0 ≤ nI r ∧ nI r ≤ 20 := by decide +kernel
theorem upd_0 {f : Nat → Int32} (h : f 6 = nI 0) : upd f 6 0 = f := by
  have e : (0 : Int32) = f 6 := h.symm
  rw [e]
  exact upd_id f 6
section REF
variable {l : Launch} {L : Nat} {I : Nat → Nat → Int32} {Q : Nat → Nat → Option Nat} {P : Option Value → PH → Prop} {τ : Nat → Nat → Nat} {b : Nat → Nat} {z : Nat → Int32} {w : Nat → Nat → Int32} {a n m k : Nat}
theorem per_0 {f : Nat → Int32} {y : Nat} (h : (tRN (chx f 0) 0 21 0 0).1 = some y) : y = 0 := by
  have e : chx f 0 = fun _ => 0 := by funext s; unfold chx; rw [if_neg (by omega)]
  rw [e] at h
  have e2 : (tRN (fun _ => 0) 0 21 0 0).1 = some 0 := by decide +kernel
  rw [e2] at h
  exact (Option.some.inj h).symm
theorem per_n {f : Nat → Int32} : ¬ (tRN (chx f 0) 0 21 0 0).1 = none := by
  have e : chx f 0 = fun _ => 0 := by funext s; unfold chx; rw [if_neg (by omega)]
  rw [e]
  decide +kernel
set_option maxHeartbeats 1000000 in
set_option maxRecDepth 100000 in
theorem l_refe1 (h : CT I Q τ b z w a n m k) (hT : TXI I) (hP : PR z n) {bd c : Nat} (hE : EX z n k bd c) {x r r5 r21 : Nat} (hr : r < 99) (h5 : r5 < 5) (h21 : r21 < 21) (e2 : nI x - nI x / 2 * 2 = 0) (e99 : nI x - nI x / 99 * 99 = nI r) (e5 : nI x - nI x / 5 * 5 = nI r5) (e21 : nI x - nI x / 21 * 21 = nI r21) (h1 : ∀ I', CT I' Q τ b z w a n m k → FL I I' → Sy l 84 (149, 1788) 337 [some (.ref 0), some (.int (nI x)), some (.int (-1 - nI r)), some (.int (-1 - nI r)), some (.int (-1 - nI r)), some (.int 1)] [] (SC L, I', Q) P) : Sy l 84 (149, 1788) 0 [some (.ref 0), some (.int (nI x)), none, none, none, none] [] (SC L, I, Q) P := by
  obtain ⟨-, ⟨hC, hM, hL⟩, -⟩ := id h
  have hs := hM.2.2.1
  have hkz := hM.2.2.2.1
  have hk := hM.2.2.2.2.1
  obtain ⟨f1, f2⟩ := far_e hr
  have hfn := far_no hP f1
  have w1 : whyW z n (-1 - nI r) = -2 := by unfold whyW; rw [if_pos f1]
  have w2 : whyH z n (-1 - nI r) = -1 := by unfold whyH; rw [hfn]
  have s0 : whyS z (-1) 9 = -1 := by unfold whyS; rw [if_pos (by decide)]
  have s1 : whyS z 0 0 = -2 := by unfold whyS; rw [if_neg (by decide), if_pos (by decide)]
  have s2 : whyS z 1 0 = -2 := by unfold whyS; rw [if_neg (by decide), if_pos (by decide)]
  have s3 : whyS z 2 0 = -2 := by unfold whyS; rw [if_neg (by decide), if_pos (by decide)]
  have s4 : whyS z 3 29 = -2 := by unfold whyS; rw [if_neg (by decide), if_pos (by decide)]
  have s5 : whyS z 4 0 = -2 := by unfold whyS; rw [if_neg (by decide), if_pos (by decide)]
  have s6 := whyS_own hs h5
  have j1 : whyJ z (-1 - nI r) = -1 := by unfold whyJ; rw [if_pos f2]
  have j2 : whyJ z 10 = -2 := by unfold whyJ; rw [if_neg (by decide), if_pos rfl]
  have c1 : whyC z n m (-1 - nI r) 3 = -1 := by unfold whyC; rw [if_pos (fun q => f2 q.1)]
  have c2 : whyC z n m 3 (-1 - nI r) = -1 := by unfold whyC; rw [if_pos (fun q => f2 q.2)]
  have c3 : whyC z n m (nI r21) (nI r21) = -2 := by unfold whyC; rw [if_neg (fun q => q ⟨pl21 r21 h21, pl21 r21 h21⟩), if_pos rfl]
  have p1 : whyP z 0 = -2 := by unfold whyP; rw [if_pos (by decide)]
  have hpl : ∀ t, t < n → ¬ z (tp t 0) < 0 := fun t ht => Int32.not_lt.mpr (hP.2 t ht).1
  refine wk2 (fn0_ok l) ok_84 60 (fun pc => false) ?_
  simp only [kk_84, Option.toList_some, Option.toList_none, ex2, ex, catS, vC, isMk, sym2, popN, goC, callOK, swL, List.map_cons, List.map_nil, List.replicate_zero, List.replicate_succ, List.append_nil, List.nil_append, List.cons_append, List.getElem?_cons_zero, List.getElem?_cons_succ, List.set_cons_zero, List.set_cons_succ, List.length_cons, List.length_nil, List.head?_cons, Nat.reduceAdd, Nat.reduceLT, Nat.reduceLeDiff, Nat.reduceBEq, Nat.reduceEqDiff, Nat.succ_ne_zero, Nat.zero_lt_succ, Nat.le_refl, sc_rows, kc_lit, nc_lit, wlk_rows, uR_s, uR_uR, true_and, and_true, true_or, or_true, false_or, or_false, and_false, false_and, or_self, and_self, if_true, if_false, Bool.false_eq_true, Bool.or_false, Bool.or_true, Bool.false_or, Bool.true_or, not_true_eq_false, not_false_eq_true, forall_const, true_implies, false_implies, implies_true, ↓reduceIte, reduceCtorEq, fn0, eq_self, e2, e99, e5, e21, nzL, k0 L]
  refine m_come h (-1 - nI r) (fun _ J1 g1 q1 => ?_) (fun cc => absurd cc (by rw [w1]; decide))
  have u1 := FL.of q1
  have t1 := hT.fl u1
  refine wk2 (fn0_ok l) ok_84 20 (fun pc => false) ?_
  simp only [kk_84, Option.toList_some, Option.toList_none, ex2, ex, catS, vC, isMk, sym2, popN, goC, callOK, swL, List.map_cons, List.map_nil, List.replicate_zero, List.replicate_succ, List.append_nil, List.nil_append, List.cons_append, List.getElem?_cons_zero, List.getElem?_cons_succ, List.set_cons_zero, List.set_cons_succ, List.length_cons, List.length_nil, List.head?_cons, Nat.reduceAdd, Nat.reduceLT, Nat.reduceLeDiff, Nat.reduceBEq, Nat.reduceEqDiff, Nat.succ_ne_zero, Nat.zero_lt_succ, Nat.le_refl, sc_rows, kc_lit, nc_lit, wlk_rows, uR_s, uR_uR, true_and, and_true, true_or, or_true, false_or, or_false, and_false, false_and, or_self, and_self, if_true, if_false, Bool.false_eq_true, Bool.or_false, Bool.or_true, Bool.false_or, Bool.true_or, not_true_eq_false, not_false_eq_true, forall_const, true_implies, false_implies, implies_true, ↓reduceIte, reduceCtorEq, fn0, eq_self, w1, e2, e99, e5, e21, nzL, k0 L]
  refine m_goHome g1 (-1 - nI r) (fun _ J2 g2 q2 => ?_) (fun cc => absurd cc (by rw [w2]; decide))
  have u2 := (u1).tr (FL.of q2)
  have t2 := hT.fl u2
  refine wk2 (fn0_ok l) ok_84 20 (fun pc => false) ?_
  simp only [kk_84, Option.toList_some, Option.toList_none, ex2, ex, catS, vC, isMk, sym2, popN, goC, callOK, swL, List.map_cons, List.map_nil, List.replicate_zero, List.replicate_succ, List.append_nil, List.nil_append, List.cons_append, List.getElem?_cons_zero, List.getElem?_cons_succ, List.set_cons_zero, List.set_cons_succ, List.length_cons, List.length_nil, List.head?_cons, Nat.reduceAdd, Nat.reduceLT, Nat.reduceLeDiff, Nat.reduceBEq, Nat.reduceEqDiff, Nat.succ_ne_zero, Nat.zero_lt_succ, Nat.le_refl, sc_rows, kc_lit, nc_lit, wlk_rows, uR_s, uR_uR, true_and, and_true, true_or, or_true, false_or, or_false, and_false, false_and, or_self, and_self, if_true, if_false, Bool.false_eq_true, Bool.or_false, Bool.or_true, Bool.false_or, Bool.true_or, not_true_eq_false, not_false_eq_true, forall_const, true_implies, false_implies, implies_true, ↓reduceIte, reduceCtorEq, fn0, eq_self, w2, e2, e99, e5, e21, nzL, k0 L]
  refine m_set g2 (-1) 9 t2.2.2 (fun _ J3 g3 q3 => ?_) (fun cc => absurd cc (by rw [s0]; decide))
  have u3 := (u2).tr (FL.of q3)
  have t3 := hT.fl u3
  refine wk2 (fn0_ok l) ok_84 30 (fun pc => false) ?_
  simp only [kk_84, Option.toList_some, Option.toList_none, ex2, ex, catS, vC, isMk, sym2, popN, goC, callOK, swL, List.map_cons, List.map_nil, List.replicate_zero, List.replicate_succ, List.append_nil, List.nil_append, List.cons_append, List.getElem?_cons_zero, List.getElem?_cons_succ, List.set_cons_zero, List.set_cons_succ, List.length_cons, List.length_nil, List.head?_cons, Nat.reduceAdd, Nat.reduceLT, Nat.reduceLeDiff, Nat.reduceBEq, Nat.reduceEqDiff, Nat.succ_ne_zero, Nat.zero_lt_succ, Nat.le_refl, sc_rows, kc_lit, nc_lit, wlk_rows, uR_s, uR_uR, true_and, and_true, true_or, or_true, false_or, or_false, and_false, false_and, or_self, and_self, if_true, if_false, Bool.false_eq_true, Bool.or_false, Bool.or_true, Bool.false_or, Bool.true_or, not_true_eq_false, not_false_eq_true, forall_const, true_implies, false_implies, implies_true, ↓reduceIte, reduceCtorEq, fn0, eq_self, s0, e2, e99, e5, e21, nzL, k0 L]
  refine m_set g3 0 0 t3.2.2 (fun _ J4 g4 q4 => ?_) (fun cc => absurd cc (by rw [s1]; decide))
  have u4 := (u3).tr (FL.of q4)
  have t4 := hT.fl u4
  refine wk2 (fn0_ok l) ok_84 30 (fun pc => false) ?_
  simp only [kk_84, Option.toList_some, Option.toList_none, ex2, ex, catS, vC, isMk, sym2, popN, goC, callOK, swL, List.map_cons, List.map_nil, List.replicate_zero, List.replicate_succ, List.append_nil, List.nil_append, List.cons_append, List.getElem?_cons_zero, List.getElem?_cons_succ, List.set_cons_zero, List.set_cons_succ, List.length_cons, List.length_nil, List.head?_cons, Nat.reduceAdd, Nat.reduceLT, Nat.reduceLeDiff, Nat.reduceBEq, Nat.reduceEqDiff, Nat.succ_ne_zero, Nat.zero_lt_succ, Nat.le_refl, sc_rows, kc_lit, nc_lit, wlk_rows, uR_s, uR_uR, true_and, and_true, true_or, or_true, false_or, or_false, and_false, false_and, or_self, and_self, if_true, if_false, Bool.false_eq_true, Bool.or_false, Bool.or_true, Bool.false_or, Bool.true_or, not_true_eq_false, not_false_eq_true, forall_const, true_implies, false_implies, implies_true, ↓reduceIte, reduceCtorEq, fn0, eq_self, s1, e2, e99, e5, e21, nzL, k0 L]
  refine m_set g4 1 0 t4.2.2 (fun _ J5 g5 q5 => ?_) (fun cc => absurd cc (by rw [s2]; decide))
  have u5 := (u4).tr (FL.of q5)
  have t5 := hT.fl u5
  refine wk2 (fn0_ok l) ok_84 30 (fun pc => false) ?_
  simp only [kk_84, Option.toList_some, Option.toList_none, ex2, ex, catS, vC, isMk, sym2, popN, goC, callOK, swL, List.map_cons, List.map_nil, List.replicate_zero, List.replicate_succ, List.append_nil, List.nil_append, List.cons_append, List.getElem?_cons_zero, List.getElem?_cons_succ, List.set_cons_zero, List.set_cons_succ, List.length_cons, List.length_nil, List.head?_cons, Nat.reduceAdd, Nat.reduceLT, Nat.reduceLeDiff, Nat.reduceBEq, Nat.reduceEqDiff, Nat.succ_ne_zero, Nat.zero_lt_succ, Nat.le_refl, sc_rows, kc_lit, nc_lit, wlk_rows, uR_s, uR_uR, true_and, and_true, true_or, or_true, false_or, or_false, and_false, false_and, or_self, and_self, if_true, if_false, Bool.false_eq_true, Bool.or_false, Bool.or_true, Bool.false_or, Bool.true_or, not_true_eq_false, not_false_eq_true, forall_const, true_implies, false_implies, implies_true, ↓reduceIte, reduceCtorEq, fn0, eq_self, s2, e2, e99, e5, e21, nzL, k0 L]
  refine m_set g5 2 0 t5.2.2 (fun _ J6 g6 q6 => ?_) (fun cc => absurd cc (by rw [s3]; decide))
  have u6 := (u5).tr (FL.of q6)
  have t6 := hT.fl u6
  refine wk2 (fn0_ok l) ok_84 30 (fun pc => false) ?_
  simp only [kk_84, Option.toList_some, Option.toList_none, ex2, ex, catS, vC, isMk, sym2, popN, goC, callOK, swL, List.map_cons, List.map_nil, List.replicate_zero, List.replicate_succ, List.append_nil, List.nil_append, List.cons_append, List.getElem?_cons_zero, List.getElem?_cons_succ, List.set_cons_zero, List.set_cons_succ, List.length_cons, List.length_nil, List.head?_cons, Nat.reduceAdd, Nat.reduceLT, Nat.reduceLeDiff, Nat.reduceBEq, Nat.reduceEqDiff, Nat.succ_ne_zero, Nat.zero_lt_succ, Nat.le_refl, sc_rows, kc_lit, nc_lit, wlk_rows, uR_s, uR_uR, true_and, and_true, true_or, or_true, false_or, or_false, and_false, false_and, or_self, and_self, if_true, if_false, Bool.false_eq_true, Bool.or_false, Bool.or_true, Bool.false_or, Bool.true_or, not_true_eq_false, not_false_eq_true, forall_const, true_implies, false_implies, implies_true, ↓reduceIte, reduceCtorEq, fn0, eq_self, s3, e2, e99, e5, e21, nzL, k0 L]
  refine m_set g6 3 29 t6.2.2 (fun _ J7 g7 q7 => ?_) (fun cc => absurd cc (by rw [s4]; decide))
  have u7 := (u6).tr (FL.of q7)
  have t7 := hT.fl u7
  refine wk2 (fn0_ok l) ok_84 30 (fun pc => false) ?_
  simp only [kk_84, Option.toList_some, Option.toList_none, ex2, ex, catS, vC, isMk, sym2, popN, goC, callOK, swL, List.map_cons, List.map_nil, List.replicate_zero, List.replicate_succ, List.append_nil, List.nil_append, List.cons_append, List.getElem?_cons_zero, List.getElem?_cons_succ, List.set_cons_zero, List.set_cons_succ, List.length_cons, List.length_nil, List.head?_cons, Nat.reduceAdd, Nat.reduceLT, Nat.reduceLeDiff, Nat.reduceBEq, Nat.reduceEqDiff, Nat.succ_ne_zero, Nat.zero_lt_succ, Nat.le_refl, sc_rows, kc_lit, nc_lit, wlk_rows, uR_s, uR_uR, true_and, and_true, true_or, or_true, false_or, or_false, and_false, false_and, or_self, and_self, if_true, if_false, Bool.false_eq_true, Bool.or_false, Bool.or_true, Bool.false_or, Bool.true_or, not_true_eq_false, not_false_eq_true, forall_const, true_implies, false_implies, implies_true, ↓reduceIte, reduceCtorEq, fn0, eq_self, s4, e2, e99, e5, e21, nzL, k0 L]
  refine m_set g7 4 0 t7.2.2 (fun _ J8 g8 q8 => ?_) (fun cc => absurd cc (by rw [s5]; decide))
  have u8 := (u7).tr (FL.of q8)
  have t8 := hT.fl u8
  have hR := fR_ok (l := l) (L := L) g8 t8.1
  refine wk2 hR ok_84 30 (fun pc => false) ?_
  simp only [kk_84, Option.toList_some, Option.toList_none, ex2, ex, catS, vC, isMk, sym2, popN, goC, callOK, swL, List.map_cons, List.map_nil, List.replicate_zero, List.replicate_succ, List.append_nil, List.nil_append, List.cons_append, List.getElem?_cons_zero, List.getElem?_cons_succ, List.set_cons_zero, List.set_cons_succ, List.length_cons, List.length_nil, List.head?_cons, Nat.reduceAdd, Nat.reduceLT, Nat.reduceLeDiff, Nat.reduceBEq, Nat.reduceEqDiff, Nat.succ_ne_zero, Nat.zero_lt_succ, Nat.le_refl, sc_rows, kc_lit, nc_lit, wlk_rows, uR_s, uR_uR, true_and, and_true, true_or, or_true, false_or, or_false, and_false, false_and, or_self, and_self, if_true, if_false, Bool.false_eq_true, Bool.or_false, Bool.or_true, Bool.false_or, Bool.true_or, not_true_eq_false, not_false_eq_true, forall_const, true_implies, false_implies, implies_true, ↓reduceIte, reduceCtorEq, fR, rd1, rd2, rd3, eq_self, s5, ansCo_set z n m k a h5, e2, e99, e5, e21, nzL, k0 L]
  refine m_set g8 (nI r5) (z r5) t8.2.2 (fun _ J9 g9 q9 => ?_) (fun cc => absurd cc (by rw [s6]; decide))
  have u9 := (u8).tr (FL.of q9)
  have t9 := hT.fl u9
  refine wk2 (fn0_ok l) ok_84 30 (fun pc => false) ?_
  simp only [kk_84, Option.toList_some, Option.toList_none, ex2, ex, catS, vC, isMk, sym2, popN, goC, callOK, swL, List.map_cons, List.map_nil, List.replicate_zero, List.replicate_succ, List.append_nil, List.nil_append, List.cons_append, List.getElem?_cons_zero, List.getElem?_cons_succ, List.set_cons_zero, List.set_cons_succ, List.length_cons, List.length_nil, List.head?_cons, Nat.reduceAdd, Nat.reduceLT, Nat.reduceLeDiff, Nat.reduceBEq, Nat.reduceEqDiff, Nat.succ_ne_zero, Nat.zero_lt_succ, Nat.le_refl, sc_rows, kc_lit, nc_lit, wlk_rows, uR_s, uR_uR, true_and, and_true, true_or, or_true, false_or, or_false, and_false, false_and, or_self, and_self, if_true, if_false, Bool.false_eq_true, Bool.or_false, Bool.or_true, Bool.false_or, Bool.true_or, not_true_eq_false, not_false_eq_true, forall_const, true_implies, false_implies, implies_true, ↓reduceIte, reduceCtorEq, fn0, eq_self, s6, e2, e99, e5, e21, nzL, k0 L]
  refine m_arrive g9 (-1 - nI r) (fun _ J10 g10 q10 => ?_) (fun cc => absurd cc (by rw [j1]; decide))
  have u10 := (u9).tr (FL.of q10)
  have t10 := hT.fl u10
  refine wk2 (fn0_ok l) ok_84 30 (fun pc => false) ?_
  simp only [kk_84, Option.toList_some, Option.toList_none, ex2, ex, catS, vC, isMk, sym2, popN, goC, callOK, swL, List.map_cons, List.map_nil, List.replicate_zero, List.replicate_succ, List.append_nil, List.nil_append, List.cons_append, List.getElem?_cons_zero, List.getElem?_cons_succ, List.set_cons_zero, List.set_cons_succ, List.length_cons, List.length_nil, List.head?_cons, Nat.reduceAdd, Nat.reduceLT, Nat.reduceLeDiff, Nat.reduceBEq, Nat.reduceEqDiff, Nat.succ_ne_zero, Nat.zero_lt_succ, Nat.le_refl, sc_rows, kc_lit, nc_lit, wlk_rows, uR_s, uR_uR, true_and, and_true, true_or, or_true, false_or, or_false, and_false, false_and, or_self, and_self, if_true, if_false, Bool.false_eq_true, Bool.or_false, Bool.or_true, Bool.false_or, Bool.true_or, not_true_eq_false, not_false_eq_true, forall_const, true_implies, false_implies, implies_true, ↓reduceIte, reduceCtorEq, fn0, eq_self, j1, e2, e99, e5, e21, nzL, k0 L]
  refine m_arrive g10 10 (fun _ J11 g11 q11 => ?_) (fun cc => absurd cc (by rw [j2]; decide))
  have u11 := (u10).tr (FL.of q11)
  have t11 := hT.fl u11
  have rest : ∀ J, CT J Q τ b z w a n m k → FL I J → Sy l 84 (149, 1788) 271 [some (.ref 0), some (.int (nI x)), some (.int (-1 - nI r)), some (.int (-1 - nI r)), some (.int (-1 - nI r)), none] [] (SC L, J, Q) P := by
    intro J g111 u111
    have t111 := hT.fl u111
    refine wk2 (fn0_ok l) ok_84 30 (fun pc => false) ?_
    simp only [kk_84, Option.toList_some, Option.toList_none, ex2, ex, catS, vC, isMk, sym2, popN, goC, callOK, swL, List.map_cons, List.map_nil, List.replicate_zero, List.replicate_succ, List.append_nil, List.nil_append, List.cons_append, List.getElem?_cons_zero, List.getElem?_cons_succ, List.set_cons_zero, List.set_cons_succ, List.length_cons, List.length_nil, List.head?_cons, Nat.reduceAdd, Nat.reduceLT, Nat.reduceLeDiff, Nat.reduceBEq, Nat.reduceEqDiff, Nat.succ_ne_zero, Nat.zero_lt_succ, Nat.le_refl, sc_rows, kc_lit, nc_lit, wlk_rows, uR_s, uR_uR, true_and, and_true, true_or, or_true, false_or, or_false, and_false, false_and, or_self, and_self, if_true, if_false, Bool.false_eq_true, Bool.or_false, Bool.or_true, Bool.false_or, Bool.true_or, not_true_eq_false, not_false_eq_true, forall_const, true_implies, false_implies, implies_true, ↓reduceIte, reduceCtorEq, fn0, eq_self, e2, e99, e5, e21, nzL, k0 L]
    refine m_call g111 (-1 - nI r) 3 hE hpl (fun _ J112 g112 q112 => ?_) (fun cc => absurd cc (by rw [c1]; decide))
    have u112 := (u111).tr (FL.of q112)
    have t112 := hT.fl u112
    refine wk2 (fn0_ok l) ok_84 30 (fun pc => false) ?_
    simp only [kk_84, Option.toList_some, Option.toList_none, ex2, ex, catS, vC, isMk, sym2, popN, goC, callOK, swL, List.map_cons, List.map_nil, List.replicate_zero, List.replicate_succ, List.append_nil, List.nil_append, List.cons_append, List.getElem?_cons_zero, List.getElem?_cons_succ, List.set_cons_zero, List.set_cons_succ, List.length_cons, List.length_nil, List.head?_cons, Nat.reduceAdd, Nat.reduceLT, Nat.reduceLeDiff, Nat.reduceBEq, Nat.reduceEqDiff, Nat.succ_ne_zero, Nat.zero_lt_succ, Nat.le_refl, sc_rows, kc_lit, nc_lit, wlk_rows, uR_s, uR_uR, true_and, and_true, true_or, or_true, false_or, or_false, and_false, false_and, or_self, and_self, if_true, if_false, Bool.false_eq_true, Bool.or_false, Bool.or_true, Bool.false_or, Bool.true_or, not_true_eq_false, not_false_eq_true, forall_const, true_implies, false_implies, implies_true, ↓reduceIte, reduceCtorEq, fn0, eq_self, c1, e2, e99, e5, e21, nzL, k0 L]
    refine m_call g112 3 (-1 - nI r) hE hpl (fun _ J113 g113 q113 => ?_) (fun cc => absurd cc (by rw [c2]; decide))
    have u113 := (u112).tr (FL.of q113)
    have t113 := hT.fl u113
    refine wk2 (fn0_ok l) ok_84 30 (fun pc => false) ?_
    simp only [kk_84, Option.toList_some, Option.toList_none, ex2, ex, catS, vC, isMk, sym2, popN, goC, callOK, swL, List.map_cons, List.map_nil, List.replicate_zero, List.replicate_succ, List.append_nil, List.nil_append, List.cons_append, List.getElem?_cons_zero, List.getElem?_cons_succ, List.set_cons_zero, List.set_cons_succ, List.length_cons, List.length_nil, List.head?_cons, Nat.reduceAdd, Nat.reduceLT, Nat.reduceLeDiff, Nat.reduceBEq, Nat.reduceEqDiff, Nat.succ_ne_zero, Nat.zero_lt_succ, Nat.le_refl, sc_rows, kc_lit, nc_lit, wlk_rows, uR_s, uR_uR, true_and, and_true, true_or, or_true, false_or, or_false, and_false, false_and, or_self, and_self, if_true, if_false, Bool.false_eq_true, Bool.or_false, Bool.or_true, Bool.false_or, Bool.true_or, not_true_eq_false, not_false_eq_true, forall_const, true_implies, false_implies, implies_true, ↓reduceIte, reduceCtorEq, fn0, eq_self, c2, e2, e99, e5, e21, nzL, k0 L]
    refine m_call g113 (nI r21) (nI r21) hE hpl (fun _ J114 g114 q114 => ?_) (fun cc => absurd cc (by rw [c3]; decide))
    have u114 := (u113).tr (FL.of q114)
    have t114 := hT.fl u114
    refine wk2 (fn0_ok l) ok_84 30 (fun pc => false) ?_
    simp only [kk_84, Option.toList_some, Option.toList_none, ex2, ex, catS, vC, isMk, sym2, popN, goC, callOK, swL, List.map_cons, List.map_nil, List.replicate_zero, List.replicate_succ, List.append_nil, List.nil_append, List.cons_append, List.getElem?_cons_zero, List.getElem?_cons_succ, List.set_cons_zero, List.set_cons_succ, List.length_cons, List.length_nil, List.head?_cons, Nat.reduceAdd, Nat.reduceLT, Nat.reduceLeDiff, Nat.reduceBEq, Nat.reduceEqDiff, Nat.succ_ne_zero, Nat.zero_lt_succ, Nat.le_refl, sc_rows, kc_lit, nc_lit, wlk_rows, uR_s, uR_uR, true_and, and_true, true_or, or_true, false_or, or_false, and_false, false_and, or_self, and_self, if_true, if_false, Bool.false_eq_true, Bool.or_false, Bool.or_true, Bool.false_or, Bool.true_or, not_true_eq_false, not_false_eq_true, forall_const, true_implies, false_implies, implies_true, ↓reduceIte, reduceCtorEq, fn0, eq_self, c3, e2, e99, e5, e21, nzL, k0 L]
    refine m_pass g114 0 (fun cc => absurd cc (by rw [p1]; decide)) (fun _ J115 g115 q115 => ?_) (fun cc => absurd cc (by rw [p1]; decide))
    refine wk2 (fn0_ok l) ok_84 30 (fun pc => pc == 337) ?_
    simp only [kk_84, Option.toList_some, Option.toList_none, ex2, ex, catS, vC, isMk, sym2, popN, goC, callOK, swL, List.map_cons, List.map_nil, List.replicate_zero, List.replicate_succ, List.append_nil, List.nil_append, List.cons_append, List.getElem?_cons_zero, List.getElem?_cons_succ, List.set_cons_zero, List.set_cons_succ, List.length_cons, List.length_nil, List.head?_cons, Nat.reduceAdd, Nat.reduceLT, Nat.reduceLeDiff, Nat.reduceBEq, Nat.reduceEqDiff, Nat.succ_ne_zero, Nat.zero_lt_succ, Nat.le_refl, sc_rows, kc_lit, nc_lit, wlk_rows, uR_s, uR_uR, true_and, and_true, true_or, or_true, false_or, or_false, and_false, false_and, or_self, and_self, if_true, if_false, Bool.false_eq_true, Bool.or_false, Bool.or_true, Bool.false_or, Bool.true_or, not_true_eq_false, not_false_eq_true, forall_const, true_implies, false_implies, implies_true, ↓reduceIte, reduceCtorEq, fn0, eq_self, p1, e2, e99, e5, e21, nzL, k0 L]
    exact h1 J115 g115 ((u114).tr (FL.of q115))
  have hR2 := fR_ok (l := l) (L := L) g11 t11.1
  by_cases e15 : k = 15
  · have lt15 : (nI k < 15) = False := by rw [e15]; decide
    have j3 : whyJ z 3 = -3 := by unfold whyJ; rw [if_neg (by decide), if_neg (by decide), hkz, e15, if_pos (by decide)]
    refine wk2 hR2 ok_84 30 (fun pc => pc == 271) ?_
    simp only [kk_84, Option.toList_some, Option.toList_none, ex2, ex, catS, vC, isMk, sym2, popN, goC, callOK, swL, List.map_cons, List.map_nil, List.replicate_zero, List.replicate_succ, List.append_nil, List.nil_append, List.cons_append, List.getElem?_cons_zero, List.getElem?_cons_succ, List.set_cons_zero, List.set_cons_succ, List.length_cons, List.length_nil, List.head?_cons, Nat.reduceAdd, Nat.reduceLT, Nat.reduceLeDiff, Nat.reduceBEq, Nat.reduceEqDiff, Nat.succ_ne_zero, Nat.zero_lt_succ, Nat.le_refl, sc_rows, kc_lit, nc_lit, wlk_rows, uR_s, uR_uR, true_and, and_true, true_or, or_true, false_or, or_false, and_false, false_and, or_self, and_self, if_true, if_false, Bool.false_eq_true, Bool.or_false, Bool.or_true, Bool.false_or, Bool.true_or, not_true_eq_false, not_false_eq_true, forall_const, true_implies, false_implies, implies_true, ↓reduceIte, reduceCtorEq, fR, rd1, rd2, rd3, eq_self, j2, ansCo_s, lt15, e2, e99, e5, e21, nzL, k0 L]
    refine m_arrive g11 3 (fun _ J g q => ?_) (fun cc => absurd cc (by rw [j3]; decide))
    refine wk2 (fn0_ok l) ok_84 30 (fun pc => pc == 271) ?_
    simp only [kk_84, Option.toList_some, Option.toList_none, ex2, ex, catS, vC, isMk, sym2, popN, goC, callOK, swL, List.map_cons, List.map_nil, List.replicate_zero, List.replicate_succ, List.append_nil, List.nil_append, List.cons_append, List.getElem?_cons_zero, List.getElem?_cons_succ, List.set_cons_zero, List.set_cons_succ, List.length_cons, List.length_nil, List.head?_cons, Nat.reduceAdd, Nat.reduceLT, Nat.reduceLeDiff, Nat.reduceBEq, Nat.reduceEqDiff, Nat.succ_ne_zero, Nat.zero_lt_succ, Nat.le_refl, sc_rows, kc_lit, nc_lit, wlk_rows, uR_s, uR_uR, true_and, and_true, true_or, or_true, false_or, or_false, and_false, false_and, or_self, and_self, if_true, if_false, Bool.false_eq_true, Bool.or_false, Bool.or_true, Bool.false_or, Bool.true_or, not_true_eq_false, not_false_eq_true, forall_const, true_implies, false_implies, implies_true, ↓reduceIte, reduceCtorEq, fn0, eq_self, j3, e2, e99, e5, e21, nzL, k0 L]
    exact rest J g ((u11).tr (FL.of q))
  · have lt15 : (nI k < 15) = True := ltT (b := 15) (show k < 15 by omega) (by omega)
    refine wk2 hR2 ok_84 30 (fun pc => pc == 271) ?_
    simp only [kk_84, Option.toList_some, Option.toList_none, ex2, ex, catS, vC, isMk, sym2, popN, goC, callOK, swL, List.map_cons, List.map_nil, List.replicate_zero, List.replicate_succ, List.append_nil, List.nil_append, List.cons_append, List.getElem?_cons_zero, List.getElem?_cons_succ, List.set_cons_zero, List.set_cons_succ, List.length_cons, List.length_nil, List.head?_cons, Nat.reduceAdd, Nat.reduceLT, Nat.reduceLeDiff, Nat.reduceBEq, Nat.reduceEqDiff, Nat.succ_ne_zero, Nat.zero_lt_succ, Nat.le_refl, sc_rows, kc_lit, nc_lit, wlk_rows, uR_s, uR_uR, true_and, and_true, true_or, or_true, false_or, or_false, and_false, false_and, or_self, and_self, if_true, if_false, Bool.false_eq_true, Bool.or_false, Bool.or_true, Bool.false_or, Bool.true_or, not_true_eq_false, not_false_eq_true, forall_const, true_implies, false_implies, implies_true, ↓reduceIte, reduceCtorEq, fR, rd1, rd2, rd3, eq_self, j2, ansCo_s, lt15, e2, e99, e5, e21, nzL, k0 L]
    exact rest J11 g11 u11
set_option maxHeartbeats 1000000 in
set_option maxRecDepth 100000 in
theorem l_refe2 (h : CT I Q τ b z w a n m k) (hT : TXI I) (hP : PR z n) {bd : Nat} (hbd : bd + 20 ≤ 1000000) (hX : XW z bd) {x r : Nat} (hr : r < 99) (e2 : nI x - nI x / 2 * 2 = 0) (h1 : ∀ I' Q', CT I' Q' τ b z w a n m k → FL I I' → P (some (.int 1)) (SC L, I', Q')) : Sy l 84 (149, 1788) 337 [some (.ref 0), some (.int (nI x)), some (.int (-1 - nI r)), some (.int (-1 - nI r)), some (.int (-1 - nI r)), some (.int 1)] [] (SC L, I, Q) P := by
  obtain ⟨-, ⟨hC, hM, hL⟩, -⟩ := id h
  have hk := hM.2.2.2.2.1
  obtain ⟨f1, f2⟩ := far_e hr
  have hrk := neg_rk hr
  have hfn := far_no hP f1
  have a1 : ansTx z n m (-1 - nI r) 0 = -1 := by exact ansTx_n hfn 0
  have a2 : ansLi z m (-1 - nI r) = -2 := by unfold ansLi; rw [if_pos hrk]
  have a3 : ansPl z n (-1 - nI r) = -2 := by unfold ansPl; rw [if_pos hrk]
  have a4 : ansWa z k (-1 - nI r) 0 = -2 := by unfold ansWa; rw [if_pos (Or.inl hrk)]
  have a5 : ansWa z k 0 (-1) = -2 := by unfold ansWa; rw [if_pos (Or.inr (by decide))]
  have n15 : ¬ (15 : Int32) < nI k := fun q => by have := (nI_ltI (a := 15) (b := k) (by omega) (by omega)).mp q; omega
  have a6 : ansWa z k 15 0 = -5 := by unfold ansWa; rw [if_neg (by decide), if_neg n15]
  have a7 : ansRi z n m (-1 - nI r) = -1 := by unfold ansRi; rw [if_pos f2]
  have a8 : ansRi z n m 10 = -2 := by unfold ansRi; rw [if_neg (by decide), if_pos rfl]
  have a9 : ansIf z n m (-1 - nI r) 3 9 = -1 := by unfold ansIf; rw [if_pos (fun q => f2 q.1)]
  have b1 : ansIf z n m 3 (-1 - nI r) 9 = -1 := by unfold ansIf; rw [if_pos (fun q => f2 q.2)]
  have b2 : ansIf z n m 3 3 0 = -2 := by unfold ansIf; rw [if_neg (by decide), if_pos (Or.inl rfl)]
  have b3 : ansIf z n m 3 4 (-1) = -2 := by unfold ansIf; rw [if_neg (by decide), if_pos (by decide)]
  have b4 : ansRe z n m (-1 - nI r) 3 = -1 := by unfold ansRe; rw [hfn]
  have b5 : ansUn z k (-1 - nI r) = -1 := by unfold ansUn; rw [if_neg (fun q => absurd q.1 (Int32.not_le.mpr hrk))]
  have b6 : ansUn z k 15 = -1 := by unfold ansUn; rw [if_neg (fun q => n15 q.2)]
  have b7 : ansIn z n (-1 - nI r) = -1 := by unfold ansIn; rw [hfn]
  have b8 : ansSh z n (-1) = -2 := by unfold ansSh; rw [if_pos (by decide)]
  have b9 : ansCo z n m k a 0 (-1) = -2 := by rfl
  have d1 : ∀ s1 s2, ansSt s1 s2 2 = -2 := fun s1 s2 => by unfold ansSt; rw [if_pos (by decide)]
  have hR := fR_ok (l := l) (L := L) h hT.1
  refine wk2 hR ok_84 150 (fun pc => false) ?_
  simp only [kk_84, Option.toList_some, Option.toList_none, ex2, ex, catS, vC, isMk, sym2, popN, goC, callOK, swL, List.map_cons, List.map_nil, List.replicate_zero, List.replicate_succ, List.append_nil, List.nil_append, List.cons_append, List.getElem?_cons_zero, List.getElem?_cons_succ, List.set_cons_zero, List.set_cons_succ, List.length_cons, List.length_nil, List.head?_cons, Nat.reduceAdd, Nat.reduceLT, Nat.reduceLeDiff, Nat.reduceBEq, Nat.reduceEqDiff, Nat.succ_ne_zero, Nat.zero_lt_succ, Nat.le_refl, sc_rows, kc_lit, nc_lit, wlk_rows, uR_s, uR_uR, true_and, and_true, true_or, or_true, false_or, or_false, and_false, false_and, or_self, and_self, if_true, if_false, Bool.false_eq_true, Bool.or_false, Bool.or_true, Bool.false_or, Bool.true_or, not_true_eq_false, not_false_eq_true, forall_const, true_implies, false_implies, implies_true, ↓reduceIte, reduceCtorEq, fR, rd1, rd2, rd3, eq_self, e2, nzL, k0 L, d1, a1, a2, a3, a4, a5, a6, a7, a8, a9, b1, b2, b3, b4, b5, b6, b7, b8, b9]
  refine m_ridesIn h (-1 - nI r) (fun J1 g1 q1 => ?_)
  have u1 := FL.of q1
  refine wk2 (fn0_ok l) ok_84 20 (fun pc => false) ?_
  simp only [kk_84, Option.toList_some, Option.toList_none, ex2, ex, catS, vC, isMk, sym2, popN, goC, callOK, swL, List.map_cons, List.map_nil, List.replicate_zero, List.replicate_succ, List.append_nil, List.nil_append, List.cons_append, List.getElem?_cons_zero, List.getElem?_cons_succ, List.set_cons_zero, List.set_cons_succ, List.length_cons, List.length_nil, List.head?_cons, Nat.reduceAdd, Nat.reduceLT, Nat.reduceLeDiff, Nat.reduceBEq, Nat.reduceEqDiff, Nat.succ_ne_zero, Nat.zero_lt_succ, Nat.le_refl, sc_rows, kc_lit, nc_lit, wlk_rows, uR_s, uR_uR, true_and, and_true, true_or, or_true, false_or, or_false, and_false, false_and, or_self, and_self, if_true, if_false, Bool.false_eq_true, Bool.or_false, Bool.or_true, Bool.false_or, Bool.true_or, not_true_eq_false, not_false_eq_true, forall_const, true_implies, false_implies, implies_true, ↓reduceIte, reduceCtorEq, fn0, eq_self, e2, nzL, k0 L, d1, a1, a2, a3, a4, a5, a6, a7, a8, a9, b1, b2, b3, b4, b5, b6, b7, b8, b9]
  refine m_ridesIn g1 15 (fun J2 g2 q2 => ?_)
  have u2 := u1.tr (FL.of q2)
  refine wk2 (fn0_ok l) ok_84 20 (fun pc => false) ?_
  simp only [kk_84, Option.toList_some, Option.toList_none, ex2, ex, catS, vC, isMk, sym2, popN, goC, callOK, swL, List.map_cons, List.map_nil, List.replicate_zero, List.replicate_succ, List.append_nil, List.nil_append, List.cons_append, List.getElem?_cons_zero, List.getElem?_cons_succ, List.set_cons_zero, List.set_cons_succ, List.length_cons, List.length_nil, List.head?_cons, Nat.reduceAdd, Nat.reduceLT, Nat.reduceLeDiff, Nat.reduceBEq, Nat.reduceEqDiff, Nat.succ_ne_zero, Nat.zero_lt_succ, Nat.le_refl, sc_rows, kc_lit, nc_lit, wlk_rows, uR_s, uR_uR, true_and, and_true, true_or, or_true, false_or, or_false, and_false, false_and, or_self, and_self, if_true, if_false, Bool.false_eq_true, Bool.or_false, Bool.or_true, Bool.false_or, Bool.true_or, not_true_eq_false, not_false_eq_true, forall_const, true_implies, false_implies, implies_true, ↓reduceIte, reduceCtorEq, fn0, eq_self, e2, nzL, k0 L, d1, a1, a2, a3, a4, a5, a6, a7, a8, a9, b1, b2, b3, b4, b5, b6, b7, b8, b9]
  refine m_inLineIn g2 (-1 - nI r) (fun J3 g3 q3 => ?_)
  have u3 := u2.tr (FL.of q3)
  have t3 := hT.fl u3
  have hR3 := fR_ok (l := l) (L := L) g3 t3.1
  refine wk2 hR3 ok_84 60 (fun pc => false) ?_
  simp only [kk_84, Option.toList_some, Option.toList_none, ex2, ex, catS, vC, isMk, sym2, popN, goC, callOK, swL, List.map_cons, List.map_nil, List.replicate_zero, List.replicate_succ, List.append_nil, List.nil_append, List.cons_append, List.getElem?_cons_zero, List.getElem?_cons_succ, List.set_cons_zero, List.set_cons_succ, List.length_cons, List.length_nil, List.head?_cons, Nat.reduceAdd, Nat.reduceLT, Nat.reduceLeDiff, Nat.reduceBEq, Nat.reduceEqDiff, Nat.succ_ne_zero, Nat.zero_lt_succ, Nat.le_refl, sc_rows, kc_lit, nc_lit, wlk_rows, uR_s, uR_uR, true_and, and_true, true_or, or_true, false_or, or_false, and_false, false_and, or_self, and_self, if_true, if_false, Bool.false_eq_true, Bool.or_false, Bool.or_true, Bool.false_or, Bool.true_or, not_true_eq_false, not_false_eq_true, forall_const, true_implies, false_implies, implies_true, ↓reduceIte, reduceCtorEq, fR, rd1, rd2, rd3, eq_self, e2, nzL, k0 L, d1, a1, a2, a3, a4, a5, a6, a7, a8, a9, b1, b2, b3, b4, b5, b6, b7, b8, b9]
  refine m_clear (ln := 0) t3.1 ?_
  rw [upd_0 t3.1, uR_self]
  refine wk2 (fn0_ok l) ok_84 20 (fun pc => false) ?_
  simp only [kk_84, Option.toList_some, Option.toList_none, ex2, ex, catS, vC, isMk, sym2, popN, goC, callOK, swL, List.map_cons, List.map_nil, List.replicate_zero, List.replicate_succ, List.append_nil, List.nil_append, List.cons_append, List.getElem?_cons_zero, List.getElem?_cons_succ, List.set_cons_zero, List.set_cons_succ, List.length_cons, List.length_nil, List.head?_cons, Nat.reduceAdd, Nat.reduceLT, Nat.reduceLeDiff, Nat.reduceBEq, Nat.reduceEqDiff, Nat.succ_ne_zero, Nat.zero_lt_succ, Nat.le_refl, sc_rows, kc_lit, nc_lit, wlk_rows, uR_s, uR_uR, true_and, and_true, true_or, or_true, false_or, or_false, and_false, false_and, or_self, and_self, if_true, if_false, Bool.false_eq_true, Bool.or_false, Bool.or_true, Bool.false_or, Bool.true_or, not_true_eq_false, not_false_eq_true, forall_const, true_implies, false_implies, implies_true, ↓reduceIte, reduceCtorEq, fn0, eq_self, show (nI 0 = 0) = True from eq_true rfl, e2, nzL, k0 L, d1, a1, a2, a3, a4, a5, a6, a7, a8, a9, b1, b2, b3, b4, b5, b6, b7, b8, b9]
  refine m_perform (ln := 0) g3 hbd hX t3.1 (by omega) t3.2.1 rfl rfl (fun y hy J4 Q4 g4 q4 q5 => ?_) (fun hy => ?_) (fun hy => ?_)
  · have ey : y = 0 := per_0 hy
    rw [ey]
    refine wk2 (fn0_ok l) ok_84 20 (fun pc => false) ?_
    simp only [kk_84, Option.toList_some, Option.toList_none, ex2, ex, catS, vC, isMk, sym2, popN, goC, callOK, swL, List.map_cons, List.map_nil, List.replicate_zero, List.replicate_succ, List.append_nil, List.nil_append, List.cons_append, List.getElem?_cons_zero, List.getElem?_cons_succ, List.set_cons_zero, List.set_cons_succ, List.length_cons, List.length_nil, List.head?_cons, Nat.reduceAdd, Nat.reduceLT, Nat.reduceLeDiff, Nat.reduceBEq, Nat.reduceEqDiff, Nat.succ_ne_zero, Nat.zero_lt_succ, Nat.le_refl, sc_rows, kc_lit, nc_lit, wlk_rows, uR_s, uR_uR, true_and, and_true, true_or, or_true, false_or, or_false, and_false, false_and, or_self, and_self, if_true, if_false, Bool.false_eq_true, Bool.or_false, Bool.or_true, Bool.false_or, Bool.true_or, not_true_eq_false, not_false_eq_true, forall_const, true_implies, false_implies, implies_true, ↓reduceIte, reduceCtorEq, fn0, eq_self, show ((-100 : Int32) - nI 0 = -100) = True by decide, e2, nzL, k0 L, d1, a1, a2, a3, a4, a5, a6, a7, a8, a9, b1, b2, b3, b4, b5, b6, b7, b8, b9]
    exact h1 J4 Q4 g4 (u3.tr ⟨q5, fun p hp => q4.1 p (by omega)⟩)
  · exact absurd hy per_n
  · exact absurd hy per_n
set_option maxHeartbeats 1000000 in
set_option maxRecDepth 100000 in
theorem l_refo1 (h : CT I Q τ b z w a n m k) (hT : TXI I) (hP : PR z n) {bd c : Nat} (hE : EX z n k bd c) {x r r5 r21 : Nat} (hr : r < 99) (h5 : r5 < 5) (h21 : r21 < 21) (e2 : nI x - nI x / 2 * 2 = 1) (e99 : nI x - nI x / 99 * 99 = nI r) (e5 : nI x - nI x / 5 * 5 = nI r5) (e21 : nI x - nI x / 21 * 21 = nI r21) (h1 : ∀ I', CT I' Q τ b z w a n m k → FL I I' → Sy l 84 (149, 1788) 337 [some (.ref 0), some (.int (nI x)), some (.int (1000 + nI r)), some (.int (21 + nI r)), some (.int (-1 - nI r)), some (.int 1)] [] (SC L, I', Q) P) : Sy l 84 (149, 1788) 0 [some (.ref 0), some (.int (nI x)), none, none, none, none] [] (SC L, I, Q) P := by
  obtain ⟨-, ⟨hC, hM, hL⟩, -⟩ := id h
  have hs := hM.2.2.1
  have hkz := hM.2.2.2.1
  have hk := hM.2.2.2.2.1
  obtain ⟨f1, f2⟩ := far_o hr
  have hfn := far_no hP f1
  have w1 : whyW z n (1000 + nI r) = -2 := by unfold whyW; rw [if_pos f1]
  have w2 : whyH z n (1000 + nI r) = -1 := by unfold whyH; rw [hfn]
  have s0 : whyS z 5 9 = -1 := by unfold whyS; rw [if_pos (by decide)]
  have s1 : whyS z 0 10 = -2 := by unfold whyS; rw [if_neg (by decide), if_pos (by decide)]
  have s2 : whyS z 1 241 = -2 := by unfold whyS; rw [if_neg (by decide), if_pos (by decide)]
  have s3 : whyS z 2 21 = -2 := by unfold whyS; rw [if_neg (by decide), if_pos (by decide)]
  have s4 : whyS z 3 1000 = -2 := by unfold whyS; rw [if_neg (by decide), if_pos (by decide)]
  have s5 : whyS z 4 241 = -2 := by unfold whyS; rw [if_neg (by decide), if_pos (by decide)]
  have s6 := whyS_own hs h5
  have j1 : whyJ z (21 + nI r) = -1 := by unfold whyJ; rw [if_pos f2]
  have j2 : whyJ z 10 = -2 := by unfold whyJ; rw [if_neg (by decide), if_pos rfl]
  have c1 : whyC z n m (21 + nI r) 3 = -1 := by unfold whyC; rw [if_pos (fun q => f2 q.1)]
  have c2 : whyC z n m 3 (21 + nI r) = -1 := by unfold whyC; rw [if_pos (fun q => f2 q.2)]
  have c3 : whyC z n m (nI r21) (nI r21) = -2 := by unfold whyC; rw [if_neg (fun q => q ⟨pl21 r21 h21, pl21 r21 h21⟩), if_pos rfl]
  have p1 : whyP z 1000 = -2 := by unfold whyP; rw [if_pos (by decide)]
  have hpl : ∀ t, t < n → ¬ z (tp t 0) < 0 := fun t ht => Int32.not_lt.mpr (hP.2 t ht).1
  refine wk2 (fn0_ok l) ok_84 60 (fun pc => false) ?_
  simp only [kk_84, Option.toList_some, Option.toList_none, ex2, ex, catS, vC, isMk, sym2, popN, goC, callOK, swL, List.map_cons, List.map_nil, List.replicate_zero, List.replicate_succ, List.append_nil, List.nil_append, List.cons_append, List.getElem?_cons_zero, List.getElem?_cons_succ, List.set_cons_zero, List.set_cons_succ, List.length_cons, List.length_nil, List.head?_cons, Nat.reduceAdd, Nat.reduceLT, Nat.reduceLeDiff, Nat.reduceBEq, Nat.reduceEqDiff, Nat.succ_ne_zero, Nat.zero_lt_succ, Nat.le_refl, sc_rows, kc_lit, nc_lit, wlk_rows, uR_s, uR_uR, true_and, and_true, true_or, or_true, false_or, or_false, and_false, false_and, or_self, and_self, if_true, if_false, Bool.false_eq_true, Bool.or_false, Bool.or_true, Bool.false_or, Bool.true_or, not_true_eq_false, not_false_eq_true, forall_const, true_implies, false_implies, implies_true, ↓reduceIte, reduceCtorEq, fn0, eq_self, e2, e99, e5, e21, nzL, k0 L]
  refine m_come h (1000 + nI r) (fun _ J1 g1 q1 => ?_) (fun cc => absurd cc (by rw [w1]; decide))
  have u1 := FL.of q1
  have t1 := hT.fl u1
  refine wk2 (fn0_ok l) ok_84 20 (fun pc => false) ?_
  simp only [kk_84, Option.toList_some, Option.toList_none, ex2, ex, catS, vC, isMk, sym2, popN, goC, callOK, swL, List.map_cons, List.map_nil, List.replicate_zero, List.replicate_succ, List.append_nil, List.nil_append, List.cons_append, List.getElem?_cons_zero, List.getElem?_cons_succ, List.set_cons_zero, List.set_cons_succ, List.length_cons, List.length_nil, List.head?_cons, Nat.reduceAdd, Nat.reduceLT, Nat.reduceLeDiff, Nat.reduceBEq, Nat.reduceEqDiff, Nat.succ_ne_zero, Nat.zero_lt_succ, Nat.le_refl, sc_rows, kc_lit, nc_lit, wlk_rows, uR_s, uR_uR, true_and, and_true, true_or, or_true, false_or, or_false, and_false, false_and, or_self, and_self, if_true, if_false, Bool.false_eq_true, Bool.or_false, Bool.or_true, Bool.false_or, Bool.true_or, not_true_eq_false, not_false_eq_true, forall_const, true_implies, false_implies, implies_true, ↓reduceIte, reduceCtorEq, fn0, eq_self, w1, e2, e99, e5, e21, nzL, k0 L]
  refine m_goHome g1 (1000 + nI r) (fun _ J2 g2 q2 => ?_) (fun cc => absurd cc (by rw [w2]; decide))
  have u2 := (u1).tr (FL.of q2)
  have t2 := hT.fl u2
  refine wk2 (fn0_ok l) ok_84 20 (fun pc => false) ?_
  simp only [kk_84, Option.toList_some, Option.toList_none, ex2, ex, catS, vC, isMk, sym2, popN, goC, callOK, swL, List.map_cons, List.map_nil, List.replicate_zero, List.replicate_succ, List.append_nil, List.nil_append, List.cons_append, List.getElem?_cons_zero, List.getElem?_cons_succ, List.set_cons_zero, List.set_cons_succ, List.length_cons, List.length_nil, List.head?_cons, Nat.reduceAdd, Nat.reduceLT, Nat.reduceLeDiff, Nat.reduceBEq, Nat.reduceEqDiff, Nat.succ_ne_zero, Nat.zero_lt_succ, Nat.le_refl, sc_rows, kc_lit, nc_lit, wlk_rows, uR_s, uR_uR, true_and, and_true, true_or, or_true, false_or, or_false, and_false, false_and, or_self, and_self, if_true, if_false, Bool.false_eq_true, Bool.or_false, Bool.or_true, Bool.false_or, Bool.true_or, not_true_eq_false, not_false_eq_true, forall_const, true_implies, false_implies, implies_true, ↓reduceIte, reduceCtorEq, fn0, eq_self, w2, e2, e99, e5, e21, nzL, k0 L]
  refine m_set g2 5 9 t2.2.2 (fun _ J3 g3 q3 => ?_) (fun cc => absurd cc (by rw [s0]; decide))
  have u3 := (u2).tr (FL.of q3)
  have t3 := hT.fl u3
  refine wk2 (fn0_ok l) ok_84 30 (fun pc => false) ?_
  simp only [kk_84, Option.toList_some, Option.toList_none, ex2, ex, catS, vC, isMk, sym2, popN, goC, callOK, swL, List.map_cons, List.map_nil, List.replicate_zero, List.replicate_succ, List.append_nil, List.nil_append, List.cons_append, List.getElem?_cons_zero, List.getElem?_cons_succ, List.set_cons_zero, List.set_cons_succ, List.length_cons, List.length_nil, List.head?_cons, Nat.reduceAdd, Nat.reduceLT, Nat.reduceLeDiff, Nat.reduceBEq, Nat.reduceEqDiff, Nat.succ_ne_zero, Nat.zero_lt_succ, Nat.le_refl, sc_rows, kc_lit, nc_lit, wlk_rows, uR_s, uR_uR, true_and, and_true, true_or, or_true, false_or, or_false, and_false, false_and, or_self, and_self, if_true, if_false, Bool.false_eq_true, Bool.or_false, Bool.or_true, Bool.false_or, Bool.true_or, not_true_eq_false, not_false_eq_true, forall_const, true_implies, false_implies, implies_true, ↓reduceIte, reduceCtorEq, fn0, eq_self, s0, e2, e99, e5, e21, nzL, k0 L]
  refine m_set g3 0 10 t3.2.2 (fun _ J4 g4 q4 => ?_) (fun cc => absurd cc (by rw [s1]; decide))
  have u4 := (u3).tr (FL.of q4)
  have t4 := hT.fl u4
  refine wk2 (fn0_ok l) ok_84 30 (fun pc => false) ?_
  simp only [kk_84, Option.toList_some, Option.toList_none, ex2, ex, catS, vC, isMk, sym2, popN, goC, callOK, swL, List.map_cons, List.map_nil, List.replicate_zero, List.replicate_succ, List.append_nil, List.nil_append, List.cons_append, List.getElem?_cons_zero, List.getElem?_cons_succ, List.set_cons_zero, List.set_cons_succ, List.length_cons, List.length_nil, List.head?_cons, Nat.reduceAdd, Nat.reduceLT, Nat.reduceLeDiff, Nat.reduceBEq, Nat.reduceEqDiff, Nat.succ_ne_zero, Nat.zero_lt_succ, Nat.le_refl, sc_rows, kc_lit, nc_lit, wlk_rows, uR_s, uR_uR, true_and, and_true, true_or, or_true, false_or, or_false, and_false, false_and, or_self, and_self, if_true, if_false, Bool.false_eq_true, Bool.or_false, Bool.or_true, Bool.false_or, Bool.true_or, not_true_eq_false, not_false_eq_true, forall_const, true_implies, false_implies, implies_true, ↓reduceIte, reduceCtorEq, fn0, eq_self, s1, e2, e99, e5, e21, nzL, k0 L]
  refine m_set g4 1 241 t4.2.2 (fun _ J5 g5 q5 => ?_) (fun cc => absurd cc (by rw [s2]; decide))
  have u5 := (u4).tr (FL.of q5)
  have t5 := hT.fl u5
  refine wk2 (fn0_ok l) ok_84 30 (fun pc => false) ?_
  simp only [kk_84, Option.toList_some, Option.toList_none, ex2, ex, catS, vC, isMk, sym2, popN, goC, callOK, swL, List.map_cons, List.map_nil, List.replicate_zero, List.replicate_succ, List.append_nil, List.nil_append, List.cons_append, List.getElem?_cons_zero, List.getElem?_cons_succ, List.set_cons_zero, List.set_cons_succ, List.length_cons, List.length_nil, List.head?_cons, Nat.reduceAdd, Nat.reduceLT, Nat.reduceLeDiff, Nat.reduceBEq, Nat.reduceEqDiff, Nat.succ_ne_zero, Nat.zero_lt_succ, Nat.le_refl, sc_rows, kc_lit, nc_lit, wlk_rows, uR_s, uR_uR, true_and, and_true, true_or, or_true, false_or, or_false, and_false, false_and, or_self, and_self, if_true, if_false, Bool.false_eq_true, Bool.or_false, Bool.or_true, Bool.false_or, Bool.true_or, not_true_eq_false, not_false_eq_true, forall_const, true_implies, false_implies, implies_true, ↓reduceIte, reduceCtorEq, fn0, eq_self, s2, e2, e99, e5, e21, nzL, k0 L]
  refine m_set g5 2 21 t5.2.2 (fun _ J6 g6 q6 => ?_) (fun cc => absurd cc (by rw [s3]; decide))
  have u6 := (u5).tr (FL.of q6)
  have t6 := hT.fl u6
  refine wk2 (fn0_ok l) ok_84 30 (fun pc => false) ?_
  simp only [kk_84, Option.toList_some, Option.toList_none, ex2, ex, catS, vC, isMk, sym2, popN, goC, callOK, swL, List.map_cons, List.map_nil, List.replicate_zero, List.replicate_succ, List.append_nil, List.nil_append, List.cons_append, List.getElem?_cons_zero, List.getElem?_cons_succ, List.set_cons_zero, List.set_cons_succ, List.length_cons, List.length_nil, List.head?_cons, Nat.reduceAdd, Nat.reduceLT, Nat.reduceLeDiff, Nat.reduceBEq, Nat.reduceEqDiff, Nat.succ_ne_zero, Nat.zero_lt_succ, Nat.le_refl, sc_rows, kc_lit, nc_lit, wlk_rows, uR_s, uR_uR, true_and, and_true, true_or, or_true, false_or, or_false, and_false, false_and, or_self, and_self, if_true, if_false, Bool.false_eq_true, Bool.or_false, Bool.or_true, Bool.false_or, Bool.true_or, not_true_eq_false, not_false_eq_true, forall_const, true_implies, false_implies, implies_true, ↓reduceIte, reduceCtorEq, fn0, eq_self, s3, e2, e99, e5, e21, nzL, k0 L]
  refine m_set g6 3 1000 t6.2.2 (fun _ J7 g7 q7 => ?_) (fun cc => absurd cc (by rw [s4]; decide))
  have u7 := (u6).tr (FL.of q7)
  have t7 := hT.fl u7
  refine wk2 (fn0_ok l) ok_84 30 (fun pc => false) ?_
  simp only [kk_84, Option.toList_some, Option.toList_none, ex2, ex, catS, vC, isMk, sym2, popN, goC, callOK, swL, List.map_cons, List.map_nil, List.replicate_zero, List.replicate_succ, List.append_nil, List.nil_append, List.cons_append, List.getElem?_cons_zero, List.getElem?_cons_succ, List.set_cons_zero, List.set_cons_succ, List.length_cons, List.length_nil, List.head?_cons, Nat.reduceAdd, Nat.reduceLT, Nat.reduceLeDiff, Nat.reduceBEq, Nat.reduceEqDiff, Nat.succ_ne_zero, Nat.zero_lt_succ, Nat.le_refl, sc_rows, kc_lit, nc_lit, wlk_rows, uR_s, uR_uR, true_and, and_true, true_or, or_true, false_or, or_false, and_false, false_and, or_self, and_self, if_true, if_false, Bool.false_eq_true, Bool.or_false, Bool.or_true, Bool.false_or, Bool.true_or, not_true_eq_false, not_false_eq_true, forall_const, true_implies, false_implies, implies_true, ↓reduceIte, reduceCtorEq, fn0, eq_self, s4, e2, e99, e5, e21, nzL, k0 L]
  refine m_set g7 4 241 t7.2.2 (fun _ J8 g8 q8 => ?_) (fun cc => absurd cc (by rw [s5]; decide))
  have u8 := (u7).tr (FL.of q8)
  have t8 := hT.fl u8
  have hR := fR_ok (l := l) (L := L) g8 t8.1
  refine wk2 hR ok_84 30 (fun pc => false) ?_
  simp only [kk_84, Option.toList_some, Option.toList_none, ex2, ex, catS, vC, isMk, sym2, popN, goC, callOK, swL, List.map_cons, List.map_nil, List.replicate_zero, List.replicate_succ, List.append_nil, List.nil_append, List.cons_append, List.getElem?_cons_zero, List.getElem?_cons_succ, List.set_cons_zero, List.set_cons_succ, List.length_cons, List.length_nil, List.head?_cons, Nat.reduceAdd, Nat.reduceLT, Nat.reduceLeDiff, Nat.reduceBEq, Nat.reduceEqDiff, Nat.succ_ne_zero, Nat.zero_lt_succ, Nat.le_refl, sc_rows, kc_lit, nc_lit, wlk_rows, uR_s, uR_uR, true_and, and_true, true_or, or_true, false_or, or_false, and_false, false_and, or_self, and_self, if_true, if_false, Bool.false_eq_true, Bool.or_false, Bool.or_true, Bool.false_or, Bool.true_or, not_true_eq_false, not_false_eq_true, forall_const, true_implies, false_implies, implies_true, ↓reduceIte, reduceCtorEq, fR, rd1, rd2, rd3, eq_self, s5, ansCo_set z n m k a h5, e2, e99, e5, e21, nzL, k0 L]
  refine m_set g8 (nI r5) (z r5) t8.2.2 (fun _ J9 g9 q9 => ?_) (fun cc => absurd cc (by rw [s6]; decide))
  have u9 := (u8).tr (FL.of q9)
  have t9 := hT.fl u9
  refine wk2 (fn0_ok l) ok_84 30 (fun pc => false) ?_
  simp only [kk_84, Option.toList_some, Option.toList_none, ex2, ex, catS, vC, isMk, sym2, popN, goC, callOK, swL, List.map_cons, List.map_nil, List.replicate_zero, List.replicate_succ, List.append_nil, List.nil_append, List.cons_append, List.getElem?_cons_zero, List.getElem?_cons_succ, List.set_cons_zero, List.set_cons_succ, List.length_cons, List.length_nil, List.head?_cons, Nat.reduceAdd, Nat.reduceLT, Nat.reduceLeDiff, Nat.reduceBEq, Nat.reduceEqDiff, Nat.succ_ne_zero, Nat.zero_lt_succ, Nat.le_refl, sc_rows, kc_lit, nc_lit, wlk_rows, uR_s, uR_uR, true_and, and_true, true_or, or_true, false_or, or_false, and_false, false_and, or_self, and_self, if_true, if_false, Bool.false_eq_true, Bool.or_false, Bool.or_true, Bool.false_or, Bool.true_or, not_true_eq_false, not_false_eq_true, forall_const, true_implies, false_implies, implies_true, ↓reduceIte, reduceCtorEq, fn0, eq_self, s6, e2, e99, e5, e21, nzL, k0 L]
  refine m_arrive g9 (21 + nI r) (fun _ J10 g10 q10 => ?_) (fun cc => absurd cc (by rw [j1]; decide))
  have u10 := (u9).tr (FL.of q10)
  have t10 := hT.fl u10
  refine wk2 (fn0_ok l) ok_84 30 (fun pc => false) ?_
  simp only [kk_84, Option.toList_some, Option.toList_none, ex2, ex, catS, vC, isMk, sym2, popN, goC, callOK, swL, List.map_cons, List.map_nil, List.replicate_zero, List.replicate_succ, List.append_nil, List.nil_append, List.cons_append, List.getElem?_cons_zero, List.getElem?_cons_succ, List.set_cons_zero, List.set_cons_succ, List.length_cons, List.length_nil, List.head?_cons, Nat.reduceAdd, Nat.reduceLT, Nat.reduceLeDiff, Nat.reduceBEq, Nat.reduceEqDiff, Nat.succ_ne_zero, Nat.zero_lt_succ, Nat.le_refl, sc_rows, kc_lit, nc_lit, wlk_rows, uR_s, uR_uR, true_and, and_true, true_or, or_true, false_or, or_false, and_false, false_and, or_self, and_self, if_true, if_false, Bool.false_eq_true, Bool.or_false, Bool.or_true, Bool.false_or, Bool.true_or, not_true_eq_false, not_false_eq_true, forall_const, true_implies, false_implies, implies_true, ↓reduceIte, reduceCtorEq, fn0, eq_self, j1, e2, e99, e5, e21, nzL, k0 L]
  refine m_arrive g10 10 (fun _ J11 g11 q11 => ?_) (fun cc => absurd cc (by rw [j2]; decide))
  have u11 := (u10).tr (FL.of q11)
  have t11 := hT.fl u11
  have rest : ∀ J, CT J Q τ b z w a n m k → FL I J → Sy l 84 (149, 1788) 271 [some (.ref 0), some (.int (nI x)), some (.int (1000 + nI r)), some (.int (21 + nI r)), some (.int (-1 - nI r)), none] [] (SC L, J, Q) P := by
    intro J g111 u111
    have t111 := hT.fl u111
    refine wk2 (fn0_ok l) ok_84 30 (fun pc => false) ?_
    simp only [kk_84, Option.toList_some, Option.toList_none, ex2, ex, catS, vC, isMk, sym2, popN, goC, callOK, swL, List.map_cons, List.map_nil, List.replicate_zero, List.replicate_succ, List.append_nil, List.nil_append, List.cons_append, List.getElem?_cons_zero, List.getElem?_cons_succ, List.set_cons_zero, List.set_cons_succ, List.length_cons, List.length_nil, List.head?_cons, Nat.reduceAdd, Nat.reduceLT, Nat.reduceLeDiff, Nat.reduceBEq, Nat.reduceEqDiff, Nat.succ_ne_zero, Nat.zero_lt_succ, Nat.le_refl, sc_rows, kc_lit, nc_lit, wlk_rows, uR_s, uR_uR, true_and, and_true, true_or, or_true, false_or, or_false, and_false, false_and, or_self, and_self, if_true, if_false, Bool.false_eq_true, Bool.or_false, Bool.or_true, Bool.false_or, Bool.true_or, not_true_eq_false, not_false_eq_true, forall_const, true_implies, false_implies, implies_true, ↓reduceIte, reduceCtorEq, fn0, eq_self, e2, e99, e5, e21, nzL, k0 L]
    refine m_call g111 (21 + nI r) 3 hE hpl (fun _ J112 g112 q112 => ?_) (fun cc => absurd cc (by rw [c1]; decide))
    have u112 := (u111).tr (FL.of q112)
    have t112 := hT.fl u112
    refine wk2 (fn0_ok l) ok_84 30 (fun pc => false) ?_
    simp only [kk_84, Option.toList_some, Option.toList_none, ex2, ex, catS, vC, isMk, sym2, popN, goC, callOK, swL, List.map_cons, List.map_nil, List.replicate_zero, List.replicate_succ, List.append_nil, List.nil_append, List.cons_append, List.getElem?_cons_zero, List.getElem?_cons_succ, List.set_cons_zero, List.set_cons_succ, List.length_cons, List.length_nil, List.head?_cons, Nat.reduceAdd, Nat.reduceLT, Nat.reduceLeDiff, Nat.reduceBEq, Nat.reduceEqDiff, Nat.succ_ne_zero, Nat.zero_lt_succ, Nat.le_refl, sc_rows, kc_lit, nc_lit, wlk_rows, uR_s, uR_uR, true_and, and_true, true_or, or_true, false_or, or_false, and_false, false_and, or_self, and_self, if_true, if_false, Bool.false_eq_true, Bool.or_false, Bool.or_true, Bool.false_or, Bool.true_or, not_true_eq_false, not_false_eq_true, forall_const, true_implies, false_implies, implies_true, ↓reduceIte, reduceCtorEq, fn0, eq_self, c1, e2, e99, e5, e21, nzL, k0 L]
    refine m_call g112 3 (21 + nI r) hE hpl (fun _ J113 g113 q113 => ?_) (fun cc => absurd cc (by rw [c2]; decide))
    have u113 := (u112).tr (FL.of q113)
    have t113 := hT.fl u113
    refine wk2 (fn0_ok l) ok_84 30 (fun pc => false) ?_
    simp only [kk_84, Option.toList_some, Option.toList_none, ex2, ex, catS, vC, isMk, sym2, popN, goC, callOK, swL, List.map_cons, List.map_nil, List.replicate_zero, List.replicate_succ, List.append_nil, List.nil_append, List.cons_append, List.getElem?_cons_zero, List.getElem?_cons_succ, List.set_cons_zero, List.set_cons_succ, List.length_cons, List.length_nil, List.head?_cons, Nat.reduceAdd, Nat.reduceLT, Nat.reduceLeDiff, Nat.reduceBEq, Nat.reduceEqDiff, Nat.succ_ne_zero, Nat.zero_lt_succ, Nat.le_refl, sc_rows, kc_lit, nc_lit, wlk_rows, uR_s, uR_uR, true_and, and_true, true_or, or_true, false_or, or_false, and_false, false_and, or_self, and_self, if_true, if_false, Bool.false_eq_true, Bool.or_false, Bool.or_true, Bool.false_or, Bool.true_or, not_true_eq_false, not_false_eq_true, forall_const, true_implies, false_implies, implies_true, ↓reduceIte, reduceCtorEq, fn0, eq_self, c2, e2, e99, e5, e21, nzL, k0 L]
    refine m_call g113 (nI r21) (nI r21) hE hpl (fun _ J114 g114 q114 => ?_) (fun cc => absurd cc (by rw [c3]; decide))
    have u114 := (u113).tr (FL.of q114)
    have t114 := hT.fl u114
    refine wk2 (fn0_ok l) ok_84 30 (fun pc => false) ?_
    simp only [kk_84, Option.toList_some, Option.toList_none, ex2, ex, catS, vC, isMk, sym2, popN, goC, callOK, swL, List.map_cons, List.map_nil, List.replicate_zero, List.replicate_succ, List.append_nil, List.nil_append, List.cons_append, List.getElem?_cons_zero, List.getElem?_cons_succ, List.set_cons_zero, List.set_cons_succ, List.length_cons, List.length_nil, List.head?_cons, Nat.reduceAdd, Nat.reduceLT, Nat.reduceLeDiff, Nat.reduceBEq, Nat.reduceEqDiff, Nat.succ_ne_zero, Nat.zero_lt_succ, Nat.le_refl, sc_rows, kc_lit, nc_lit, wlk_rows, uR_s, uR_uR, true_and, and_true, true_or, or_true, false_or, or_false, and_false, false_and, or_self, and_self, if_true, if_false, Bool.false_eq_true, Bool.or_false, Bool.or_true, Bool.false_or, Bool.true_or, not_true_eq_false, not_false_eq_true, forall_const, true_implies, false_implies, implies_true, ↓reduceIte, reduceCtorEq, fn0, eq_self, c3, e2, e99, e5, e21, nzL, k0 L]
    refine m_pass g114 1000 (fun cc => absurd cc (by rw [p1]; decide)) (fun _ J115 g115 q115 => ?_) (fun cc => absurd cc (by rw [p1]; decide))
    refine wk2 (fn0_ok l) ok_84 30 (fun pc => pc == 337) ?_
    simp only [kk_84, Option.toList_some, Option.toList_none, ex2, ex, catS, vC, isMk, sym2, popN, goC, callOK, swL, List.map_cons, List.map_nil, List.replicate_zero, List.replicate_succ, List.append_nil, List.nil_append, List.cons_append, List.getElem?_cons_zero, List.getElem?_cons_succ, List.set_cons_zero, List.set_cons_succ, List.length_cons, List.length_nil, List.head?_cons, Nat.reduceAdd, Nat.reduceLT, Nat.reduceLeDiff, Nat.reduceBEq, Nat.reduceEqDiff, Nat.succ_ne_zero, Nat.zero_lt_succ, Nat.le_refl, sc_rows, kc_lit, nc_lit, wlk_rows, uR_s, uR_uR, true_and, and_true, true_or, or_true, false_or, or_false, and_false, false_and, or_self, and_self, if_true, if_false, Bool.false_eq_true, Bool.or_false, Bool.or_true, Bool.false_or, Bool.true_or, not_true_eq_false, not_false_eq_true, forall_const, true_implies, false_implies, implies_true, ↓reduceIte, reduceCtorEq, fn0, eq_self, p1, e2, e99, e5, e21, nzL, k0 L]
    exact h1 J115 g115 ((u114).tr (FL.of q115))
  have hR2 := fR_ok (l := l) (L := L) g11 t11.1
  by_cases e15 : k = 15
  · have lt15 : (nI k < 15) = False := by rw [e15]; decide
    have j3 : whyJ z 3 = -3 := by unfold whyJ; rw [if_neg (by decide), if_neg (by decide), hkz, e15, if_pos (by decide)]
    refine wk2 hR2 ok_84 30 (fun pc => pc == 271) ?_
    simp only [kk_84, Option.toList_some, Option.toList_none, ex2, ex, catS, vC, isMk, sym2, popN, goC, callOK, swL, List.map_cons, List.map_nil, List.replicate_zero, List.replicate_succ, List.append_nil, List.nil_append, List.cons_append, List.getElem?_cons_zero, List.getElem?_cons_succ, List.set_cons_zero, List.set_cons_succ, List.length_cons, List.length_nil, List.head?_cons, Nat.reduceAdd, Nat.reduceLT, Nat.reduceLeDiff, Nat.reduceBEq, Nat.reduceEqDiff, Nat.succ_ne_zero, Nat.zero_lt_succ, Nat.le_refl, sc_rows, kc_lit, nc_lit, wlk_rows, uR_s, uR_uR, true_and, and_true, true_or, or_true, false_or, or_false, and_false, false_and, or_self, and_self, if_true, if_false, Bool.false_eq_true, Bool.or_false, Bool.or_true, Bool.false_or, Bool.true_or, not_true_eq_false, not_false_eq_true, forall_const, true_implies, false_implies, implies_true, ↓reduceIte, reduceCtorEq, fR, rd1, rd2, rd3, eq_self, j2, ansCo_s, lt15, e2, e99, e5, e21, nzL, k0 L]
    refine m_arrive g11 3 (fun _ J g q => ?_) (fun cc => absurd cc (by rw [j3]; decide))
    refine wk2 (fn0_ok l) ok_84 30 (fun pc => pc == 271) ?_
    simp only [kk_84, Option.toList_some, Option.toList_none, ex2, ex, catS, vC, isMk, sym2, popN, goC, callOK, swL, List.map_cons, List.map_nil, List.replicate_zero, List.replicate_succ, List.append_nil, List.nil_append, List.cons_append, List.getElem?_cons_zero, List.getElem?_cons_succ, List.set_cons_zero, List.set_cons_succ, List.length_cons, List.length_nil, List.head?_cons, Nat.reduceAdd, Nat.reduceLT, Nat.reduceLeDiff, Nat.reduceBEq, Nat.reduceEqDiff, Nat.succ_ne_zero, Nat.zero_lt_succ, Nat.le_refl, sc_rows, kc_lit, nc_lit, wlk_rows, uR_s, uR_uR, true_and, and_true, true_or, or_true, false_or, or_false, and_false, false_and, or_self, and_self, if_true, if_false, Bool.false_eq_true, Bool.or_false, Bool.or_true, Bool.false_or, Bool.true_or, not_true_eq_false, not_false_eq_true, forall_const, true_implies, false_implies, implies_true, ↓reduceIte, reduceCtorEq, fn0, eq_self, j3, e2, e99, e5, e21, nzL, k0 L]
    exact rest J g ((u11).tr (FL.of q))
  · have lt15 : (nI k < 15) = True := ltT (b := 15) (show k < 15 by omega) (by omega)
    refine wk2 hR2 ok_84 30 (fun pc => pc == 271) ?_
    simp only [kk_84, Option.toList_some, Option.toList_none, ex2, ex, catS, vC, isMk, sym2, popN, goC, callOK, swL, List.map_cons, List.map_nil, List.replicate_zero, List.replicate_succ, List.append_nil, List.nil_append, List.cons_append, List.getElem?_cons_zero, List.getElem?_cons_succ, List.set_cons_zero, List.set_cons_succ, List.length_cons, List.length_nil, List.head?_cons, Nat.reduceAdd, Nat.reduceLT, Nat.reduceLeDiff, Nat.reduceBEq, Nat.reduceEqDiff, Nat.succ_ne_zero, Nat.zero_lt_succ, Nat.le_refl, sc_rows, kc_lit, nc_lit, wlk_rows, uR_s, uR_uR, true_and, and_true, true_or, or_true, false_or, or_false, and_false, false_and, or_self, and_self, if_true, if_false, Bool.false_eq_true, Bool.or_false, Bool.or_true, Bool.false_or, Bool.true_or, not_true_eq_false, not_false_eq_true, forall_const, true_implies, false_implies, implies_true, ↓reduceIte, reduceCtorEq, fR, rd1, rd2, rd3, eq_self, j2, ansCo_s, lt15, e2, e99, e5, e21, nzL, k0 L]
    exact rest J11 g11 u11
set_option maxHeartbeats 1000000 in
set_option maxRecDepth 100000 in
theorem l_refo2 (h : CT I Q τ b z w a n m k) (hT : TXI I) (hP : PR z n) {bd : Nat} (hbd : bd + 20 ≤ 1000000) (hX : XW z bd) {x r : Nat} (hr : r < 99) (e2 : nI x - nI x / 2 * 2 = 1) (h1 : ∀ I' Q', CT I' Q' τ b z w a n m k → FL I I' → P (some (.int 1)) (SC L, I', Q')) : Sy l 84 (149, 1788) 337 [some (.ref 0), some (.int (nI x)), some (.int (1000 + nI r)), some (.int (21 + nI r)), some (.int (-1 - nI r)), some (.int 1)] [] (SC L, I, Q) P := by
  obtain ⟨-, ⟨hC, hM, hL⟩, -⟩ := id h
  have hk := hM.2.2.2.2.1
  obtain ⟨f1, f2⟩ := far_o hr
  have hrk := neg_rk hr
  have hfn := far_no hP f1
  have a1 : ansTx z n m (1000 + nI r) 0 = -1 := by exact ansTx_n hfn 0
  have a2 : ansLi z m (-1 - nI r) = -2 := by unfold ansLi; rw [if_pos hrk]
  have a3 : ansPl z n (-1 - nI r) = -2 := by unfold ansPl; rw [if_pos hrk]
  have a4 : ansWa z k (-1 - nI r) 0 = -2 := by unfold ansWa; rw [if_pos (Or.inl hrk)]
  have a5 : ansWa z k 0 2 = -2 := by unfold ansWa; rw [if_pos (Or.inr (by decide))]
  have n15 : ¬ (15 : Int32) < nI k := fun q => by have := (nI_ltI (a := 15) (b := k) (by omega) (by omega)).mp q; omega
  have a6 : ansWa z k 15 0 = -5 := by unfold ansWa; rw [if_neg (by decide), if_neg n15]
  have a7 : ansRi z n m (21 + nI r) = -1 := by unfold ansRi; rw [if_pos f2]
  have a8 : ansRi z n m 10 = -2 := by unfold ansRi; rw [if_neg (by decide), if_pos rfl]
  have a9 : ansIf z n m (21 + nI r) 3 9 = -1 := by unfold ansIf; rw [if_pos (fun q => f2 q.1)]
  have b1 : ansIf z n m 3 (21 + nI r) 9 = -1 := by unfold ansIf; rw [if_pos (fun q => f2 q.2)]
  have b2 : ansIf z n m 3 3 0 = -2 := by unfold ansIf; rw [if_neg (by decide), if_pos (Or.inl rfl)]
  have b3 : ansIf z n m 3 4 3 = -2 := by unfold ansIf; rw [if_neg (by decide), if_pos (by decide)]
  have b4 : ansRe z n m (1000 + nI r) 3 = -1 := by unfold ansRe; rw [hfn]
  have b5 : ansUn z k (-1 - nI r) = -1 := by unfold ansUn; rw [if_neg (fun q => absurd q.1 (Int32.not_le.mpr hrk))]
  have b6 : ansUn z k 15 = -1 := by unfold ansUn; rw [if_neg (fun q => n15 q.2)]
  have b7 : ansIn z n (1000 + nI r) = -1 := by unfold ansIn; rw [hfn]
  have b8 : ansSh z n 3 = -2 := by unfold ansSh; rw [if_pos (by decide)]
  have b9 : ansCo z n m k a 0 17 = -2 := by rfl
  have d1 : ∀ s1 s2, ansSt s1 s2 2 = -2 := fun s1 s2 => by unfold ansSt; rw [if_pos (by decide)]
  have hR := fR_ok (l := l) (L := L) h hT.1
  refine wk2 hR ok_84 150 (fun pc => false) ?_
  simp only [kk_84, Option.toList_some, Option.toList_none, ex2, ex, catS, vC, isMk, sym2, popN, goC, callOK, swL, List.map_cons, List.map_nil, List.replicate_zero, List.replicate_succ, List.append_nil, List.nil_append, List.cons_append, List.getElem?_cons_zero, List.getElem?_cons_succ, List.set_cons_zero, List.set_cons_succ, List.length_cons, List.length_nil, List.head?_cons, Nat.reduceAdd, Nat.reduceLT, Nat.reduceLeDiff, Nat.reduceBEq, Nat.reduceEqDiff, Nat.succ_ne_zero, Nat.zero_lt_succ, Nat.le_refl, sc_rows, kc_lit, nc_lit, wlk_rows, uR_s, uR_uR, true_and, and_true, true_or, or_true, false_or, or_false, and_false, false_and, or_self, and_self, if_true, if_false, Bool.false_eq_true, Bool.or_false, Bool.or_true, Bool.false_or, Bool.true_or, not_true_eq_false, not_false_eq_true, forall_const, true_implies, false_implies, implies_true, ↓reduceIte, reduceCtorEq, fR, rd1, rd2, rd3, eq_self, e2, nzL, k0 L, d1, a1, a2, a3, a4, a5, a6, a7, a8, a9, b1, b2, b3, b4, b5, b6, b7, b8, b9]
  refine m_ridesIn h (-1 - nI r) (fun J1 g1 q1 => ?_)
  have u1 := FL.of q1
  refine wk2 (fn0_ok l) ok_84 20 (fun pc => false) ?_
  simp only [kk_84, Option.toList_some, Option.toList_none, ex2, ex, catS, vC, isMk, sym2, popN, goC, callOK, swL, List.map_cons, List.map_nil, List.replicate_zero, List.replicate_succ, List.append_nil, List.nil_append, List.cons_append, List.getElem?_cons_zero, List.getElem?_cons_succ, List.set_cons_zero, List.set_cons_succ, List.length_cons, List.length_nil, List.head?_cons, Nat.reduceAdd, Nat.reduceLT, Nat.reduceLeDiff, Nat.reduceBEq, Nat.reduceEqDiff, Nat.succ_ne_zero, Nat.zero_lt_succ, Nat.le_refl, sc_rows, kc_lit, nc_lit, wlk_rows, uR_s, uR_uR, true_and, and_true, true_or, or_true, false_or, or_false, and_false, false_and, or_self, and_self, if_true, if_false, Bool.false_eq_true, Bool.or_false, Bool.or_true, Bool.false_or, Bool.true_or, not_true_eq_false, not_false_eq_true, forall_const, true_implies, false_implies, implies_true, ↓reduceIte, reduceCtorEq, fn0, eq_self, e2, nzL, k0 L, d1, a1, a2, a3, a4, a5, a6, a7, a8, a9, b1, b2, b3, b4, b5, b6, b7, b8, b9]
  refine m_ridesIn g1 15 (fun J2 g2 q2 => ?_)
  have u2 := u1.tr (FL.of q2)
  refine wk2 (fn0_ok l) ok_84 20 (fun pc => false) ?_
  simp only [kk_84, Option.toList_some, Option.toList_none, ex2, ex, catS, vC, isMk, sym2, popN, goC, callOK, swL, List.map_cons, List.map_nil, List.replicate_zero, List.replicate_succ, List.append_nil, List.nil_append, List.cons_append, List.getElem?_cons_zero, List.getElem?_cons_succ, List.set_cons_zero, List.set_cons_succ, List.length_cons, List.length_nil, List.head?_cons, Nat.reduceAdd, Nat.reduceLT, Nat.reduceLeDiff, Nat.reduceBEq, Nat.reduceEqDiff, Nat.succ_ne_zero, Nat.zero_lt_succ, Nat.le_refl, sc_rows, kc_lit, nc_lit, wlk_rows, uR_s, uR_uR, true_and, and_true, true_or, or_true, false_or, or_false, and_false, false_and, or_self, and_self, if_true, if_false, Bool.false_eq_true, Bool.or_false, Bool.or_true, Bool.false_or, Bool.true_or, not_true_eq_false, not_false_eq_true, forall_const, true_implies, false_implies, implies_true, ↓reduceIte, reduceCtorEq, fn0, eq_self, e2, nzL, k0 L, d1, a1, a2, a3, a4, a5, a6, a7, a8, a9, b1, b2, b3, b4, b5, b6, b7, b8, b9]
  refine m_inLineIn g2 (1000 + nI r) (fun J3 g3 q3 => ?_)
  have u3 := u2.tr (FL.of q3)
  have t3 := hT.fl u3
  have hR3 := fR_ok (l := l) (L := L) g3 t3.1
  refine wk2 hR3 ok_84 60 (fun pc => false) ?_
  simp only [kk_84, Option.toList_some, Option.toList_none, ex2, ex, catS, vC, isMk, sym2, popN, goC, callOK, swL, List.map_cons, List.map_nil, List.replicate_zero, List.replicate_succ, List.append_nil, List.nil_append, List.cons_append, List.getElem?_cons_zero, List.getElem?_cons_succ, List.set_cons_zero, List.set_cons_succ, List.length_cons, List.length_nil, List.head?_cons, Nat.reduceAdd, Nat.reduceLT, Nat.reduceLeDiff, Nat.reduceBEq, Nat.reduceEqDiff, Nat.succ_ne_zero, Nat.zero_lt_succ, Nat.le_refl, sc_rows, kc_lit, nc_lit, wlk_rows, uR_s, uR_uR, true_and, and_true, true_or, or_true, false_or, or_false, and_false, false_and, or_self, and_self, if_true, if_false, Bool.false_eq_true, Bool.or_false, Bool.or_true, Bool.false_or, Bool.true_or, not_true_eq_false, not_false_eq_true, forall_const, true_implies, false_implies, implies_true, ↓reduceIte, reduceCtorEq, fR, rd1, rd2, rd3, eq_self, e2, nzL, k0 L, d1, a1, a2, a3, a4, a5, a6, a7, a8, a9, b1, b2, b3, b4, b5, b6, b7, b8, b9]
  refine m_clear (ln := 0) t3.1 ?_
  rw [upd_0 t3.1, uR_self]
  refine wk2 (fn0_ok l) ok_84 20 (fun pc => false) ?_
  simp only [kk_84, Option.toList_some, Option.toList_none, ex2, ex, catS, vC, isMk, sym2, popN, goC, callOK, swL, List.map_cons, List.map_nil, List.replicate_zero, List.replicate_succ, List.append_nil, List.nil_append, List.cons_append, List.getElem?_cons_zero, List.getElem?_cons_succ, List.set_cons_zero, List.set_cons_succ, List.length_cons, List.length_nil, List.head?_cons, Nat.reduceAdd, Nat.reduceLT, Nat.reduceLeDiff, Nat.reduceBEq, Nat.reduceEqDiff, Nat.succ_ne_zero, Nat.zero_lt_succ, Nat.le_refl, sc_rows, kc_lit, nc_lit, wlk_rows, uR_s, uR_uR, true_and, and_true, true_or, or_true, false_or, or_false, and_false, false_and, or_self, and_self, if_true, if_false, Bool.false_eq_true, Bool.or_false, Bool.or_true, Bool.false_or, Bool.true_or, not_true_eq_false, not_false_eq_true, forall_const, true_implies, false_implies, implies_true, ↓reduceIte, reduceCtorEq, fn0, eq_self, show (nI 0 = 0) = True from eq_true rfl, e2, nzL, k0 L, d1, a1, a2, a3, a4, a5, a6, a7, a8, a9, b1, b2, b3, b4, b5, b6, b7, b8, b9]
  refine m_perform (ln := 0) g3 hbd hX t3.1 (by omega) t3.2.1 rfl rfl (fun y hy J4 Q4 g4 q4 q5 => ?_) (fun hy => ?_) (fun hy => ?_)
  · have ey : y = 0 := per_0 hy
    rw [ey]
    refine wk2 (fn0_ok l) ok_84 20 (fun pc => false) ?_
    simp only [kk_84, Option.toList_some, Option.toList_none, ex2, ex, catS, vC, isMk, sym2, popN, goC, callOK, swL, List.map_cons, List.map_nil, List.replicate_zero, List.replicate_succ, List.append_nil, List.nil_append, List.cons_append, List.getElem?_cons_zero, List.getElem?_cons_succ, List.set_cons_zero, List.set_cons_succ, List.length_cons, List.length_nil, List.head?_cons, Nat.reduceAdd, Nat.reduceLT, Nat.reduceLeDiff, Nat.reduceBEq, Nat.reduceEqDiff, Nat.succ_ne_zero, Nat.zero_lt_succ, Nat.le_refl, sc_rows, kc_lit, nc_lit, wlk_rows, uR_s, uR_uR, true_and, and_true, true_or, or_true, false_or, or_false, and_false, false_and, or_self, and_self, if_true, if_false, Bool.false_eq_true, Bool.or_false, Bool.or_true, Bool.false_or, Bool.true_or, not_true_eq_false, not_false_eq_true, forall_const, true_implies, false_implies, implies_true, ↓reduceIte, reduceCtorEq, fn0, eq_self, show ((-100 : Int32) - nI 0 = -100) = True by decide, e2, nzL, k0 L, d1, a1, a2, a3, a4, a5, a6, a7, a8, a9, b1, b2, b3, b4, b5, b6, b7, b8, b9]
    exact h1 J4 Q4 g4 (u3.tr ⟨q5, fun p hp => q4.1 p (by omega)⟩)
  · exact absurd hy per_n
  · exact absurd hy per_n
theorem l_refuses0 (h : CT I Q τ b z w a n m k) (hT : TXI I) (hP : PR z n) {bd c : Nat} (hE : EX z n k bd c) (hc : c ≤ 99999) (hbd : bd + 20 ≤ 1000000) {x : Nat} (hx : x < 2147483648) (h1 : ∀ I' Q', CT I' Q' τ b z w a n m k → FL I I' → P (some (.int 1)) (SC L, I', Q')) : Runs l 84 [.ref 0, .int (nI x)] (SC L, I, Q) P := by
  have hM := h.2.1.2.1
  have e11 : ix (z 11) = n := by rw [hM.n.1]; exact ix_nI (by have := hM.n.2; omega)
  have hX : XW z bd := ⟨⟨n, k, c, hM, hE, hc⟩, by rw [e11]; exact fun t ht => Int32.not_lt.mpr (hP.2 t ht).1⟩
  have e99 : nI x - nI x / 99 * 99 = nI (x % 99) := pk_rem (d := 99) hx (by omega) (by omega)
  have e5 : nI x - nI x / 5 * 5 = nI (x % 5) := pk_rem (d := 5) hx (by omega) (by omega)
  have e21 : nI x - nI x / 21 * 21 = nI (x % 21) := pk_rem (d := 21) hx (by omega) (by omega)
  have e2 : nI x - nI x / 2 * 2 = nI (x % 2) := pk_rem (d := 2) hx (by omega) (by omega)
  refine run0 (n := 4) mok_84 ⟨rfl, rfl⟩ rfl ?_
  rcases Nat.mod_two_eq_zero_or_one x with g | g
  · rw [g] at e2
    exact l_refe1 h hT hP hE (show x % 99 < 99 by omega) (show x % 5 < 5 by omega) (show x % 21 < 21 by omega) e2 e99 e5 e21 (fun I' g1 u1 => l_refe2 g1 (hT.fl u1) hP hbd hX (show x % 99 < 99 by omega) e2 (fun I2 Q2 g2 u2 => h1 I2 Q2 g2 (u1.tr u2)))
  · rw [g] at e2
    exact l_refo1 h hT hP hE (show x % 99 < 99 by omega) (show x % 5 < 5 by omega) (show x % 21 < 21 by omega) e2 e99 e5 e21 (fun I' g1 u1 => l_refo2 g1 (hT.fl u1) hP hbd hX (show x % 99 < 99 by omega) e2 (fun I2 Q2 g2 u2 => h1 I2 Q2 g2 (u1.tr u2)))
set_option maxRecDepth 100000 in
theorem l_refuses (h : CT I Q τ b z w a n m k) (hT : TXI I) (hP : PR z n) {bd c : Nat} (hE : EX z n k bd c) (hc : c ≤ 99999) (hbd : bd + 20 ≤ 1000000) {x : Nat} (hx : x < 2147483648) (h1 : ∀ I' Q', CT I' Q' τ b z w a n m k → FL I I' → P (some (.int 1)) (SC L, I', Q')) : Runs l 85 [.ref 0, .int (nI x)] (SC L, I, Q) P := by
  have hR := fR_ok (l := l) (L := L) h hT.1
  refine run0 (n := 3) mok_85 ⟨rfl, rfl⟩ rfl ?_
  refine wk2 (fn0_ok l) ok_85 5 (fun pc => false) ?_
  simp only [kk_85, Option.toList_some, Option.toList_none, ex2, ex, catS, vC, isMk, sym2, popN, goC, callOK, swL, List.map_cons, List.map_nil, List.replicate_zero, List.replicate_succ, List.append_nil, List.nil_append, List.cons_append, List.getElem?_cons_zero, List.getElem?_cons_succ, List.set_cons_zero, List.set_cons_succ, List.length_cons, List.length_nil, List.head?_cons, Nat.reduceAdd, Nat.reduceLT, Nat.reduceLeDiff, Nat.reduceBEq, Nat.reduceEqDiff, Nat.succ_ne_zero, Nat.zero_lt_succ, Nat.le_refl, sc_rows, kc_lit, nc_lit, wlk_rows, uR_s, uR_uR, true_and, and_true, true_or, or_true, false_or, or_false, and_false, false_and, or_self, and_self, if_true, if_false, Bool.false_eq_true, Bool.or_false, Bool.or_true, Bool.false_or, Bool.true_or, not_true_eq_false, not_false_eq_true, forall_const, true_implies, false_implies, implies_true, ↓reduceIte, reduceCtorEq, fn0, eq_self, k0 L]
  refine l_seen h hT.1 ?_
  refine wk2 hR ok_85 12 (fun pc => false) ?_
  simp only [kk_85, Option.toList_some, Option.toList_none, ex2, ex, catS, vC, isMk, sym2, popN, goC, callOK, swL, List.map_cons, List.map_nil, List.replicate_zero, List.replicate_succ, List.append_nil, List.nil_append, List.cons_append, List.getElem?_cons_zero, List.getElem?_cons_succ, List.set_cons_zero, List.set_cons_succ, List.length_cons, List.length_nil, List.head?_cons, Nat.reduceAdd, Nat.reduceLT, Nat.reduceLeDiff, Nat.reduceBEq, Nat.reduceEqDiff, Nat.succ_ne_zero, Nat.zero_lt_succ, Nat.le_refl, sc_rows, kc_lit, nc_lit, wlk_rows, uR_s, uR_uR, true_and, and_true, true_or, or_true, false_or, or_false, and_false, false_and, or_self, and_self, if_true, if_false, Bool.false_eq_true, Bool.or_false, Bool.or_true, Bool.false_or, Bool.true_or, not_true_eq_false, not_false_eq_true, forall_const, true_implies, false_implies, implies_true, ↓reduceIte, reduceCtorEq, fR, rd1, rd2, rd3, eq_self, ansCo_s, k0 L]
  refine l_refuses0 h hT hP hE hc hbd hx (fun I1 Q1 g1 u1 => ?_)
  refine wk2 (fn0_ok l) ok_85 12 (fun pc => false) ?_
  simp only [kk_85, Option.toList_some, Option.toList_none, ex2, ex, catS, vC, isMk, sym2, popN, goC, callOK, swL, List.map_cons, List.map_nil, List.replicate_zero, List.replicate_succ, List.append_nil, List.nil_append, List.cons_append, List.getElem?_cons_zero, List.getElem?_cons_succ, List.set_cons_zero, List.set_cons_succ, List.length_cons, List.length_nil, List.head?_cons, Nat.reduceAdd, Nat.reduceLT, Nat.reduceLeDiff, Nat.reduceBEq, Nat.reduceEqDiff, Nat.succ_ne_zero, Nat.zero_lt_succ, Nat.le_refl, sc_rows, kc_lit, nc_lit, wlk_rows, uR_s, uR_uR, true_and, and_true, true_or, or_true, false_or, or_false, and_false, false_and, or_self, and_self, if_true, if_false, Bool.false_eq_true, Bool.or_false, Bool.or_true, Bool.false_or, Bool.true_or, not_true_eq_false, not_false_eq_true, forall_const, true_implies, false_implies, implies_true, ↓reduceIte, reduceCtorEq, fn0, eq_self, nz_lit, k0 L]
  refine l_seen g1 (hT.fl u1).1 ?_
  have hR1 := fR_ok (l := l) (L := L) g1 (hT.fl u1).1
  refine wk2 hR1 ok_85 20 (fun pc => false) ?_
  simp only [kk_85, Option.toList_some, Option.toList_none, ex2, ex, catS, vC, isMk, sym2, popN, goC, callOK, swL, List.map_cons, List.map_nil, List.replicate_zero, List.replicate_succ, List.append_nil, List.nil_append, List.cons_append, List.getElem?_cons_zero, List.getElem?_cons_succ, List.set_cons_zero, List.set_cons_succ, List.length_cons, List.length_nil, List.head?_cons, Nat.reduceAdd, Nat.reduceLT, Nat.reduceLeDiff, Nat.reduceBEq, Nat.reduceEqDiff, Nat.succ_ne_zero, Nat.zero_lt_succ, Nat.le_refl, sc_rows, kc_lit, nc_lit, wlk_rows, uR_s, uR_uR, true_and, and_true, true_or, or_true, false_or, or_false, and_false, false_and, or_self, and_self, if_true, if_false, Bool.false_eq_true, Bool.or_false, Bool.or_true, Bool.false_or, Bool.true_or, not_true_eq_false, not_false_eq_true, forall_const, true_implies, false_implies, implies_true, ↓reduceIte, reduceCtorEq, fR, rd1, rd2, rd3, eq_self, lg_rf, ansCo_s, nz_lit, k0 L]
  exact h1 I1 Q1 g1 u1
end REF
