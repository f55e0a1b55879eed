/-! the reference: a minute -/
theorem upd_upd (z : Nat → Int32) (k : Nat) (v w : Int32) : upd (upd z k v) k w = upd z k w := by
  funext j
  by_cases h : j = k <;> simp [upd, h]
theorem upd_id (z : Nat → Int32) (k : Nat) : upd z k (z k) = z := by
  funext j
  by_cases h : j = k <;> simp [upd, h]
section T9
variable {l : Launch} {L : Nat} {I : Nat → Nat → Int32} {Q : Nat → Nat → Option Nat} {P : Option Value → PH → Prop} {z y : Nat → Int32}
theorem MV.n {n k : Nat} (h : MV z n k) : z 11 = nI n ∧ n ≤ 12 := by obtain ⟨⟨m, hl⟩, -⟩ := h; exact ⟨hl.1, hl.2.1⟩
theorem zTs_inv {n k : Nat} (h : MV z n k) : ∀ i, i ≤ n → MV (zTs z i) n k := by
  intro i
  induction i with
  | zero => intro _; exact h
  | succ i ih => intro hi; exact (ih (by omega)).tick (by omega)
set_option maxRecDepth 100000 in
theorem min_1 (hQ : QM Q) {n k : Nat} (h : MV z n k) (h1 : ∀ a2, Sy l 113 (156, 3525) 128 [some (.ref 149), some (.int (nI n)), a2] [] (SC L, uR (uR I 149 y) 150 (zTs z n), Q) P) : ∀ d i a2, i + d = n → Sy l 113 (156, 3525) 12 [some (.ref 149), some (.int (nI i)), a2] [] (SC L, uR (uR I 149 y) 150 (zTs z i), Q) P := by
  intro d
  induction d with
  | zero =>
    intro i a2 hi
    have : i = n := by omega
    subst this
    have e11 := (zTs_inv h i (Nat.le_refl i)).n.1
    have hn := h.n.2
    refine wk (fn3_ok l L) ok_113 30 (fun pc => pc == 128) ?_
    simp only [fn3, kk_113, Option.toList_some, Option.toList_none, ex, sym, popN, goC, callOK, swL, List.map_cons, List.map_nil, List.replicate_zero, List.replicate_succ, List.append_nil, List.nil_append, List.cons_append, List.getElem?_cons_zero, List.getElem?_cons_succ, List.set_cons_zero, List.set_cons_succ, List.length_cons, List.length_nil, List.head?_cons, Nat.reduceAdd, Nat.reduceLT, Nat.reduceLeDiff, Nat.reduceBEq, Nat.reduceEqDiff, Nat.succ_ne_zero, Nat.zero_lt_succ, Nat.le_refl, sc_rows, kc_lit, nc_lit, wlk_rows, uR_s, uR_uR, true_and, and_true, true_or, or_true, false_or, or_false, and_false, false_and, or_self, and_self, if_true, if_false, Bool.false_eq_true, Bool.or_false, Bool.or_true, Bool.false_or, Bool.true_or, not_true_eq_false, not_false_eq_true, forall_const, true_implies, false_implies, implies_true, reduceIte, reduceCtorEq, hQ.1, e11, leT (Nat.le_refl i) (show i < 2147483648 by omega), fA_in, fA_size, fA_of, fA_lay, fA_tally, fA_waits, MOKh_eq, setZ_eq, ix_lit, in_lit, lt_lit, cl_lit, nz_lit, fn1, fn2, fA_stays, fA_tired, fA_begin, fA_fare, fA_place, fA_may]
    exact h1 a2
  | succ d ih =>
    intro i a2 hi
    have hI := zTs_inv h i (by omega)
    obtain ⟨e11, hn⟩ := hI.n
    generalize hw : zTs z i = w at hI e11
    have hnext : zTs z (i + 1) = zTick w i := by rw [← hw]; rfl
    have ih' := fun a2 => ih (i + 1) a2 (by omega)
    rw [hnext] at ih'
    unfold zTick at ih'
    refine wk (fn3_ok l L) ok_113 100 (fun pc => pc == 12) ?_
    simp only [fn3, kk_113, Option.toList_some, Option.toList_none, ex, sym, popN, goC, callOK, swL, List.map_cons, List.map_nil, List.replicate_zero, List.replicate_succ, List.append_nil, List.nil_append, List.cons_append, List.getElem?_cons_zero, List.getElem?_cons_succ, List.set_cons_zero, List.set_cons_succ, List.length_cons, List.length_nil, List.head?_cons, Nat.reduceAdd, Nat.reduceLT, Nat.reduceLeDiff, Nat.reduceBEq, Nat.reduceEqDiff, Nat.succ_ne_zero, Nat.zero_lt_succ, Nat.le_refl, sc_rows, kc_lit, nc_lit, wlk_rows, uR_s, uR_uR, true_and, and_true, true_or, or_true, false_or, or_false, and_false, false_and, or_self, and_self, if_true, if_false, Bool.false_eq_true, Bool.or_false, Bool.or_true, Bool.false_or, Bool.true_or, not_true_eq_false, not_false_eq_true, forall_const, true_implies, false_implies, implies_true, reduceIte, reduceCtorEq, hQ.1, hQ, e11, leF (show i < n by omega) (show n < 2147483648 by omega), smI (show i < 2147483648 by omega), show i < 12 by omega, b2_0, b2_n0, nI_up, upd_tp, upd_tpS, upd_S, upd_e, nz_lit, Decidable.not_not, fA_in, fA_size, fA_of, fA_lay, fA_tally, fA_waits, MOKh_eq, setZ_eq, ix_lit, in_lit, lt_lit, cl_lit, nz_lit, fn1, fn2, fA_stays, fA_tired, fA_begin, fA_fare, fA_place, fA_may]
    have fin : ∀ g : 1 ≤ w (tp i 1) ∧ w (tp i 1) ≤ 4, ∀ a2, (w (tp i 2) - 1 = 0 → Runs l 110 [.ref 149, .int (nI i)] (SC L, uR (uR I 149 y) 150 (zT1 w i), Q) (fun v h' => Sy l 113 (156, 3525) 122 [some (.ref 149), some (.int (nI i)), some (.int a2)] v.toList h' P)) ∧ (¬ w (tp i 2) - 1 = 0 → Sy l 113 (156, 3525) 12 [some (.ref 149), some (.int (nI (i + 1))), some (.int a2)] [] (SC L, uR (uR I 149 y) 150 (zT1 w i), Q) P) := by
      intro g a2
      refine ⟨fun g2 => ?_, fun g2 => ?_⟩
      · obtain ⟨⟨m, hl⟩, ht, hs, -⟩ := hI
        have hd : ¬ w (tp i 1) = 0 := fun q => by rw [q] at g; exact absurd g.1 (by decide)
        have hX : LnX (zT1 w i) n m i := fld_same (LnX.out hl (by omega) hd) (by rw [zT1_t w i 0 (by omega)]; simp) (fun j u hu hj => by rw [zT1_t w j u hu, if_neg hj]) (fun k a b => by rw [zT1_o w (by omega), if_neg (by omega)])
        have hm : m < 12 := by have := hX.lt (by omega); omega
        refine rz_end hQ (n := n) (m := m) hX.1 hn hX.2.2.1 hm hX.ok (by omega) ?_
        simp only [Option.toList_some, Option.toList_none, ex, sym, popN, goC, callOK, swL, List.map_cons, List.map_nil, List.replicate_zero, List.replicate_succ, List.append_nil, List.nil_append, List.cons_append, List.getElem?_cons_zero, List.getElem?_cons_succ, List.set_cons_zero, List.set_cons_succ, List.length_cons, List.length_nil, List.head?_cons, Nat.reduceAdd, Nat.reduceLT, Nat.reduceLeDiff, Nat.reduceBEq, Nat.reduceEqDiff, Nat.succ_ne_zero, Nat.zero_lt_succ, Nat.le_refl, sc_rows, kc_lit, nc_lit, wlk_rows, uR_s, uR_uR, true_and, and_true, true_or, or_true, false_or, or_false, and_false, false_and, or_self, and_self, if_true, if_false, Bool.false_eq_true, Bool.or_false, Bool.or_true, Bool.false_or, Bool.true_or, not_true_eq_false, not_false_eq_true, forall_const, true_implies, false_implies, implies_true, reduceIte, reduceCtorEq]
        refine wk (fn3_ok l L) ok_113 10 (fun pc => pc == 12) ?_
        simp only [fn3, kk_113, Option.toList_some, Option.toList_none, ex, sym, popN, goC, callOK, swL, List.map_cons, List.map_nil, List.replicate_zero, List.replicate_succ, List.append_nil, List.nil_append, List.cons_append, List.getElem?_cons_zero, List.getElem?_cons_succ, List.set_cons_zero, List.set_cons_succ, List.length_cons, List.length_nil, List.head?_cons, Nat.reduceAdd, Nat.reduceLT, Nat.reduceLeDiff, Nat.reduceBEq, Nat.reduceEqDiff, Nat.succ_ne_zero, Nat.zero_lt_succ, Nat.le_refl, sc_rows, kc_lit, nc_lit, wlk_rows, uR_s, uR_uR, true_and, and_true, true_or, or_true, false_or, or_false, and_false, false_and, or_self, and_self, if_true, if_false, Bool.false_eq_true, Bool.or_false, Bool.or_true, Bool.false_or, Bool.true_or, not_true_eq_false, not_false_eq_true, forall_const, true_implies, false_implies, implies_true, reduceIte, reduceCtorEq, hQ.1, nI_up, fA_in, fA_size, fA_of, fA_lay, fA_tally, fA_waits, MOKh_eq, setZ_eq, ix_lit, in_lit, lt_lit, cl_lit, nz_lit, fn1, fn2, fA_stays, fA_tired, fA_begin, fA_fare, fA_place, fA_may]
        have := ih' (some (.int a2))
        rw [if_pos g, if_pos g2, hl.1, hl.2.2.1, ix_nI (by omega), ix_nI (by omega)] at this
        exact this
      · have := ih' (some (.int a2))
        rw [if_pos g, if_neg g2] at this
        exact this
    refine ⟨fun g => ?_, fun g => ⟨fun g4 => ?_, fun g4 => ?_⟩⟩
    · have := ih' a2
      rw [if_neg g] at this
      exact this
    · have := fin g 0
      have e0 : b2 (¬ w (tp i 1) = 4) = 0 := b2_f (fun q => q g4)
      simp only [zT1, e0] at this
      exact ⟨this.2, this.1⟩
    · have := fin g 1
      have e0 : b2 (¬ w (tp i 1) = 4) = 1 := b2_t g4
      simp only [zT1, e0] at this
      exact ⟨this.2, this.1⟩
set_option maxRecDepth 100000 in
theorem min_2 (hQ : QM Q) {n : Nat} : ∀ r k a2 (z : Nat → Int32), MV z n k → r ≤ k → (∀ a2, Sy l 113 (156, 3525) 186 [some (.ref 149), some (.int (-1)), a2] [] (SC L, uR (uR I 149 y) 150 (zDis z r), Q) P) → Sy l 113 (156, 3525) 138 [some (.ref 149), some (.int (nI r + (-1))), a2] [] (SC L, uR (uR I 149 y) 150 z, Q) P := by
  intro r
  induction r with
  | zero =>
    intro k a2 z h _ h1
    have e1 : nI 0 + (-1) = -1 := by decide
    have e2 : ((-1 : Int32) < 0) = True := by decide
    rw [e1]
    refine wk (fn3_ok l L) ok_113 30 (fun pc => pc == 186) ?_
    simp only [fn3, kk_113, Option.toList_some, Option.toList_none, ex, sym, popN, goC, callOK, swL, List.map_cons, List.map_nil, List.replicate_zero, List.replicate_succ, List.append_nil, List.nil_append, List.cons_append, List.getElem?_cons_zero, List.getElem?_cons_succ, List.set_cons_zero, List.set_cons_succ, List.length_cons, List.length_nil, List.head?_cons, Nat.reduceAdd, Nat.reduceLT, Nat.reduceLeDiff, Nat.reduceBEq, Nat.reduceEqDiff, Nat.succ_ne_zero, Nat.zero_lt_succ, Nat.le_refl, sc_rows, kc_lit, nc_lit, wlk_rows, uR_s, uR_uR, true_and, and_true, true_or, or_true, false_or, or_false, and_false, false_and, or_self, and_self, if_true, if_false, Bool.false_eq_true, Bool.or_false, Bool.or_true, Bool.false_or, Bool.true_or, not_true_eq_false, not_false_eq_true, forall_const, true_implies, false_implies, implies_true, reduceIte, reduceCtorEq, e2, fA_in, fA_size, fA_of, fA_lay, fA_tally, fA_waits, MOKh_eq, setZ_eq, ix_lit, in_lit, lt_lit, cl_lit, nz_lit, fn1, fn2, fA_stays, fA_tired, fA_begin, fA_fare, fA_place, fA_may]
    exact h1 a2
  | succ r ih =>
    intro k a2 z h hr h1
    have hk := h.2.2.2.2.1
    have e13 : ix (z 13) = k := by rw [h.2.2.2.1]; exact ix_nI (by omega)
    obtain ⟨k', hk', hrk⟩ := h.ds (r := r) (by omega)
    have next := fun a2 => ih k' a2 (zDs z r) hk' hrk h1
    rw [pk_m1]
    unfold zDs at next
    refine wk (fn3_ok l L) ok_113 60 (fun pc => pc == 138) ?_
    simp only [fn3, kk_113, Option.toList_some, Option.toList_none, ex, sym, popN, goC, callOK, swL, List.map_cons, List.map_nil, List.replicate_zero, List.replicate_succ, List.append_nil, List.nil_append, List.cons_append, List.getElem?_cons_zero, List.getElem?_cons_succ, List.set_cons_zero, List.set_cons_succ, List.length_cons, List.length_nil, List.head?_cons, Nat.reduceAdd, Nat.reduceLT, Nat.reduceLeDiff, Nat.reduceBEq, Nat.reduceEqDiff, Nat.succ_ne_zero, Nat.zero_lt_succ, Nat.le_refl, sc_rows, kc_lit, nc_lit, wlk_rows, uR_s, uR_uR, true_and, and_true, true_or, or_true, false_or, or_false, and_false, false_and, or_self, and_self, if_true, if_false, Bool.false_eq_true, Bool.or_false, Bool.or_true, Bool.false_or, Bool.true_or, not_true_eq_false, not_false_eq_true, forall_const, true_implies, false_implies, implies_true, reduceIte, reduceCtorEq, hQ.1, hQ, smI (show r < 2147483648 by omega), show r < 15 by omega, fA_in, fA_size, fA_of, fA_lay, fA_tally, fA_waits, MOKh_eq, setZ_eq, ix_lit, in_lit, lt_lit, cl_lit, nz_lit, fn1, fn2, fA_stays, fA_tired, fA_begin, fA_fare, fA_place, fA_may]
    refine ⟨fun g => ?_, fun g => ?_⟩
    · have := next a2
      rw [if_neg (Int32.not_le.mpr g)] at this
      exact this
    · have := next a2
      rw [if_pos (Int32.not_lt.mp g), e13] at this
      refine rz_goes hQ (k := k) h.2.2.2.1 hk (by omega) ?_
      simp only [Option.toList_some, Option.toList_none, ex, sym, popN, goC, callOK, swL, List.map_cons, List.map_nil, List.replicate_zero, List.replicate_succ, List.append_nil, List.nil_append, List.cons_append, List.getElem?_cons_zero, List.getElem?_cons_succ, List.set_cons_zero, List.set_cons_succ, List.length_cons, List.length_nil, List.head?_cons, Nat.reduceAdd, Nat.reduceLT, Nat.reduceLeDiff, Nat.reduceBEq, Nat.reduceEqDiff, Nat.succ_ne_zero, Nat.zero_lt_succ, Nat.le_refl, sc_rows, kc_lit, nc_lit, wlk_rows, uR_s, uR_uR, true_and, and_true, true_or, or_true, false_or, or_false, and_false, false_and, or_self, and_self, if_true, if_false, Bool.false_eq_true, Bool.or_false, Bool.or_true, Bool.false_or, Bool.true_or, not_true_eq_false, not_false_eq_true, forall_const, true_implies, false_implies, implies_true, reduceIte, reduceCtorEq]
      refine wk (fn3_ok l L) ok_113 60 (fun pc => pc == 138) ?_
      simp only [fn3, kk_113, Option.toList_some, Option.toList_none, ex, sym, popN, goC, callOK, swL, List.map_cons, List.map_nil, List.replicate_zero, List.replicate_succ, List.append_nil, List.nil_append, List.cons_append, List.getElem?_cons_zero, List.getElem?_cons_succ, List.set_cons_zero, List.set_cons_succ, List.length_cons, List.length_nil, List.head?_cons, Nat.reduceAdd, Nat.reduceLT, Nat.reduceLeDiff, Nat.reduceBEq, Nat.reduceEqDiff, Nat.succ_ne_zero, Nat.zero_lt_succ, Nat.le_refl, sc_rows, kc_lit, nc_lit, wlk_rows, uR_s, uR_uR, true_and, and_true, true_or, or_true, false_or, or_false, and_false, false_and, or_self, and_self, if_true, if_false, Bool.false_eq_true, Bool.or_false, Bool.or_true, Bool.false_or, Bool.true_or, not_true_eq_false, not_false_eq_true, forall_const, true_implies, false_implies, implies_true, reduceIte, reduceCtorEq, hQ.1, hQ, zGoes_o z hk (show 7 < 27 ∧ 7 ≠ 13 by omega), fA_in, fA_size, fA_of, fA_lay, fA_tally, fA_waits, MOKh_eq, setZ_eq, ix_lit, in_lit, lt_lit, cl_lit, nz_lit, fn1, fn2, fA_stays, fA_tired, fA_begin, fA_fare, fA_place, fA_may]
      exact this
set_option maxRecDepth 100000 in
theorem min_3 (hQ : QM Q) {n : Nat} : ∀ d r k a2 (z y : Nat → Int32), MV z n k → r + d = k → (P none (SC L, uR (uR I 149 (upd y 11 (seat (y 10) d z (y 11) r).2)) 150 (seat (y 10) d z (y 11) r).1, Q)) → Sy l 113 (156, 3525) 188 [some (.ref 149), some (.int (nI r)), a2] [] (SC L, uR (uR I 149 y) 150 z, Q) P := by
  intro d
  induction d with
  | zero =>
    intro r k a2 z y h hr h1
    have hk := h.2.2.2.2.1
    have e : r = k := by omega
    subst e
    refine wk (fn3_ok l L) ok_113 30 (fun pc => false) ?_
    simp only [fn3, kk_113, Option.toList_some, Option.toList_none, ex, sym, popN, goC, callOK, swL, List.map_cons, List.map_nil, List.replicate_zero, List.replicate_succ, List.append_nil, List.nil_append, List.cons_append, List.getElem?_cons_zero, List.getElem?_cons_succ, List.set_cons_zero, List.set_cons_succ, List.length_cons, List.length_nil, List.head?_cons, Nat.reduceAdd, Nat.reduceLT, Nat.reduceLeDiff, Nat.reduceBEq, Nat.reduceEqDiff, Nat.succ_ne_zero, Nat.zero_lt_succ, Nat.le_refl, sc_rows, kc_lit, nc_lit, wlk_rows, uR_s, uR_uR, true_and, and_true, true_or, or_true, false_or, or_false, and_false, false_and, or_self, and_self, if_true, if_false, Bool.false_eq_true, Bool.or_false, Bool.or_true, Bool.false_or, Bool.true_or, not_true_eq_false, not_false_eq_true, forall_const, true_implies, false_implies, implies_true, reduceIte, reduceCtorEq, hQ.1, h.2.2.2.1, leT (Nat.le_refl r) (show r < 2147483648 by omega), fA_in, fA_size, fA_of, fA_lay, fA_tally, fA_waits, MOKh_eq, setZ_eq, ix_lit, in_lit, lt_lit, cl_lit, nz_lit, fn1, fn2, fA_stays, fA_tired, fA_begin, fA_fare, fA_place, fA_may]
    simp only [seat, upd_id] at h1
    exact h1
  | succ d ih =>
    intro r k a2 z y h hr h1
    have hk := h.2.2.2.2.1
    obtain ⟨⟨m, hl⟩, -⟩ := id h
    have hm : m ≤ 12 := hl.2.2.2.2.2.2.2
    have hn := hl.2.1
    have e11 : ix (z 11) = n := by rw [hl.1]; exact ix_nI (by omega)
    have e12 : ix (z 12) = m := by rw [hl.2.2.1]; exact ix_nI (by omega)
    have e13 : ix (z 13) = k := by rw [h.2.2.2.1]; exact ix_nI (by omega)
    simp only [seat, e11, e12] at h1
    refine wk (fn3_ok l L) ok_113 60 (fun pc => pc == 188) ?_
    simp only [fn3, kk_113, Option.toList_some, Option.toList_none, ex, sym, popN, goC, callOK, swL, List.map_cons, List.map_nil, List.replicate_zero, List.replicate_succ, List.append_nil, List.nil_append, List.cons_append, List.getElem?_cons_zero, List.getElem?_cons_succ, List.set_cons_zero, List.set_cons_succ, List.length_cons, List.length_nil, List.head?_cons, Nat.reduceAdd, Nat.reduceLT, Nat.reduceLeDiff, Nat.reduceBEq, Nat.reduceEqDiff, Nat.succ_ne_zero, Nat.zero_lt_succ, Nat.le_refl, sc_rows, kc_lit, nc_lit, wlk_rows, uR_s, uR_uR, true_and, and_true, true_or, or_true, false_or, or_false, and_false, false_and, or_self, and_self, if_true, if_false, Bool.false_eq_true, Bool.or_false, Bool.or_true, Bool.false_or, Bool.true_or, not_true_eq_false, not_false_eq_true, forall_const, true_implies, false_implies, implies_true, reduceIte, reduceCtorEq, hQ.1, hQ, h.2.2.2.1, leF (show r < k by omega) (show k < 2147483648 by omega), smI (show r < 2147483648 by omega), show r < 15 by omega, Nat.add_zero, fA_in, fA_size, fA_of, fA_lay, fA_tally, fA_waits, MOKh_eq, setZ_eq, ix_lit, in_lit, lt_lit, cl_lit, nz_lit, fn1, fn2, fA_stays, fA_tired, fA_begin, fA_fare, fA_place, fA_may]
    refine rz_riderTo hQ hl.1 hn hl.2.2.1 hm hl.ok _ ?_
    cases hrd : rider z n m (z (27 + 3 * r)) with
    | none =>
      rw [hrd] at h1
      refine wk (fn3_ok l L) ok_113 60 (fun pc => pc == 188) ?_
      simp only [fn3, kk_113, Option.toList_some, Option.toList_none, ex, sym, popN, goC, callOK, swL, List.map_cons, List.map_nil, List.replicate_zero, List.replicate_succ, List.append_nil, List.nil_append, List.cons_append, List.getElem?_cons_zero, List.getElem?_cons_succ, List.set_cons_zero, List.set_cons_succ, List.length_cons, List.length_nil, List.head?_cons, Nat.reduceAdd, Nat.reduceLT, Nat.reduceLeDiff, Nat.reduceBEq, Nat.reduceEqDiff, Nat.succ_ne_zero, Nat.zero_lt_succ, Nat.le_refl, sc_rows, kc_lit, nc_lit, wlk_rows, uR_s, uR_uR, true_and, and_true, true_or, or_true, false_or, or_false, and_false, false_and, or_self, and_self, if_true, if_false, Bool.false_eq_true, Bool.or_false, Bool.or_true, Bool.false_or, Bool.true_or, not_true_eq_false, not_false_eq_true, forall_const, true_implies, false_implies, implies_true, reduceIte, reduceCtorEq, hQ.1, hQ, fv, nI_up, fA_in, fA_size, fA_of, fA_lay, fA_tally, fA_waits, MOKh_eq, setZ_eq, ix_lit, in_lit, lt_lit, cl_lit, nz_lit, fn1, fn2, fA_stays, fA_tired, fA_begin, fA_fare, fA_place, fA_may]
      exact ih (r + 1) k _ z y h (by omega) h1
    | some t =>
      rw [hrd] at h1
      obtain ⟨t1, t2, t3, t4⟩ := rider_in hl hrd
      refine wk (fn3_ok l L) ok_113 60 (fun pc => pc == 188) ?_
      simp only [fn3, kk_113, Option.toList_some, Option.toList_none, ex, sym, popN, goC, callOK, swL, List.map_cons, List.map_nil, List.replicate_zero, List.replicate_succ, List.append_nil, List.nil_append, List.cons_append, List.getElem?_cons_zero, List.getElem?_cons_succ, List.set_cons_zero, List.set_cons_succ, List.length_cons, List.length_nil, List.head?_cons, Nat.reduceAdd, Nat.reduceLT, Nat.reduceLeDiff, Nat.reduceBEq, Nat.reduceEqDiff, Nat.succ_ne_zero, Nat.zero_lt_succ, Nat.le_refl, sc_rows, kc_lit, nc_lit, wlk_rows, uR_s, uR_uR, true_and, and_true, true_or, or_true, false_or, or_false, and_false, false_and, or_self, and_self, if_true, if_false, Bool.false_eq_true, Bool.or_false, Bool.or_true, Bool.false_or, Bool.true_or, not_true_eq_false, not_false_eq_true, forall_const, true_implies, false_implies, implies_true, reduceIte, reduceCtorEq, hQ.1, hQ, fv, n5F (show t < 2147483648 by omega), smI (show r < 2147483648 by omega), show r < 15 by omega, Nat.add_zero, fA_in, fA_size, fA_of, fA_lay, fA_tally, fA_waits, MOKh_eq, setZ_eq, ix_lit, in_lit, lt_lit, cl_lit, nz_lit, fn1, fn2, fA_stays, fA_tired, fA_begin, fA_fare, fA_place, fA_may]
      have hU : ∀ p, p < m → z (15 + p) = z (tp t 0) → p = plF z (z (tp t 0)) m := fun p hp he => by
        obtain ⟨a, b⟩ := plF_ok z (z (tp t 0)) m t4
        exact hl.2.2.2.2.2.2.1 p _ hp a (he.trans b.symm)
      refine rz_takeFare hQ hl.2.2.1 hm (by omega) _ _ _ (fun p hp he => ?_) (fun hno => ?_)
      · obtain rfl := hU p hp he
        simp only [Option.toList_some, Option.toList_none, ex, sym, popN, goC, callOK, swL, List.map_cons, List.map_nil, List.replicate_zero, List.replicate_succ, List.append_nil, List.nil_append, List.cons_append, List.getElem?_cons_zero, List.getElem?_cons_succ, List.set_cons_zero, List.set_cons_succ, List.length_cons, List.length_nil, List.head?_cons, Nat.reduceAdd, Nat.reduceLT, Nat.reduceLeDiff, Nat.reduceBEq, Nat.reduceEqDiff, Nat.succ_ne_zero, Nat.zero_lt_succ, Nat.le_refl, sc_rows, kc_lit, nc_lit, wlk_rows, uR_s, uR_uR, true_and, and_true, true_or, or_true, false_or, or_false, and_false, false_and, or_self, and_self, if_true, if_false, Bool.false_eq_true, Bool.or_false, Bool.or_true, Bool.false_or, Bool.true_or, not_true_eq_false, not_false_eq_true, forall_const, true_implies, false_implies, implies_true, reduceIte, reduceCtorEq]
        refine wk (fn3_ok l L) ok_113 10 (fun pc => false) ?_
        simp only [fn3, kk_113, Option.toList_some, Option.toList_none, ex, sym, popN, goC, callOK, swL, List.map_cons, List.map_nil, List.replicate_zero, List.replicate_succ, List.append_nil, List.nil_append, List.cons_append, List.getElem?_cons_zero, List.getElem?_cons_succ, List.set_cons_zero, List.set_cons_succ, List.length_cons, List.length_nil, List.head?_cons, Nat.reduceAdd, Nat.reduceLT, Nat.reduceLeDiff, Nat.reduceBEq, Nat.reduceEqDiff, Nat.succ_ne_zero, Nat.zero_lt_succ, Nat.le_refl, sc_rows, kc_lit, nc_lit, wlk_rows, uR_s, uR_uR, true_and, and_true, true_or, or_true, false_or, or_false, and_false, false_and, or_self, and_self, if_true, if_false, Bool.false_eq_true, Bool.or_false, Bool.or_true, Bool.false_or, Bool.true_or, not_true_eq_false, not_false_eq_true, forall_const, true_implies, false_implies, implies_true, reduceIte, reduceCtorEq, fA_in, fA_size, fA_of, fA_lay, fA_tally, fA_waits, MOKh_eq, setZ_eq, ix_lit, in_lit, lt_lit, cl_lit, nz_lit, fn1, fn2, fA_stays, fA_tired, fA_begin, fA_fare, fA_place, fA_may]
        refine rz_ride hQ (by omega) ?_
        have hoff : zRide (zFare (zLeave z t (plF z (z (tp t 0)) m) m) t 10 (z (27 + 3 * r)) 1) t = zOff z t m (z (27 + 3 * r)) := rfl
        rw [hoff]
        have hM1 := h.off hl t1 t4 (h.2.2.2.2.2 r (by omega))
        have ew : zOff z t m (z (27 + 3 * r)) (27 + 3 * r + 2) = z (27 + 3 * r + 2) := by rw [zOff_o z hm hp (by omega), if_neg (by omega)]
        have esit : zGoes (zOff z t m (z (27 + 3 * r))) r k = zSit z t r := by simp only [zSit, e12, e13]
        have hM2 := h.sit hl (show r < k by omega) hrd
        have go : ∀ hr' : Int32, hr' = b2 (¬ y 11 = 0 ∨ z (27 + 3 * r + 2) = y 10) → Sy l 113 (156, 3525) 188 [some (.ref 149), some (.int (nI r)), some (.int (nI t))] [] (SC L, uR (uR I 149 (upd y 11 hr')) 150 (zSit z t r), Q) P := by
          intro hr' e
          refine ih r (k - 1) _ _ _ hM2 (by omega) ?_
          rw [upd_upd, upd_n _ _ (by omega), upd_e, e]
          exact h1
        refine wk (fn3_ok l L) ok_113 40 (fun pc => pc == 188) ?_
        simp only [fn3, kk_113, Option.toList_some, Option.toList_none, ex, sym, popN, goC, callOK, swL, List.map_cons, List.map_nil, List.replicate_zero, List.replicate_succ, List.append_nil, List.nil_append, List.cons_append, List.getElem?_cons_zero, List.getElem?_cons_succ, List.set_cons_zero, List.set_cons_succ, List.length_cons, List.length_nil, List.head?_cons, Nat.reduceAdd, Nat.reduceLT, Nat.reduceLeDiff, Nat.reduceBEq, Nat.reduceEqDiff, Nat.succ_ne_zero, Nat.zero_lt_succ, Nat.le_refl, sc_rows, kc_lit, nc_lit, wlk_rows, uR_s, uR_uR, true_and, and_true, true_or, or_true, false_or, or_false, and_false, false_and, or_self, and_self, if_true, if_false, Bool.false_eq_true, Bool.or_false, Bool.or_true, Bool.false_or, Bool.true_or, not_true_eq_false, not_false_eq_true, forall_const, true_implies, false_implies, implies_true, reduceIte, reduceCtorEq, hQ.1, hQ, uR_149, uR_r149, smI (show r < 2147483648 by omega), show r < 15 by omega, ew, fA_in, fA_size, fA_of, fA_lay, fA_tally, fA_waits, MOKh_eq, setZ_eq, ix_lit, in_lit, lt_lit, cl_lit, nz_lit, fn1, fn2, fA_stays, fA_tired, fA_begin, fA_fare, fA_place, fA_may]
        refine ⟨fun g => ?_, fun g => ⟨fun g2 => ?_, fun g2 => ?_⟩⟩
        · refine rz_goes hQ (k := k) hM1.2.2.2.1 hk (by omega) ?_
          simp only [Option.toList_some, Option.toList_none, ex, sym, popN, goC, callOK, swL, List.map_cons, List.map_nil, List.replicate_zero, List.replicate_succ, List.append_nil, List.nil_append, List.cons_append, List.getElem?_cons_zero, List.getElem?_cons_succ, List.set_cons_zero, List.set_cons_succ, List.length_cons, List.length_nil, List.head?_cons, Nat.reduceAdd, Nat.reduceLT, Nat.reduceLeDiff, Nat.reduceBEq, Nat.reduceEqDiff, Nat.succ_ne_zero, Nat.zero_lt_succ, Nat.le_refl, sc_rows, kc_lit, nc_lit, wlk_rows, uR_s, uR_uR, true_and, and_true, true_or, or_true, false_or, or_false, and_false, false_and, or_self, and_self, if_true, if_false, Bool.false_eq_true, Bool.or_false, Bool.or_true, Bool.false_or, Bool.true_or, not_true_eq_false, not_false_eq_true, forall_const, true_implies, false_implies, implies_true, reduceIte, reduceCtorEq]
          refine wk (fn3_ok l L) ok_113 10 (fun pc => pc == 188) ?_
          simp only [fn3, kk_113, Option.toList_some, Option.toList_none, ex, sym, popN, goC, callOK, swL, List.map_cons, List.map_nil, List.replicate_zero, List.replicate_succ, List.append_nil, List.nil_append, List.cons_append, List.getElem?_cons_zero, List.getElem?_cons_succ, List.set_cons_zero, List.set_cons_succ, List.length_cons, List.length_nil, List.head?_cons, Nat.reduceAdd, Nat.reduceLT, Nat.reduceLeDiff, Nat.reduceBEq, Nat.reduceEqDiff, Nat.succ_ne_zero, Nat.zero_lt_succ, Nat.le_refl, sc_rows, kc_lit, nc_lit, wlk_rows, uR_s, uR_uR, true_and, and_true, true_or, or_true, false_or, or_false, and_false, false_and, or_self, and_self, if_true, if_false, Bool.false_eq_true, Bool.or_false, Bool.or_true, Bool.false_or, Bool.true_or, not_true_eq_false, not_false_eq_true, forall_const, true_implies, false_implies, implies_true, reduceIte, reduceCtorEq, fA_in, fA_size, fA_of, fA_lay, fA_tally, fA_waits, MOKh_eq, setZ_eq, ix_lit, in_lit, lt_lit, cl_lit, nz_lit, fn1, fn2, fA_stays, fA_tired, fA_begin, fA_fare, fA_place, fA_may]
          rw [esit]
          exact go 1 (b2_t (Or.inl g)).symm
        · refine rz_goes hQ (k := k) hM1.2.2.2.1 hk (by omega) ?_
          simp only [Option.toList_some, Option.toList_none, ex, sym, popN, goC, callOK, swL, List.map_cons, List.map_nil, List.replicate_zero, List.replicate_succ, List.append_nil, List.nil_append, List.cons_append, List.getElem?_cons_zero, List.getElem?_cons_succ, List.set_cons_zero, List.set_cons_succ, List.length_cons, List.length_nil, List.head?_cons, Nat.reduceAdd, Nat.reduceLT, Nat.reduceLeDiff, Nat.reduceBEq, Nat.reduceEqDiff, Nat.succ_ne_zero, Nat.zero_lt_succ, Nat.le_refl, sc_rows, kc_lit, nc_lit, wlk_rows, uR_s, uR_uR, true_and, and_true, true_or, or_true, false_or, or_false, and_false, false_and, or_self, and_self, if_true, if_false, Bool.false_eq_true, Bool.or_false, Bool.or_true, Bool.false_or, Bool.true_or, not_true_eq_false, not_false_eq_true, forall_const, true_implies, false_implies, implies_true, reduceIte, reduceCtorEq]
          refine wk (fn3_ok l L) ok_113 10 (fun pc => pc == 188) ?_
          simp only [fn3, kk_113, Option.toList_some, Option.toList_none, ex, sym, popN, goC, callOK, swL, List.map_cons, List.map_nil, List.replicate_zero, List.replicate_succ, List.append_nil, List.nil_append, List.cons_append, List.getElem?_cons_zero, List.getElem?_cons_succ, List.set_cons_zero, List.set_cons_succ, List.length_cons, List.length_nil, List.head?_cons, Nat.reduceAdd, Nat.reduceLT, Nat.reduceLeDiff, Nat.reduceBEq, Nat.reduceEqDiff, Nat.succ_ne_zero, Nat.zero_lt_succ, Nat.le_refl, sc_rows, kc_lit, nc_lit, wlk_rows, uR_s, uR_uR, true_and, and_true, true_or, or_true, false_or, or_false, and_false, false_and, or_self, and_self, if_true, if_false, Bool.false_eq_true, Bool.or_false, Bool.or_true, Bool.false_or, Bool.true_or, not_true_eq_false, not_false_eq_true, forall_const, true_implies, false_implies, implies_true, reduceIte, reduceCtorEq, fA_in, fA_size, fA_of, fA_lay, fA_tally, fA_waits, MOKh_eq, setZ_eq, ix_lit, in_lit, lt_lit, cl_lit, nz_lit, fn1, fn2, fA_stays, fA_tired, fA_begin, fA_fare, fA_place, fA_may]
          rw [esit]
          exact go 0 (b2_f (fun q => q.elim (fun a => a g) (fun a => g2 a))).symm
        · refine rz_goes hQ (k := k) hM1.2.2.2.1 hk (by omega) ?_
          simp only [Option.toList_some, Option.toList_none, ex, sym, popN, goC, callOK, swL, List.map_cons, List.map_nil, List.replicate_zero, List.replicate_succ, List.append_nil, List.nil_append, List.cons_append, List.getElem?_cons_zero, List.getElem?_cons_succ, List.set_cons_zero, List.set_cons_succ, List.length_cons, List.length_nil, List.head?_cons, Nat.reduceAdd, Nat.reduceLT, Nat.reduceLeDiff, Nat.reduceBEq, Nat.reduceEqDiff, Nat.succ_ne_zero, Nat.zero_lt_succ, Nat.le_refl, sc_rows, kc_lit, nc_lit, wlk_rows, uR_s, uR_uR, true_and, and_true, true_or, or_true, false_or, or_false, and_false, false_and, or_self, and_self, if_true, if_false, Bool.false_eq_true, Bool.or_false, Bool.or_true, Bool.false_or, Bool.true_or, not_true_eq_false, not_false_eq_true, forall_const, true_implies, false_implies, implies_true, reduceIte, reduceCtorEq]
          refine wk (fn3_ok l L) ok_113 10 (fun pc => pc == 188) ?_
          simp only [fn3, kk_113, Option.toList_some, Option.toList_none, ex, sym, popN, goC, callOK, swL, List.map_cons, List.map_nil, List.replicate_zero, List.replicate_succ, List.append_nil, List.nil_append, List.cons_append, List.getElem?_cons_zero, List.getElem?_cons_succ, List.set_cons_zero, List.set_cons_succ, List.length_cons, List.length_nil, List.head?_cons, Nat.reduceAdd, Nat.reduceLT, Nat.reduceLeDiff, Nat.reduceBEq, Nat.reduceEqDiff, Nat.succ_ne_zero, Nat.zero_lt_succ, Nat.le_refl, sc_rows, kc_lit, nc_lit, wlk_rows, uR_s, uR_uR, true_and, and_true, true_or, or_true, false_or, or_false, and_false, false_and, or_self, and_self, if_true, if_false, Bool.false_eq_true, Bool.or_false, Bool.or_true, Bool.false_or, Bool.true_or, not_true_eq_false, not_false_eq_true, forall_const, true_implies, false_implies, implies_true, reduceIte, reduceCtorEq, fA_in, fA_size, fA_of, fA_lay, fA_tally, fA_waits, MOKh_eq, setZ_eq, ix_lit, in_lit, lt_lit, cl_lit, nz_lit, fn1, fn2, fA_stays, fA_tired, fA_begin, fA_fare, fA_place, fA_may]
          rw [esit]
          exact go 1 (b2_t (Or.inr g2)).symm
      · obtain ⟨k0, k1, k2⟩ := t4
        exact absurd k2 (hno k0 k1)
set_option maxRecDepth 100000 in
theorem rz_minute (hQ : QM Q) {n k : Nat} (h : MV z n k) (h1 : P none (SC L, uR (uR I 149 (upd y 11 (zMin (y 10) z (y 11)).2)) 150 (zMin (y 10) z (y 11)).1, Q)) : Runs l 113 [.ref 149] (SC L, uR (uR I 149 y) 150 z, Q) P := by
  refine run0 (n := 2) mok_113 ⟨rfl, rfl⟩ rfl ?_
  refine wk (fn3_ok l L) ok_113 30 (fun pc => pc == 12) ?_
  simp only [fn3, kk_113, Option.toList_some, Option.toList_none, ex, sym, popN, goC, callOK, swL, List.map_cons, List.map_nil, List.replicate_zero, List.replicate_succ, List.append_nil, List.nil_append, List.cons_append, List.getElem?_cons_zero, List.getElem?_cons_succ, List.set_cons_zero, List.set_cons_succ, List.length_cons, List.length_nil, List.head?_cons, Nat.reduceAdd, Nat.reduceLT, Nat.reduceLeDiff, Nat.reduceBEq, Nat.reduceEqDiff, Nat.succ_ne_zero, Nat.zero_lt_succ, Nat.le_refl, sc_rows, kc_lit, nc_lit, wlk_rows, uR_s, uR_uR, true_and, and_true, true_or, or_true, false_or, or_false, and_false, false_and, or_self, and_self, if_true, if_false, Bool.false_eq_true, Bool.or_false, Bool.or_true, Bool.false_or, Bool.true_or, not_true_eq_false, not_false_eq_true, forall_const, true_implies, false_implies, implies_true, reduceIte, reduceCtorEq, hQ.1, fA_in, fA_size, fA_of, fA_lay, fA_tally, fA_waits, MOKh_eq, setZ_eq, ix_lit, in_lit, lt_lit, cl_lit, nz_lit, fn1, fn2, fA_stays, fA_tired, fA_begin, fA_fare, fA_place, fA_may]
  have hc := h.clock (z 5 + 1)
  have hn := h.n
  have hk := h.2.2.2.2.1
  have e11 : ix (upd z 5 (z 5 + 1) 11) = n := by rw [upd_n _ _ (by omega), hn.1]; exact ix_nI (by omega)
  have e11' : ix (z 11) = n := by rw [hn.1]; exact ix_nI (by omega)
  have e13 : ix (z 13) = k := by rw [h.2.2.2.1]; exact ix_nI (by omega)
  refine min_1 hQ hc (fun a2 => ?_) n 0 none (by omega)
  have hI := zTs_inv hc n (Nat.le_refl n)
  refine wk (fn3_ok l L) ok_113 30 (fun pc => pc == 138) ?_
  simp only [fn3, kk_113, Option.toList_some, Option.toList_none, ex, sym, popN, goC, callOK, swL, List.map_cons, List.map_nil, List.replicate_zero, List.replicate_succ, List.append_nil, List.nil_append, List.cons_append, List.getElem?_cons_zero, List.getElem?_cons_succ, List.set_cons_zero, List.set_cons_succ, List.length_cons, List.length_nil, List.head?_cons, Nat.reduceAdd, Nat.reduceLT, Nat.reduceLeDiff, Nat.reduceBEq, Nat.reduceEqDiff, Nat.succ_ne_zero, Nat.zero_lt_succ, Nat.le_refl, sc_rows, kc_lit, nc_lit, wlk_rows, uR_s, uR_uR, true_and, and_true, true_or, or_true, false_or, or_false, and_false, false_and, or_self, and_self, if_true, if_false, Bool.false_eq_true, Bool.or_false, Bool.or_true, Bool.false_or, Bool.true_or, not_true_eq_false, not_false_eq_true, forall_const, true_implies, false_implies, implies_true, reduceIte, reduceCtorEq, hQ.1, hI.2.2.2.1, fA_in, fA_size, fA_of, fA_lay, fA_tally, fA_waits, MOKh_eq, setZ_eq, ix_lit, in_lit, lt_lit, cl_lit, nz_lit, fn1, fn2, fA_stays, fA_tired, fA_begin, fA_fare, fA_place, fA_may]
  rw [Int32.sub_eq_add_neg]
  refine min_2 hQ k k a2 _ hI (Nat.le_refl k) (fun a3 => ?_)
  have e3 : zDis (zTs (upd z 5 (z 5 + 1)) n) k = zM3 z := by simp only [zM3, e11', e13]
  rw [e3]
  have hM3 : ∃ k3, MV (zM3 z) n k3 := by
    rw [← e3]
    have key : ∀ r k (w : Nat → Int32), MV w n k → r ≤ k → ∃ k3, MV (zDis w r) n k3 := by
      intro r
      induction r with
      | zero => intro k w hw _; exact ⟨k, hw⟩
      | succ r ih =>
        intro k w hw hr
        obtain ⟨k', a, b⟩ := hw.ds (r := r) (by omega)
        exact ih k' _ a b
    exact key k k _ hI (Nat.le_refl k)
  obtain ⟨k3, hM3⟩ := hM3
  refine wk (fn3_ok l L) ok_113 30 (fun pc => pc == 188) ?_
  simp only [fn3, kk_113, Option.toList_some, Option.toList_none, ex, sym, popN, goC, callOK, swL, List.map_cons, List.map_nil, List.replicate_zero, List.replicate_succ, List.append_nil, List.nil_append, List.cons_append, List.getElem?_cons_zero, List.getElem?_cons_succ, List.set_cons_zero, List.set_cons_succ, List.length_cons, List.length_nil, List.head?_cons, Nat.reduceAdd, Nat.reduceLT, Nat.reduceLeDiff, Nat.reduceBEq, Nat.reduceEqDiff, Nat.succ_ne_zero, Nat.zero_lt_succ, Nat.le_refl, sc_rows, kc_lit, nc_lit, wlk_rows, uR_s, uR_uR, true_and, and_true, true_or, or_true, false_or, or_false, and_false, false_and, or_self, and_self, if_true, if_false, Bool.false_eq_true, Bool.or_false, Bool.or_true, Bool.false_or, Bool.true_or, not_true_eq_false, not_false_eq_true, forall_const, true_implies, false_implies, implies_true, reduceIte, reduceCtorEq, fA_in, fA_size, fA_of, fA_lay, fA_tally, fA_waits, MOKh_eq, setZ_eq, ix_lit, in_lit, lt_lit, cl_lit, nz_lit, fn1, fn2, fA_stays, fA_tired, fA_begin, fA_fare, fA_place, fA_may]
  refine min_3 hQ k3 0 k3 a3 (zM3 z) y hM3 (by omega) ?_
  have e13' : ix (zM3 z 13) = k3 := by rw [hM3.2.2.2.1]; exact ix_nI (by have := hM3.2.2.2.2.1; omega)
  simp only [zMin, e13'] at h1
  exact h1
end T9
