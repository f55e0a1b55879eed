/-! the reference: who rides; taking a fare; riding; coming back; being paid -/
section T6
variable {l : Launch} {L : Nat} {I : Nat → Nat → Int32} {Q : Nat → Nat → Option Nat} {P : Option Value → PH → Prop}
theorem b2_n0 {c : Prop} [Decidable c] : (¬ b2 c = 0) = c := by rw [b2_0]; simp
set_option maxRecDepth 100000 in
theorem r_riderTo (hQ : QM Q) {n m : Nat} (hn : I 150 11 = nI n) (hn2 : n ≤ 12) (hm : I 150 12 = nI m) (hm2 : m ≤ 12) (hl : LnOK (I 150) n m) (b : Int32) (h1 : P (some (.int (fv (rider (I 150) n m b)))) (SC L, I, Q)) : Runs l 103 [.ref 149, .int b] (SC L, I, Q) P := by
  have loop : ∀ k f a5 a6, k ≤ m → (∀ g, f = some g → g < n) → rd (I 150) n (isLongZ (I 150) 10 b) k f = rider (I 150) n m b → Sy l 103 (156, 3525) 36 [some (.ref 149), some (.int b), some (.int (b2 (isLongZ (I 150) 10 b))), some (.int (fv f)), some (.int (nI k + (-1))), a5, a6] [] (SC L, I, Q) P := by
    intro k
    induction k with
    | zero =>
      intro f a5 a6 _ hf hr
      have e1 : (nI 0 + (-1) < 0) = True := by decide
      refine wk (fn3_ok l L) ok_103 30 (fun pc => pc == 36) ?_
      simp only [fn3, kk_103, Option.toList_some, Option.toList_none, ex, sym, popN, goC, callOK, swL, List.map_cons, List.map_nil, List.replicate_zero, List.replicate_succ, List.append_nil, List.nil_append, List.cons_append, List.getElem?_cons_zero, List.getElem?_cons_succ, List.set_cons_zero, List.set_cons_succ, List.length_cons, List.length_nil, List.head?_cons, Nat.reduceAdd, Nat.reduceLT, Nat.reduceLeDiff, Nat.reduceBEq, Nat.reduceEqDiff, Nat.succ_ne_zero, Nat.zero_lt_succ, Nat.le_refl, sc_rows, kc_lit, nc_lit, wlk_rows, uR_s, uR_uR, true_and, and_true, true_or, or_true, false_or, or_false, and_false, false_and, or_self, and_self, if_true, if_false, Bool.false_eq_true, Bool.or_false, Bool.or_true, Bool.false_or, Bool.true_or, not_true_eq_false, not_false_eq_true, forall_const, true_implies, false_implies, implies_true, reduceIte, reduceCtorEq, e1, fA_in, fA_size, fA_of, fA_lay, fA_tally, fA_waits, MOKh_eq, setZ_eq, ix_lit, in_lit, lt_lit, cl_lit, nz_lit, fn1, fn2, fA_stays, fA_tired, fA_begin, fA_fare, fA_place, fA_may]
      simp only [rd] at hr
      rw [hr]
      exact h1
    | succ k ih =>
      intro f a5 a6 hk hf hr
      rw [pk_m1]
      refine wk (fn3_ok l L) ok_103 30 (fun pc => pc == 36) ?_
      simp only [fn3, kk_103, Option.toList_some, Option.toList_none, ex, sym, popN, goC, callOK, swL, List.map_cons, List.map_nil, List.replicate_zero, List.replicate_succ, List.append_nil, List.nil_append, List.cons_append, List.getElem?_cons_zero, List.getElem?_cons_succ, List.set_cons_zero, List.set_cons_succ, List.length_cons, List.length_nil, List.head?_cons, Nat.reduceAdd, Nat.reduceLT, Nat.reduceLeDiff, Nat.reduceBEq, Nat.reduceEqDiff, Nat.succ_ne_zero, Nat.zero_lt_succ, Nat.le_refl, sc_rows, kc_lit, nc_lit, wlk_rows, uR_s, uR_uR, true_and, and_true, true_or, or_true, false_or, or_false, and_false, false_and, or_self, and_self, if_true, if_false, Bool.false_eq_true, Bool.or_false, Bool.or_true, Bool.false_or, Bool.true_or, not_true_eq_false, not_false_eq_true, forall_const, true_implies, false_implies, implies_true, reduceIte, reduceCtorEq, hQ.1, smI (show k < 2147483648 by omega), nI_add15, ixp (show 15 + k < 228 by omega) (by omega), fA_in, fA_size, fA_of, fA_lay, fA_tally, fA_waits, MOKh_eq, setZ_eq, ix_lit, in_lit, lt_lit, cl_lit, nz_lit, fn1, fn2, fA_stays, fA_tired, fA_begin, fA_fare, fA_place, fA_may]
      refine r_taxiF hQ hn hn2 _ (hl k (by omega)) ?_
      have hlx := (lx_ok hl (show k < m by omega)).1
      simp only [rd] at hr
      cases f with
      | none =>
        refine wk (fn3_ok l L) ok_103 60 (fun pc => pc == 36) ?_
        simp only [fn3, kk_103, Option.toList_some, Option.toList_none, ex, sym, popN, goC, callOK, swL, List.map_cons, List.map_nil, List.replicate_zero, List.replicate_succ, List.append_nil, List.nil_append, List.cons_append, List.getElem?_cons_zero, List.getElem?_cons_succ, List.set_cons_zero, List.set_cons_succ, List.length_cons, List.length_nil, List.head?_cons, Nat.reduceAdd, Nat.reduceLT, Nat.reduceLeDiff, Nat.reduceBEq, Nat.reduceEqDiff, Nat.succ_ne_zero, Nat.zero_lt_succ, Nat.le_refl, sc_rows, kc_lit, nc_lit, wlk_rows, uR_s, uR_uR, true_and, and_true, true_or, or_true, false_or, or_false, and_false, false_and, or_self, and_self, if_true, if_false, Bool.false_eq_true, Bool.or_false, Bool.or_true, Bool.false_or, Bool.true_or, not_true_eq_false, not_false_eq_true, forall_const, true_implies, false_implies, implies_true, reduceIte, reduceCtorEq, hQ.1, hQ, fv, b2_0, b2_n0, smI (show lx (I 150) n k < 2147483648 by omega), show lx (I 150) n k < 12 by omega, nz_lit, fA_in, fA_size, fA_of, fA_lay, fA_tally, fA_waits, MOKh_eq, setZ_eq, ix_lit, in_lit, lt_lit, cl_lit, nz_lit, fn1, fn2, fA_stays, fA_tired, fA_begin, fA_fare, fA_place, fA_may]
        refine ⟨fun g => ?_, fun g => ?_⟩
        · refine ih none _ _ (by omega) (fun g z => by cases z) ?_
          rw [← hr]
          simp only [rdS]
          rw [if_neg g]
        · refine ih (some (lx (I 150) n k)) _ _ (by omega) (fun g z => by cases z; exact hlx) ?_
          rw [← hr]
          simp only [rdS]
          rw [if_pos (Decidable.not_not.mp g)]
      | some j =>
        have hj := hf j rfl
        refine wk (fn3_ok l L) ok_103 60 (fun pc => pc == 36) ?_
        simp only [fn3, kk_103, Option.toList_some, Option.toList_none, ex, sym, popN, goC, callOK, swL, List.map_cons, List.map_nil, List.replicate_zero, List.replicate_succ, List.append_nil, List.nil_append, List.cons_append, List.getElem?_cons_zero, List.getElem?_cons_succ, List.set_cons_zero, List.set_cons_succ, List.length_cons, List.length_nil, List.head?_cons, Nat.reduceAdd, Nat.reduceLT, Nat.reduceLeDiff, Nat.reduceBEq, Nat.reduceEqDiff, Nat.succ_ne_zero, Nat.zero_lt_succ, Nat.le_refl, sc_rows, kc_lit, nc_lit, wlk_rows, uR_s, uR_uR, true_and, and_true, true_or, or_true, false_or, or_false, and_false, false_and, or_self, and_self, if_true, if_false, Bool.false_eq_true, Bool.or_false, Bool.or_true, Bool.false_or, Bool.true_or, not_true_eq_false, not_false_eq_true, forall_const, true_implies, false_implies, implies_true, reduceIte, reduceCtorEq, hQ.1, hQ, fv, b2_0, b2_n0, n5F (show j < 2147483648 by omega), smI (show lx (I 150) n k < 2147483648 by omega), show lx (I 150) n k < 12 by omega, smI (show j < 2147483648 by omega), show j < 12 by omega, nz_lit, fA_in, fA_size, fA_of, fA_lay, fA_tally, fA_waits, MOKh_eq, setZ_eq, ix_lit, in_lit, lt_lit, cl_lit, nz_lit, fn1, fn2, fA_stays, fA_tired, fA_begin, fA_fare, fA_place, fA_may]
        have keep : ¬ (may (I 150) (lx (I 150) n k) ∧ (¬ isLongZ (I 150) 10 b ∨ I 150 (tp (lx (I 150) n k) 5) ≤ I 150 (tp j 5))) → ∀ a5 a6, Sy l 103 (156, 3525) 36 [some (.ref 149), some (.int b), some (.int (b2 (isLongZ (I 150) 10 b))), some (.int (nI j)), some (.int (nI k + (-1))), a5, a6] [] (SC L, I, Q) P := fun z a5 a6 => ih (some j) a5 a6 (by omega) hf (by rw [← hr]; simp only [rdS]; rw [if_neg z])
        have take : (may (I 150) (lx (I 150) n k) ∧ (¬ isLongZ (I 150) 10 b ∨ I 150 (tp (lx (I 150) n k) 5) ≤ I 150 (tp j 5))) → ∀ a5 a6, Sy l 103 (156, 3525) 36 [some (.ref 149), some (.int b), some (.int (b2 (isLongZ (I 150) 10 b))), some (.int (nI (lx (I 150) n k))), some (.int (nI k + (-1))), a5, a6] [] (SC L, I, Q) P := fun z a5 a6 => ih (some (lx (I 150) n k)) a5 a6 (by omega) (fun g e => by cases e; exact hlx) (by rw [← hr]; simp only [rdS]; rw [if_pos z])
        exact ⟨fun g1 => ⟨fun g2 => keep (fun z => g2 z.1) _ _, fun g2 => take ⟨Decidable.not_not.mp g2, Or.inl g1⟩ _ _⟩, fun g1 => ⟨fun g3 => ⟨fun g2 => keep (fun z => g2 z.1) _ _, fun g2 => keep (fun z => z.2.elim (fun q => g1 q) (fun q => absurd g3 (Int32.not_lt.mpr q))) _ _⟩, fun g3 => ⟨fun g2 => keep (fun z => g2 z.1) _ _, fun g2 => take ⟨Decidable.not_not.mp g2, Or.inr (Int32.not_lt.mp g3)⟩ _ _⟩⟩⟩
  refine run0 (n := 5) mok_103 ⟨rfl, rfl⟩ rfl ?_
  have fin := loop m none none none (Nat.le_refl m) (fun g z => by cases z) rfl
  rw [← Int32.sub_eq_add_neg] at fin
  refine wk (fn3_ok l L) ok_103 30 (fun pc => pc == 36) ?_
  simp only [fn3, kk_103, Option.toList_some, Option.toList_none, ex, sym, popN, goC, callOK, swL, List.map_cons, List.map_nil, List.replicate_zero, List.replicate_succ, List.append_nil, List.nil_append, List.cons_append, List.getElem?_cons_zero, List.getElem?_cons_succ, List.set_cons_zero, List.set_cons_succ, List.length_cons, List.length_nil, List.head?_cons, Nat.reduceAdd, Nat.reduceLT, Nat.reduceLeDiff, Nat.reduceBEq, Nat.reduceEqDiff, Nat.succ_ne_zero, Nat.zero_lt_succ, Nat.le_refl, sc_rows, kc_lit, nc_lit, wlk_rows, uR_s, uR_uR, true_and, and_true, true_or, or_true, false_or, or_false, and_false, false_and, or_self, and_self, if_true, if_false, Bool.false_eq_true, Bool.or_false, Bool.or_true, Bool.false_or, Bool.true_or, not_true_eq_false, not_false_eq_true, forall_const, true_implies, false_implies, implies_true, reduceIte, reduceCtorEq, hQ.1, hm, fA_in, fA_size, fA_of, fA_lay, fA_tally, fA_waits, MOKh_eq, setZ_eq, ix_lit, in_lit, lt_lit, cl_lit, nz_lit, fn1, fn2, fA_stays, fA_tired, fA_begin, fA_fare, fA_place, fA_may]
  refine ⟨fun g => ?_, fun g => ?_⟩
  · rw [b2_f (Int32.not_le.mpr g)] at fin
    exact fin
  · rw [b2_t (Int32.not_lt.mp g)] at fin
    exact fin
theorem upd_e (z : Nat → Int32) (k : Nat) (v : Int32) : upd z k v k = v := by simp [upd]
theorem upd_n (z : Nat → Int32) {k j : Nat} (v : Int32) (h : j ≠ k) : upd z k v j = z j := by simp [upd, h]
set_option maxRecDepth 100000 in
theorem r_takeFare (hQ : QM Q) {m i : Nat} (hm : I 150 12 = nI m) (hm2 : m ≤ 12) (hi : i < 12) (a b r : Int32) (h1 : ∀ p, p < m → I 150 (15 + p) = I 150 (tp i 0) → P none (SC L, uR I 150 (zFare (zLeave (I 150) i p m) i a b r), Q)) (h2 : (∀ p, p < m → I 150 (15 + p) ≠ I 150 (tp i 0)) → P none (SC L, uR I 150 (zFare (upd (I 150) (tp i 8) 0) i a b r), Q)) : Runs l 104 [.ref 149, .int (nI i), .int a, .int b, .int r] (SC L, I, Q) P := by
  have key : ∀ z, P none (SC L, uR I 150 (zFare z i a b r), Q) → Sy l 104 (156, 3525) 5 [some (.ref 149), some (.int (nI i)), some (.int a), some (.int b), some (.int r), none] [] (SC L, uR I 150 z, Q) P := by
    intro z hz
    refine wk (fn1_ok l L) ok_104 200 (fun pc => false) ?_
    simp only [fn1, kk_104, Option.toList_some, Option.toList_none, ex, sym, popN, goC, callOK, swL, List.map_cons, List.map_nil, List.replicate_zero, List.replicate_succ, List.append_nil, List.nil_append, List.cons_append, List.getElem?_cons_zero, List.getElem?_cons_succ, List.set_cons_zero, List.set_cons_succ, List.length_cons, List.length_nil, List.head?_cons, Nat.reduceAdd, Nat.reduceLT, Nat.reduceLeDiff, Nat.reduceBEq, Nat.reduceEqDiff, Nat.succ_ne_zero, Nat.zero_lt_succ, Nat.le_refl, sc_rows, kc_lit, nc_lit, wlk_rows, uR_s, uR_uR, true_and, and_true, true_or, or_true, false_or, or_false, and_false, false_and, or_self, and_self, if_true, if_false, Bool.false_eq_true, Bool.or_false, Bool.or_true, Bool.false_or, Bool.true_or, not_true_eq_false, not_false_eq_true, forall_const, true_implies, false_implies, implies_true, reduceIte, reduceCtorEq, hQ.1, hQ, smI (show i < 2147483648 by omega), hi, upd_tp, upd_tpS, upd_S, nz_lit, fA_in, fA_size, fA_of, fA_lay, fA_tally, fA_waits, MOKh_eq, setZ_eq, ix_lit, in_lit, lt_lit, cl_lit, nz_lit]
    refine ⟨fun g => ?_, fun g => ?_⟩
    · have e1 : b2 (isLongZ z a b) = 0 := b2_f (Int32.not_le.mpr g)
      refine ⟨fun g2 => ?_, fun g2 => ?_⟩
      · have e2 : b2 (¬ r = 0 ∧ ¬ isLongZ z a b) = 0 := b2_f (fun q => q.1 g2)
        simp only [zFare, e1, e2] at hz
        exact hz
      · have e2 : b2 (¬ r = 0 ∧ ¬ isLongZ z a b) = 1 := b2_t ⟨g2, Int32.not_le.mpr g⟩
        simp only [zFare, e1, e2] at hz
        exact hz
    · have e1 : b2 (isLongZ z a b) = 1 := b2_t (Int32.not_lt.mp g)
      have e2 : b2 (¬ r = 0 ∧ ¬ isLongZ z a b) = 0 := b2_f (fun q => q.2 (Int32.not_lt.mp g))
      simp only [zFare, e1, e2] at hz
      exact ⟨fun _ => hz, fun _ => hz⟩
  refine run0 (n := 1) mok_104 ⟨rfl, rfl⟩ rfl ?_
  refine wk (fn1_ok l L) ok_104 3 (fun pc => false) ?_
  simp only [fn1, kk_104, Option.toList_some, Option.toList_none, ex, sym, popN, goC, callOK, swL, List.map_cons, List.map_nil, List.replicate_zero, List.replicate_succ, List.append_nil, List.nil_append, List.cons_append, List.getElem?_cons_zero, List.getElem?_cons_succ, List.set_cons_zero, List.set_cons_succ, List.length_cons, List.length_nil, List.head?_cons, Nat.reduceAdd, Nat.reduceLT, Nat.reduceLeDiff, Nat.reduceBEq, Nat.reduceEqDiff, Nat.succ_ne_zero, Nat.zero_lt_succ, Nat.le_refl, sc_rows, kc_lit, nc_lit, wlk_rows, uR_s, uR_uR, true_and, and_true, true_or, or_true, false_or, or_false, and_false, false_and, or_self, and_self, if_true, if_false, Bool.false_eq_true, Bool.or_false, Bool.or_true, Bool.false_or, Bool.true_or, not_true_eq_false, not_false_eq_true, forall_const, true_implies, false_implies, implies_true, reduceIte, reduceCtorEq, fA_in, fA_size, fA_of, fA_lay, fA_tally, fA_waits, MOKh_eq, setZ_eq, ix_lit, in_lit, lt_lit, cl_lit, nz_lit]
  refine r_leaveLine hQ hm hm2 hi (fun p hp he => ?_) (fun hno => ?_)
  · simp only [Option.toList_some, Option.toList_none, ex, sym, popN, goC, callOK, swL, List.map_cons, List.map_nil, List.replicate_zero, List.replicate_succ, List.append_nil, List.nil_append, List.cons_append, List.getElem?_cons_zero, List.getElem?_cons_succ, List.set_cons_zero, List.set_cons_succ, List.length_cons, List.length_nil, List.head?_cons, Nat.reduceAdd, Nat.reduceLT, Nat.reduceLeDiff, Nat.reduceBEq, Nat.reduceEqDiff, Nat.succ_ne_zero, Nat.zero_lt_succ, Nat.le_refl, sc_rows, kc_lit, nc_lit, wlk_rows, uR_s, uR_uR, true_and, and_true, true_or, or_true, false_or, or_false, and_false, false_and, or_self, and_self, if_true, if_false, Bool.false_eq_true, Bool.or_false, Bool.or_true, Bool.false_or, Bool.true_or, not_true_eq_false, not_false_eq_true, forall_const, true_implies, false_implies, implies_true, reduceIte, reduceCtorEq]
    exact key _ (h1 p hp he)
  · simp only [Option.toList_some, Option.toList_none, ex, sym, popN, goC, callOK, swL, List.map_cons, List.map_nil, List.replicate_zero, List.replicate_succ, List.append_nil, List.nil_append, List.cons_append, List.getElem?_cons_zero, List.getElem?_cons_succ, List.set_cons_zero, List.set_cons_succ, List.length_cons, List.length_nil, List.head?_cons, Nat.reduceAdd, Nat.reduceLT, Nat.reduceLeDiff, Nat.reduceBEq, Nat.reduceEqDiff, Nat.succ_ne_zero, Nat.zero_lt_succ, Nat.le_refl, sc_rows, kc_lit, nc_lit, wlk_rows, uR_s, uR_uR, true_and, and_true, true_or, or_true, false_or, or_false, and_false, false_and, or_self, and_self, if_true, if_false, Bool.false_eq_true, Bool.or_false, Bool.or_true, Bool.false_or, Bool.true_or, not_true_eq_false, not_false_eq_true, forall_const, true_implies, false_implies, implies_true, reduceIte, reduceCtorEq]
    exact key _ (h2 hno)
set_option maxRecDepth 100000 in
theorem r_ride (hQ : QM Q) {i : Nat} (hi : i < 12) (h1 : P none (SC L, uR I 150 (zRide (I 150) i), Q)) : Runs l 106 [.ref 149, .int (nI i)] (SC L, I, Q) P := by
  refine run0 (n := 0) mok_106 ⟨rfl, rfl⟩ rfl ?_
  refine wk (fn3_ok l L) ok_106 200 (fun pc => false) ?_
  simp only [fn3, kk_106, Option.toList_some, Option.toList_none, ex, sym, popN, goC, callOK, swL, List.map_cons, List.map_nil, List.replicate_zero, List.replicate_succ, List.append_nil, List.nil_append, List.cons_append, List.getElem?_cons_zero, List.getElem?_cons_succ, List.set_cons_zero, List.set_cons_succ, List.length_cons, List.length_nil, List.head?_cons, Nat.reduceAdd, Nat.reduceLT, Nat.reduceLeDiff, Nat.reduceBEq, Nat.reduceEqDiff, Nat.succ_ne_zero, Nat.zero_lt_succ, Nat.le_refl, sc_rows, kc_lit, nc_lit, wlk_rows, uR_s, uR_uR, true_and, and_true, true_or, or_true, false_or, or_false, and_false, false_and, or_self, and_self, if_true, if_false, Bool.false_eq_true, Bool.or_false, Bool.or_true, Bool.false_or, Bool.true_or, not_true_eq_false, not_false_eq_true, forall_const, true_implies, false_implies, implies_true, reduceIte, reduceCtorEq, hQ.1, hQ, smI (show i < 2147483648 by omega), hi, upd_tp, upd_tpS, upd_S, nz_lit, fA_in, fA_size, fA_of, fA_lay, fA_tally, fA_waits, MOKh_eq, setZ_eq, ix_lit, in_lit, lt_lit, cl_lit, nz_lit, fn1, fn2, fA_stays, fA_tired, fA_begin, fA_fare, fA_place, fA_may]
  exact h1
def zQuick (z : Nat → Int32) (i p m : Nat) : Nat → Int32 := upd (upd (zStand z i p m) (tp i 8) 1) (tp i 7) (zStand z i p m (tp i 7) + 1)
def zBack (z : Nat → Int32) (i n m : Nat) : Nat → Int32 := if tired z i then upd (upd z (tp i 1) 4) (tp i 2) (z 4) else if z (tp i 12) = 1 then zQuick z i (qO z n m 0) m else zStand z i m m
set_option maxRecDepth 100000 in
theorem r_comeBack (hQ : QM Q) {n m i : Nat} (hn : I 150 11 = nI n) (hn2 : n ≤ 12) (hm : I 150 12 = nI m) (hm2 : m < 12) (hl : LnOK (I 150) n m) (hi : i < 12) (h1 : P none (SC L, uR I 150 (zBack (I 150) i n m), Q)) : Runs l 108 [.ref 149, .int (nI i)] (SC L, I, Q) P := by
  refine run0 (n := 1) mok_108 ⟨rfl, rfl⟩ rfl ?_
  refine wk (fn3_ok l L) ok_108 200 (fun pc => false) ?_
  simp only [fn3, kk_108, Option.toList_some, Option.toList_none, ex, sym, popN, goC, callOK, swL, List.map_cons, List.map_nil, List.replicate_zero, List.replicate_succ, List.append_nil, List.nil_append, List.cons_append, List.getElem?_cons_zero, List.getElem?_cons_succ, List.set_cons_zero, List.set_cons_succ, List.length_cons, List.length_nil, List.head?_cons, Nat.reduceAdd, Nat.reduceLT, Nat.reduceLeDiff, Nat.reduceBEq, Nat.reduceEqDiff, Nat.succ_ne_zero, Nat.zero_lt_succ, Nat.le_refl, sc_rows, kc_lit, nc_lit, wlk_rows, uR_s, uR_uR, true_and, and_true, true_or, or_true, false_or, or_false, and_false, false_and, or_self, and_self, if_true, if_false, Bool.false_eq_true, Bool.or_false, Bool.or_true, Bool.false_or, Bool.true_or, not_true_eq_false, not_false_eq_true, forall_const, true_implies, false_implies, implies_true, reduceIte, reduceCtorEq, hQ.1, hQ, hm, smI (show i < 2147483648 by omega), hi, b2_0, b2_n0, upd_tp, upd_tpS, upd_S, nz_lit, fA_in, fA_size, fA_of, fA_lay, fA_tally, fA_waits, MOKh_eq, setZ_eq, ix_lit, in_lit, lt_lit, cl_lit, nz_lit, fn1, fn2, fA_stays, fA_tired, fA_begin, fA_fare, fA_place, fA_may]
  unfold zBack at h1
  refine ⟨fun g => ⟨fun g2 => ?_, fun g2 => ?_⟩, fun g => ?_⟩
  · rw [if_neg g, if_neg g2] at h1
    refine r_standAt hQ hm hm2 hi (Nat.le_refl m) ?_
    simp only [Option.toList_some, Option.toList_none, ex, sym, popN, goC, callOK, swL, List.map_cons, List.map_nil, List.replicate_zero, List.replicate_succ, List.append_nil, List.nil_append, List.cons_append, List.getElem?_cons_zero, List.getElem?_cons_succ, List.set_cons_zero, List.set_cons_succ, List.length_cons, List.length_nil, List.head?_cons, Nat.reduceAdd, Nat.reduceLT, Nat.reduceLeDiff, Nat.reduceBEq, Nat.reduceEqDiff, Nat.succ_ne_zero, Nat.zero_lt_succ, Nat.le_refl, sc_rows, kc_lit, nc_lit, wlk_rows, uR_s, uR_uR, true_and, and_true, true_or, or_true, false_or, or_false, and_false, false_and, or_self, and_self, if_true, if_false, Bool.false_eq_true, Bool.or_false, Bool.or_true, Bool.false_or, Bool.true_or, not_true_eq_false, not_false_eq_true, forall_const, true_implies, false_implies, implies_true, reduceIte, reduceCtorEq]
    refine wk (fn3_ok l L) ok_108 10 (fun pc => false) ?_
    simp only [fn3, kk_108, Option.toList_some, Option.toList_none, ex, sym, popN, goC, callOK, swL, List.map_cons, List.map_nil, List.replicate_zero, List.replicate_succ, List.append_nil, List.nil_append, List.cons_append, List.getElem?_cons_zero, List.getElem?_cons_succ, List.set_cons_zero, List.set_cons_succ, List.length_cons, List.length_nil, List.head?_cons, Nat.reduceAdd, Nat.reduceLT, Nat.reduceLeDiff, Nat.reduceBEq, Nat.reduceEqDiff, Nat.succ_ne_zero, Nat.zero_lt_succ, Nat.le_refl, sc_rows, kc_lit, nc_lit, wlk_rows, uR_s, uR_uR, true_and, and_true, true_or, or_true, false_or, or_false, and_false, false_and, or_self, and_self, if_true, if_false, Bool.false_eq_true, Bool.or_false, Bool.or_true, Bool.false_or, Bool.true_or, not_true_eq_false, not_false_eq_true, forall_const, true_implies, false_implies, implies_true, reduceIte, reduceCtorEq, fA_in, fA_size, fA_of, fA_lay, fA_tally, fA_waits, MOKh_eq, setZ_eq, ix_lit, in_lit, lt_lit, cl_lit, nz_lit, fn1, fn2, fA_stays, fA_tired, fA_begin, fA_fare, fA_place, fA_may]
    exact h1
  · rw [if_neg g, if_pos g2] at h1
    refine r_quickOnes hQ hn hn2 hm (by omega) hl ?_
    refine wk (fn3_ok l L) ok_108 100 (fun pc => false) ?_
    simp only [fn3, kk_108, Option.toList_some, Option.toList_none, ex, sym, popN, goC, callOK, swL, List.map_cons, List.map_nil, List.replicate_zero, List.replicate_succ, List.append_nil, List.nil_append, List.cons_append, List.getElem?_cons_zero, List.getElem?_cons_succ, List.set_cons_zero, List.set_cons_succ, List.length_cons, List.length_nil, List.head?_cons, Nat.reduceAdd, Nat.reduceLT, Nat.reduceLeDiff, Nat.reduceBEq, Nat.reduceEqDiff, Nat.succ_ne_zero, Nat.zero_lt_succ, Nat.le_refl, sc_rows, kc_lit, nc_lit, wlk_rows, uR_s, uR_uR, true_and, and_true, true_or, or_true, false_or, or_false, and_false, false_and, or_self, and_self, if_true, if_false, Bool.false_eq_true, Bool.or_false, Bool.or_true, Bool.false_or, Bool.true_or, not_true_eq_false, not_false_eq_true, forall_const, true_implies, false_implies, implies_true, reduceIte, reduceCtorEq, hQ.1, hQ, fA_in, fA_size, fA_of, fA_lay, fA_tally, fA_waits, MOKh_eq, setZ_eq, ix_lit, in_lit, lt_lit, cl_lit, nz_lit, fn1, fn2, fA_stays, fA_tired, fA_begin, fA_fare, fA_place, fA_may]
    refine r_standAt hQ hm hm2 hi (by have := (qO_le (I 150) n m 0).2; omega) ?_
    refine wk (fn3_ok l L) ok_108 100 (fun pc => false) ?_
    simp only [fn3, kk_108, Option.toList_some, Option.toList_none, ex, sym, popN, goC, callOK, swL, List.map_cons, List.map_nil, List.replicate_zero, List.replicate_succ, List.append_nil, List.nil_append, List.cons_append, List.getElem?_cons_zero, List.getElem?_cons_succ, List.set_cons_zero, List.set_cons_succ, List.length_cons, List.length_nil, List.head?_cons, Nat.reduceAdd, Nat.reduceLT, Nat.reduceLeDiff, Nat.reduceBEq, Nat.reduceEqDiff, Nat.succ_ne_zero, Nat.zero_lt_succ, Nat.le_refl, sc_rows, kc_lit, nc_lit, wlk_rows, uR_s, uR_uR, true_and, and_true, true_or, or_true, false_or, or_false, and_false, false_and, or_self, and_self, if_true, if_false, Bool.false_eq_true, Bool.or_false, Bool.or_true, Bool.false_or, Bool.true_or, not_true_eq_false, not_false_eq_true, forall_const, true_implies, false_implies, implies_true, reduceIte, reduceCtorEq, hQ.1, hQ, smI (show i < 2147483648 by omega), hi, upd_tp, fA_in, fA_size, fA_of, fA_lay, fA_tally, fA_waits, MOKh_eq, setZ_eq, ix_lit, in_lit, lt_lit, cl_lit, nz_lit, fn1, fn2, fA_stays, fA_tired, fA_begin, fA_fare, fA_place, fA_may]
    exact h1
  · rw [if_pos (Decidable.not_not.mp g)] at h1
    exact h1
end T6
