/-! the reference: being paid, the end of what a taxi does, passengers that go; all from a state's array z -/
theorem uR_149 {α : Type} (f : Nat → Nat → α) (a b : Nat → α) : uR (uR f 150 a) 149 b = uR (uR f 149 b) 150 a := by
  funext q
  by_cases h1 : q = 149
  · subst h1; simp [uR]
  · by_cases h2 : q = 150
    · subst h2; simp [uR]
    · simp [uR, h1, h2]
theorem uR_r149 {α : Type} (f : Nat → Nat → α) (a : Nat → α) : uR f 150 a 149 = f 149 := uR_n f a (by decide)
def zPaid1 (z : Nat → Int32) (i : Nat) : Nat → Int32 := upd (upd z (tp i 6) (z (tp i 6) + fare32 (z (tp i 10)) (z (tp i 11)))) 9 (z 9 + fare32 (z (tp i 10)) (z (tp i 11)))
def zPaid (z : Nat → Int32) (i n m : Nat) : Nat → Int32 := if z (tp i 11) - 10 = 0 then zBack (zPaid1 z i) i n m else upd (upd (upd (zPaid1 z i) (tp i 1) 3) (tp i 2) (sz32 (z (tp i 11) - 10) * z 0)) (tp i 9) (if z (tp i 11) - 10 < 0 then -1 else 1)
def zEnd (z : Nat → Int32) (i n m : Nat) : Nat → Int32 := if z (tp i 1) = 1 then zRide z i else if z (tp i 1) = 2 then zPaid z i n m else if z (tp i 1) = 3 then zBack z i n m else zStand (upd z (tp i 3) 0) i m m
def shW (z : Nat → Int32) (r j0 : Nat) : Nat → Int32 := fun j => if 27 + 3 * r ≤ j ∧ j < 27 + j0 then z (j + 3) else z j
theorem shW_step (z : Nat → Int32) {r k : Nat} (h : 3 * r ≤ k) : upd (shW z r k) (27 + k) (shW z r k (27 + k + 3)) = shW z r (k + 1) := by
  funext j
  simp only [upd, shW]
  by_cases e : j = 27 + k
  · subst e
    rw [if_pos rfl, if_neg (by omega), if_pos (by omega)]
  · rw [if_neg e]
    by_cases e2 : 27 + 3 * r ≤ j ∧ j < 27 + k
    · rw [if_pos e2, if_pos (by omega)]
    · rw [if_neg e2, if_neg (by omega)]
def zGoes (z : Nat → Int32) (r k : Nat) : Nat → Int32 := shW (upd z 13 (nI (k - 1))) r (3 * (k - 1))
theorem nI_add27 (k : Nat) : (27 : Int32) + nI k = nI (27 + k) ∧ nI (27 + k) + 3 = nI (27 + k + 3) ∧ (3 : Int32) * nI k = nI (3 * k) := by
  rw [show (27 : Int32) = nI 27 from rfl, show (3 : Int32) = nI 3 from rfl, nI_add, nI_add, pk_mul]
  exact ⟨rfl, rfl, rfl⟩
section T7
variable {l : Launch} {L : Nat} {I : Nat → Nat → Int32} {Q : Nat → Nat → Option Nat} {P : Option Value → PH → Prop} {z : Nat → Int32}
theorem rz_taxiWith (hQ : QM Q) {n : Nat} (hn : z 11 = nI n) (hn2 : n ≤ 12) (p : Int32) (h1 : ∀ i, i < n → z (tp i 0) = p → P (some (.int (nI i))) (SC L, uR I 150 z, Q)) (h2 : (∀ i, i < n → z (tp i 0) ≠ p) → P (some (.int (-5))) (SC L, uR I 150 z, Q)) : Runs l 89 [.ref 149, .int p] (SC L, uR I 150 z, Q) P :=
  r_taxiWith (I := uR I 150 z) hQ (by rw [uR_s]; exact hn) hn2 p (by rw [uR_s]; exact h1) (by rw [uR_s]; exact h2)
theorem rz_standAt (hQ : QM Q) {m i p : Nat} (hm : z 12 = nI m) (hm2 : m < 12) (hi : i < 12) (hp : p ≤ m) (h1 : P none (SC L, uR I 150 (zStand z i p m), Q)) : Runs l 97 [.ref 149, .int (nI i), .int (nI p)] (SC L, uR I 150 z, Q) P :=
  r_standAt (I := uR I 150 z) hQ (by rw [uR_s]; exact hm) hm2 hi hp (by rw [uR_s, uR_uR]; exact h1)
theorem rz_leaveLine (hQ : QM Q) {m i : Nat} (hm : z 12 = nI m) (hm2 : m ≤ 12) (hi : i < 12) (h1 : ∀ p, p < m → z (15 + p) = z (tp i 0) → P none (SC L, uR I 150 (zLeave z i p m), Q)) (h2 : (∀ p, p < m → z (15 + p) ≠ z (tp i 0)) → P none (SC L, uR I 150 (upd z (tp i 8) 0), Q)) : Runs l 98 [.ref 149, .int (nI i)] (SC L, uR I 150 z, Q) P :=
  r_leaveLine (I := uR I 150 z) hQ (by rw [uR_s]; exact hm) hm2 hi (by simp only [uR_s, uR_uR]; exact h1) (by rw [uR_s, uR_uR]; exact h2)
theorem rz_riderTo (hQ : QM Q) {n m : Nat} (hn : z 11 = nI n) (hn2 : n ≤ 12) (hm : z 12 = nI m) (hm2 : m ≤ 12) (hl : LnOK z n m) (b : Int32) (h1 : P (some (.int (fv (rider z n m b)))) (SC L, uR I 150 z, Q)) : Runs l 103 [.ref 149, .int b] (SC L, uR I 150 z, Q) P :=
  r_riderTo (I := uR I 150 z) hQ (by rw [uR_s]; exact hn) hn2 (by rw [uR_s]; exact hm) hm2 (by rw [uR_s]; exact hl) b (by rw [uR_s]; exact h1)
theorem rz_takeFare (hQ : QM Q) {m i : Nat} (hm : z 12 = nI m) (hm2 : m ≤ 12) (hi : i < 12) (a b r : Int32) (h1 : ∀ p, p < m → z (15 + p) = z (tp i 0) → P none (SC L, uR I 150 (zFare (zLeave z i p m) i a b r), Q)) (h2 : (∀ p, p < m → z (15 + p) ≠ z (tp i 0)) → P none (SC L, uR I 150 (zFare (upd z (tp i 8) 0) i a b r), Q)) : Runs l 104 [.ref 149, .int (nI i), .int a, .int b, .int r] (SC L, uR I 150 z, Q) P :=
  r_takeFare (I := uR I 150 z) hQ (by rw [uR_s]; exact hm) hm2 hi a b r (by simp only [uR_s, uR_uR]; exact h1) (by simp only [uR_s, uR_uR]; exact h2)
theorem rz_ride (hQ : QM Q) {i : Nat} (hi : i < 12) (h1 : P none (SC L, uR I 150 (zRide z i), Q)) : Runs l 106 [.ref 149, .int (nI i)] (SC L, uR I 150 z, Q) P :=
  r_ride (I := uR I 150 z) hQ hi (by simp only [uR_s, uR_uR]; exact h1)
theorem rz_comeBack (hQ : QM Q) {n m i : Nat} (hn : z 11 = nI n) (hn2 : n ≤ 12) (hm : z 12 = nI m) (hm2 : m < 12) (hl : LnOK z n m) (hi : i < 12) (h1 : P none (SC L, uR I 150 (zBack z i n m), Q)) : Runs l 108 [.ref 149, .int (nI i)] (SC L, uR I 150 z, Q) P :=
  r_comeBack (I := uR I 150 z) hQ (by rw [uR_s]; exact hn) hn2 (by rw [uR_s]; exact hm) hm2 (by rw [uR_s]; exact hl) hi (by simp only [uR_s, uR_uR]; exact h1)
theorem LnOK_same {z z' : Nat → Int32} {n m : Nat} (h : LnOK z n m) (h1 : ∀ i, z' (tp i 0) = z (tp i 0)) (h2 : ∀ k, k < m → z' (15 + k) = z (15 + k)) : LnOK z' n m := by
  intro k hk
  obtain ⟨i, a, b⟩ := h k hk
  exact ⟨i, a, by rw [h1, h2 k hk]; exact b⟩
theorem zPaid1_tp (z : Nat → Int32) (i j u : Nat) (hu : u < 13) (h : u ≠ 6) : zPaid1 z i (tp j u) = z (tp j u) := by
  simp only [zPaid1, upd, tp]
  rw [if_neg (by omega), if_neg (by omega)]
theorem zPaid1_S (z : Nat → Int32) (i k : Nat) (hk : k < 72) (h : k ≠ 9) : zPaid1 z i k = z k := by
  simp only [zPaid1, upd, tp]
  rw [if_neg (by omega), if_neg (by omega)]
set_option maxRecDepth 100000 in
theorem rz_bePaid (hQ : QM Q) {n m i : Nat} (hn : z 11 = nI n) (hn2 : n ≤ 12) (hm : z 12 = nI m) (hm2 : m < 12) (hl : LnOK z n m) (hi : i < 12) (h1 : P none (SC L, uR I 150 (zPaid z i n m), Q)) : Runs l 109 [.ref 149, .int (nI i)] (SC L, uR I 150 z, Q) P := by
  refine run0 (n := 2) mok_109 ⟨rfl, rfl⟩ rfl ?_
  refine wk (fn3_ok l L) ok_109 200 (fun pc => pc == 60) ?_
  simp only [fn3, kk_109, Option.toList_some, Option.toList_none, ex, sym, popN, goC, callOK, swL, List.map_cons, List.map_nil, List.replicate_zero, List.replicate_succ, List.append_nil, List.nil_append, List.cons_append, List.getElem?_cons_zero, List.getElem?_cons_succ, List.set_cons_zero, List.set_cons_succ, List.length_cons, List.length_nil, List.head?_cons, Nat.reduceAdd, Nat.reduceLT, Nat.reduceLeDiff, Nat.reduceBEq, Nat.reduceEqDiff, Nat.succ_ne_zero, Nat.zero_lt_succ, Nat.le_refl, sc_rows, kc_lit, nc_lit, wlk_rows, uR_s, uR_uR, true_and, and_true, true_or, or_true, false_or, or_false, and_false, false_and, or_self, and_self, if_true, if_false, Bool.false_eq_true, Bool.or_false, Bool.or_true, Bool.false_or, Bool.true_or, not_true_eq_false, not_false_eq_true, forall_const, true_implies, false_implies, implies_true, reduceIte, reduceCtorEq, hQ.1, hQ, hm, smI (show i < 2147483648 by omega), hi, b2_0, b2_n0, upd_tp, upd_tpS, upd_S, nz_lit, fA_in, fA_size, fA_of, fA_lay, fA_tally, fA_waits, MOKh_eq, setZ_eq, ix_lit, in_lit, lt_lit, cl_lit, nz_lit, fn1, fn2, fA_stays, fA_tired, fA_begin, fA_fare, fA_place, fA_may]
  unfold zPaid at h1
  have hz1 : upd (upd z (tp i 6) (z (tp i 6) + fare32 (z (tp i 10)) (z (tp i 11)))) 9 (z 9 + fare32 (z (tp i 10)) (z (tp i 11))) = zPaid1 z i := rfl
  rw [hz1]
  refine ⟨fun g => ?_, fun g => ?_⟩
  · rw [if_neg g] at h1
    have e0 : zPaid1 z i 0 = z 0 := zPaid1_S z i 0 (by omega) (by omega)
    by_cases g2 : z (tp i 11) - 10 < 0
    · rw [if_pos g2] at h1
      simp only [Int32.not_le.mpr g2, false_implies, true_and, not_false_eq_true, forall_const, e0]
      exact h1
    · rw [if_neg g2] at h1
      simp only [Int32.not_lt.mp g2, true_implies, not_true_eq_false, false_implies, and_true, e0]
      exact h1
  · rw [if_pos g] at h1
    refine wk (fn3_ok l L) ok_109 4 (fun pc => false) ?_
    simp only [fn3, kk_109, Option.toList_some, Option.toList_none, ex, sym, popN, goC, callOK, swL, List.map_cons, List.map_nil, List.replicate_zero, List.replicate_succ, List.append_nil, List.nil_append, List.cons_append, List.getElem?_cons_zero, List.getElem?_cons_succ, List.set_cons_zero, List.set_cons_succ, List.length_cons, List.length_nil, List.head?_cons, Nat.reduceAdd, Nat.reduceLT, Nat.reduceLeDiff, Nat.reduceBEq, Nat.reduceEqDiff, Nat.succ_ne_zero, Nat.zero_lt_succ, Nat.le_refl, sc_rows, kc_lit, nc_lit, wlk_rows, uR_s, uR_uR, true_and, and_true, true_or, or_true, false_or, or_false, and_false, false_and, or_self, and_self, if_true, if_false, Bool.false_eq_true, Bool.or_false, Bool.or_true, Bool.false_or, Bool.true_or, not_true_eq_false, not_false_eq_true, forall_const, true_implies, false_implies, implies_true, reduceIte, reduceCtorEq, fA_in, fA_size, fA_of, fA_lay, fA_tally, fA_waits, MOKh_eq, setZ_eq, ix_lit, in_lit, lt_lit, cl_lit, nz_lit, fn1, fn2, fA_stays, fA_tired, fA_begin, fA_fare, fA_place, fA_may]
    refine rz_comeBack hQ (n := n) (m := m) (by rw [zPaid1_S z i 11 (by omega) (by omega)]; exact hn) hn2 (by rw [zPaid1_S z i 12 (by omega) (by omega)]; exact hm) hm2 (LnOK_same hl (fun j => zPaid1_tp z i j 0 (by omega) (by omega)) (fun k hk => zPaid1_S z i _ (by omega) (by omega))) hi ?_
    refine wk (fn3_ok l L) ok_109 10 (fun pc => false) ?_
    simp only [fn3, kk_109, Option.toList_some, Option.toList_none, ex, sym, popN, goC, callOK, swL, List.map_cons, List.map_nil, List.replicate_zero, List.replicate_succ, List.append_nil, List.nil_append, List.cons_append, List.getElem?_cons_zero, List.getElem?_cons_succ, List.set_cons_zero, List.set_cons_succ, List.length_cons, List.length_nil, List.head?_cons, Nat.reduceAdd, Nat.reduceLT, Nat.reduceLeDiff, Nat.reduceBEq, Nat.reduceEqDiff, Nat.succ_ne_zero, Nat.zero_lt_succ, Nat.le_refl, sc_rows, kc_lit, nc_lit, wlk_rows, uR_s, uR_uR, true_and, and_true, true_or, or_true, false_or, or_false, and_false, false_and, or_self, and_self, if_true, if_false, Bool.false_eq_true, Bool.or_false, Bool.or_true, Bool.false_or, Bool.true_or, not_true_eq_false, not_false_eq_true, forall_const, true_implies, false_implies, implies_true, reduceIte, reduceCtorEq, fA_in, fA_size, fA_of, fA_lay, fA_tally, fA_waits, MOKh_eq, setZ_eq, ix_lit, in_lit, lt_lit, cl_lit, nz_lit, fn1, fn2, fA_stays, fA_tired, fA_begin, fA_fare, fA_place, fA_may]
    exact h1
end T7
