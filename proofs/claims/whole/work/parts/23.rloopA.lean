/-! the reference's loops: taxis by plates, the line -/
theorem ixp {n N : Nat} (h : n < N) (hN : N < 2147483648) : vp_in (nI n) N ∧ (nI n).toNatClampNeg = n := ⟨vp_in_nI h hN, nI_clamp (by omega)⟩
theorem smI {i : Nat} (h : i < 2147483648) : ix (nI i) = i ∧ (nI i < 0) = False := ⟨nI_clamp h, by simp [nI_pos h]⟩
theorem leF {a b : Nat} (h : b < a) (ha : a < 2147483648) : (nI a ≤ nI b) = False := by simp [nI_leI (a := a) (b := b) (by omega) (by omega)]; omega
theorem leT {a b : Nat} (h : a ≤ b) (hb : b < 2147483648) : (nI a ≤ nI b) = True := by simp [nI_leI (a := a) (b := b) (by omega) (by omega)]; omega
theorem ltF {a b : Nat} (h : b ≤ a) (ha : a < 2147483648) : (nI a < nI b) = False := by simp [nI_ltI (a := a) (b := b) (by omega) (by omega)]; omega
theorem ltT {a b : Nat} (h : a < b) (hb : b < 2147483648) : (nI a < nI b) = True := by simp [nI_ltI (a := a) (b := b) (by omega) (by omega)]; omega
theorem eqF {a b : Nat} (h : a ≠ b) (ha : a < 2147483648) (hb : b < 2147483648) : (nI a = nI b) = False := by simp [nI_eq (a := a) (b := b) (by omega) (by omega)]; omega
theorem n5F {a : Nat} (ha : a < 2147483648) : (nI a = -5) = False := by
  apply eq_false
  intro e
  have h0 := nI_pos ha
  rw [e] at h0
  exact h0 (by decide)
theorem nI_add15 (k : Nat) : (15 : Int32) + nI k = nI (15 + k) := by rw [show (15 : Int32) = nI 15 from rfl, nI_add]
theorem nI_up (k : Nat) : nI k + 1 = nI (k + 1) := nI_1 k
theorem nI_dn {k : Nat} (h : 0 < k) : nI k + (-1) = nI (k - 1) ∧ nI k - 1 = nI (k - 1) := by
  obtain ⟨j, rfl⟩ : ∃ j, k = j + 1 := ⟨k - 1, by omega⟩
  exact ⟨pk_m1 j, nI_pred j⟩
section T4
variable {l : Launch} {L : Nat} {I : Nat → Nat → Int32} {Q : Nat → Nat → Option Nat} {P : Option Value → PH → Prop}
set_option maxRecDepth 100000 in
theorem r_taxiWith (hQ : QM Q) {n : Nat} (hn : I 150 11 = nI n) (hn2 : n ≤ 12) (p : Int32) (h1 : ∀ i, i < n → I 150 (tp i 0) = p → P (some (.int (nI i))) (SC L, I, Q)) (h2 : (∀ i, i < n → I 150 (tp i 0) ≠ p) → P (some (.int (-5))) (SC L, I, Q)) : Runs l 89 [.ref 149, .int p] (SC L, I, Q) P := by
  have loop : ∀ d i f, i + d = n → ((f = -5 ∧ ∀ j, j < i → I 150 (tp j 0) ≠ p) ∨ ∃ j, j < i ∧ I 150 (tp j 0) = p ∧ f = nI j) → Sy l 89 (156, 3525) 5 [some (.ref 149), some (.int p), some (.int f), some (.int (nI i))] [] (SC L, I, Q) P := by
    intro d
    induction d with
    | zero =>
      intro i f hi hf
      have : i = n := by omega
      subst this
      refine wk (fn1_ok l L) ok_89 30 (fun pc => pc == 5) ?_
      simp only [fn1, kk_89, Option.toList_some, Option.toList_none, ex, sym, popN, goC, callOK, swL, List.map_cons, List.map_nil, List.replicate_zero, List.replicate_succ, List.append_nil, List.nil_append, List.cons_append, List.getElem?_cons_zero, List.getElem?_cons_succ, List.set_cons_zero, List.set_cons_succ, List.length_cons, List.length_nil, List.head?_cons, Nat.reduceAdd, Nat.reduceLT, Nat.reduceLeDiff, Nat.reduceBEq, Nat.reduceEqDiff, Nat.succ_ne_zero, Nat.zero_lt_succ, Nat.le_refl, sc_rows, kc_lit, nc_lit, wlk_rows, uR_s, uR_uR, true_and, and_true, true_or, or_true, false_or, or_false, and_false, false_and, or_self, and_self, if_true, if_false, Bool.false_eq_true, Bool.or_false, Bool.or_true, Bool.false_or, Bool.true_or, not_true_eq_false, not_false_eq_true, forall_const, true_implies, false_implies, implies_true, reduceIte, reduceCtorEq, hQ.1, hn, leT (Nat.le_refl i) (show i < 2147483648 by omega), fA_in, fA_size, fA_of, fA_lay, fA_tally, fA_waits, MOKh_eq, setZ_eq, ix_lit, in_lit, lt_lit, cl_lit, nz_lit]
      rcases hf with ⟨rfl, g⟩ | ⟨j, g1, g2, rfl⟩
      · exact h2 g
      · exact h1 j (by omega) g2
    | succ d ih =>
      intro i f hi hf
      refine wk (fn1_ok l L) ok_89 30 (fun pc => pc == 5) ?_
      simp only [fn1, kk_89, Option.toList_some, Option.toList_none, ex, sym, popN, goC, callOK, swL, List.map_cons, List.map_nil, List.replicate_zero, List.replicate_succ, List.append_nil, List.nil_append, List.cons_append, List.getElem?_cons_zero, List.getElem?_cons_succ, List.set_cons_zero, List.set_cons_succ, List.length_cons, List.length_nil, List.head?_cons, Nat.reduceAdd, Nat.reduceLT, Nat.reduceLeDiff, Nat.reduceBEq, Nat.reduceEqDiff, Nat.succ_ne_zero, Nat.zero_lt_succ, Nat.le_refl, sc_rows, kc_lit, nc_lit, wlk_rows, uR_s, uR_uR, true_and, and_true, true_or, or_true, false_or, or_false, and_false, false_and, or_self, and_self, if_true, if_false, Bool.false_eq_true, Bool.or_false, Bool.or_true, Bool.false_or, Bool.true_or, not_true_eq_false, not_false_eq_true, forall_const, true_implies, false_implies, implies_true, reduceIte, reduceCtorEq, hQ.1, hQ, hn, leF (show i < n by omega) (show n < 2147483648 by omega), smI (show i < 2147483648 by omega), show i < 12 by omega, nI_up, fA_in, fA_size, fA_of, fA_lay, fA_tally, fA_waits, MOKh_eq, setZ_eq, ix_lit, in_lit, lt_lit, cl_lit, nz_lit]
      refine ⟨fun g => ih (i + 1) f (by omega) ?_, fun g => ih (i + 1) (nI i) (by omega) (Or.inr ⟨i, by omega, g, rfl⟩)⟩
      rcases hf with ⟨rfl, q⟩ | ⟨j, g1, g2, rfl⟩
      · refine Or.inl ⟨rfl, fun j hj => ?_⟩
        by_cases e : j = i
        · subst e; exact g
        · exact q j (by omega)
      · exact Or.inr ⟨j, by omega, g2, rfl⟩
  refine run0 (n := 2) mok_89 ⟨rfl, rfl⟩ rfl ?_
  refine wk (fn1_ok l L) ok_89 30 (fun pc => pc == 5) ?_
  simp only [fn1, kk_89, Option.toList_some, Option.toList_none, ex, sym, popN, goC, callOK, swL, List.map_cons, List.map_nil, List.replicate_zero, List.replicate_succ, List.append_nil, List.nil_append, List.cons_append, List.getElem?_cons_zero, List.getElem?_cons_succ, List.set_cons_zero, List.set_cons_succ, List.length_cons, List.length_nil, List.head?_cons, Nat.reduceAdd, Nat.reduceLT, Nat.reduceLeDiff, Nat.reduceBEq, Nat.reduceEqDiff, Nat.succ_ne_zero, Nat.zero_lt_succ, Nat.le_refl, sc_rows, kc_lit, nc_lit, wlk_rows, uR_s, uR_uR, true_and, and_true, true_or, or_true, false_or, or_false, and_false, false_and, or_self, and_self, if_true, if_false, Bool.false_eq_true, Bool.or_false, Bool.or_true, Bool.false_or, Bool.true_or, not_true_eq_false, not_false_eq_true, forall_const, true_implies, false_implies, implies_true, reduceIte, reduceCtorEq, fA_in, fA_size, fA_of, fA_lay, fA_tally, fA_waits, MOKh_eq, setZ_eq, ix_lit, in_lit, lt_lit, cl_lit, nz_lit]
  exact loop n 0 (-5) (by omega) (Or.inl ⟨rfl, fun j hj => absurd hj (by omega)⟩)
set_option maxRecDepth 100000 in
theorem r_placeInLine (hQ : QM Q) {m : Nat} (hm : I 150 12 = nI m) (hm2 : m ≤ 12) (p : Int32) (h1 : ∀ i, i < m → I 150 (15 + i) = p → P (some (.int (nI i))) (SC L, I, Q)) (h2 : (∀ i, i < m → I 150 (15 + i) ≠ p) → P (some (.int (-5))) (SC L, I, Q)) : Runs l 96 [.ref 149, .int p] (SC L, I, Q) P := by
  have loop : ∀ d i f, i + d = m → ((f = -5 ∧ ∀ j, j < i → I 150 (15 + j) ≠ p) ∨ ∃ j, j < i ∧ I 150 (15 + j) = p ∧ f = nI j) → Sy l 96 (156, 3525) 5 [some (.ref 149), some (.int p), some (.int f), some (.int (nI i))] [] (SC L, I, Q) P := by
    intro d
    induction d with
    | zero =>
      intro i f hi hf
      have : i = m := by omega
      subst this
      refine wk (fn1_ok l L) ok_96 30 (fun pc => pc == 5) ?_
      simp only [fn1, kk_96, Option.toList_some, Option.toList_none, ex, sym, popN, goC, callOK, swL, List.map_cons, List.map_nil, List.replicate_zero, List.replicate_succ, List.append_nil, List.nil_append, List.cons_append, List.getElem?_cons_zero, List.getElem?_cons_succ, List.set_cons_zero, List.set_cons_succ, List.length_cons, List.length_nil, List.head?_cons, Nat.reduceAdd, Nat.reduceLT, Nat.reduceLeDiff, Nat.reduceBEq, Nat.reduceEqDiff, Nat.succ_ne_zero, Nat.zero_lt_succ, Nat.le_refl, sc_rows, kc_lit, nc_lit, wlk_rows, uR_s, uR_uR, true_and, and_true, true_or, or_true, false_or, or_false, and_false, false_and, or_self, and_self, if_true, if_false, Bool.false_eq_true, Bool.or_false, Bool.or_true, Bool.false_or, Bool.true_or, not_true_eq_false, not_false_eq_true, forall_const, true_implies, false_implies, implies_true, reduceIte, reduceCtorEq, hQ.1, hm, leT (Nat.le_refl i) (show i < 2147483648 by omega), fA_in, fA_size, fA_of, fA_lay, fA_tally, fA_waits, MOKh_eq, setZ_eq, ix_lit, in_lit, lt_lit, cl_lit, nz_lit]
      rcases hf with ⟨rfl, g⟩ | ⟨j, g1, g2, rfl⟩
      · exact h2 g
      · exact h1 j (by omega) g2
    | succ d ih =>
      intro i f hi hf
      refine wk (fn1_ok l L) ok_96 30 (fun pc => pc == 5) ?_
      simp only [fn1, kk_96, Option.toList_some, Option.toList_none, ex, sym, popN, goC, callOK, swL, List.map_cons, List.map_nil, List.replicate_zero, List.replicate_succ, List.append_nil, List.nil_append, List.cons_append, List.getElem?_cons_zero, List.getElem?_cons_succ, List.set_cons_zero, List.set_cons_succ, List.length_cons, List.length_nil, List.head?_cons, Nat.reduceAdd, Nat.reduceLT, Nat.reduceLeDiff, Nat.reduceBEq, Nat.reduceEqDiff, Nat.succ_ne_zero, Nat.zero_lt_succ, Nat.le_refl, sc_rows, kc_lit, nc_lit, wlk_rows, uR_s, uR_uR, true_and, and_true, true_or, or_true, false_or, or_false, and_false, false_and, or_self, and_self, if_true, if_false, Bool.false_eq_true, Bool.or_false, Bool.or_true, Bool.false_or, Bool.true_or, not_true_eq_false, not_false_eq_true, forall_const, true_implies, false_implies, implies_true, reduceIte, reduceCtorEq, hQ.1, hQ, hm, leF (show i < m by omega) (show m < 2147483648 by omega), nI_add15, ixp (show 15 + i < 228 by omega) (by omega), nI_up, fA_in, fA_size, fA_of, fA_lay, fA_tally, fA_waits, MOKh_eq, setZ_eq, ix_lit, in_lit, lt_lit, cl_lit, nz_lit]
      refine ⟨fun g => ih (i + 1) f (by omega) ?_, fun g => ih (i + 1) (nI i) (by omega) (Or.inr ⟨i, by omega, g, rfl⟩)⟩
      rcases hf with ⟨rfl, q⟩ | ⟨j, g1, g2, rfl⟩
      · refine Or.inl ⟨rfl, fun j hj => ?_⟩
        by_cases e : j = i
        · subst e; exact g
        · exact q j (by omega)
      · exact Or.inr ⟨j, by omega, g2, rfl⟩
  refine run0 (n := 2) mok_96 ⟨rfl, rfl⟩ rfl ?_
  refine wk (fn1_ok l L) ok_96 30 (fun pc => pc == 5) ?_
  simp only [fn1, kk_96, Option.toList_some, Option.toList_none, ex, sym, popN, goC, callOK, swL, List.map_cons, List.map_nil, List.replicate_zero, List.replicate_succ, List.append_nil, List.nil_append, List.cons_append, List.getElem?_cons_zero, List.getElem?_cons_succ, List.set_cons_zero, List.set_cons_succ, List.length_cons, List.length_nil, List.head?_cons, Nat.reduceAdd, Nat.reduceLT, Nat.reduceLeDiff, Nat.reduceBEq, Nat.reduceEqDiff, Nat.succ_ne_zero, Nat.zero_lt_succ, Nat.le_refl, sc_rows, kc_lit, nc_lit, wlk_rows, uR_s, uR_uR, true_and, and_true, true_or, or_true, false_or, or_false, and_false, false_and, or_self, and_self, if_true, if_false, Bool.false_eq_true, Bool.or_false, Bool.or_true, Bool.false_or, Bool.true_or, not_true_eq_false, not_false_eq_true, forall_const, true_implies, false_implies, implies_true, reduceIte, reduceCtorEq, fA_in, fA_size, fA_of, fA_lay, fA_tally, fA_waits, MOKh_eq, setZ_eq, ix_lit, in_lit, lt_lit, cl_lit, nz_lit]
  exact loop m 0 (-5) (by omega) (Or.inl ⟨rfl, fun j hj => absurd hj (by omega)⟩)
/-- the line, from a place on, one further back -/
def shR (z : Nat → Int32) (p k m : Nat) : Nat → Int32 := fun j => if 15 + p < j ∧ 15 + k < j ∧ j ≤ 15 + m then z (j - 1) else z j
theorem shR_step (z : Nat → Int32) {p k m : Nat} (h : p < k) (hk : k ≤ m) : upd (shR z p k m) (15 + k) (shR z p k m (15 + k - 1)) = shR z p (k - 1) m := by
  funext j
  simp only [upd, shR]
  by_cases e : j = 15 + k
  · subst e
    rw [if_pos rfl, if_neg (by omega), if_pos (by omega)]
  · rw [if_neg e]
    by_cases e2 : 15 + p < j ∧ 15 + k < j ∧ j ≤ 15 + m
    · rw [if_pos e2, if_pos (by omega)]
    · rw [if_neg e2, if_neg (by omega)]
def zStand (z : Nat → Int32) (i p m : Nat) : Nat → Int32 := upd (upd (upd (upd (shR z p p m) (15 + p) (z (tp i 0))) 12 (nI (m + 1))) (tp i 1) 0) (tp i 2) 0
set_option maxRecDepth 100000 in
theorem r_standAt (hQ : QM Q) {m i p : Nat} (hm : I 150 12 = nI m) (hm2 : m < 12) (hi : i < 12) (hp : p ≤ m) (h1 : P none (SC L, uR I 150 (zStand (I 150) i p m), Q)) : Runs l 97 [.ref 149, .int (nI i), .int (nI p)] (SC L, I, Q) P := by
  have loop : ∀ d k, p + d = k → k ≤ m → Sy l 97 (156, 3525) 8 [some (.ref 149), some (.int (nI i)), some (.int (nI p)), some (.int (nI k))] [] (SC L, uR I 150 (shR (I 150) p k m), Q) P := by
    intro d
    induction d with
    | zero =>
      intro k hk hkm
      have : k = p := by omega
      subst this
      have e1 : shR (I 150) k k m (tp i 0) = I 150 (tp i 0) := by
        simp only [shR]
        rw [if_neg (by simp only [tp]; omega)]
      have e2 : upd (shR (I 150) k k m) (15 + k) (I 150 (tp i 0)) 12 = nI m := by
        simp only [upd, shR]
        rw [if_neg (by omega), if_neg (by omega)]
        exact hm
      refine wk (fn1_ok l L) ok_97 60 (fun pc => pc == 8) ?_
      simp only [fn1, kk_97, Option.toList_some, Option.toList_none, ex, sym, popN, goC, callOK, swL, List.map_cons, List.map_nil, List.replicate_zero, List.replicate_succ, List.append_nil, List.nil_append, List.cons_append, List.getElem?_cons_zero, List.getElem?_cons_succ, List.set_cons_zero, List.set_cons_succ, List.length_cons, List.length_nil, List.head?_cons, Nat.reduceAdd, Nat.reduceLT, Nat.reduceLeDiff, Nat.reduceBEq, Nat.reduceEqDiff, Nat.succ_ne_zero, Nat.zero_lt_succ, Nat.le_refl, sc_rows, kc_lit, nc_lit, wlk_rows, uR_s, uR_uR, true_and, and_true, true_or, or_true, false_or, or_false, and_false, false_and, or_self, and_self, if_true, if_false, Bool.false_eq_true, Bool.or_false, Bool.or_true, Bool.false_or, Bool.true_or, not_true_eq_false, not_false_eq_true, forall_const, true_implies, false_implies, implies_true, reduceIte, reduceCtorEq, hQ.1, hQ, leT (Nat.le_refl k) (show k < 2147483648 by omega), nI_add15, ixp (show 15 + k < 228 by omega) (by omega), smI (show i < 2147483648 by omega), hi, e1, e2, nI_up, fA_in, fA_size, fA_of, fA_lay, fA_tally, fA_waits, MOKh_eq, setZ_eq, ix_lit, in_lit, lt_lit, cl_lit, nz_lit]
      exact h1
    | succ d ih =>
      intro k hk hkm
      have := ih (k - 1) (by omega) (by omega)
      rw [← shR_step (I 150) (show p < k by omega) hkm] at this
      refine wk (fn1_ok l L) ok_97 30 (fun pc => pc == 8) ?_
      simp only [fn1, kk_97, Option.toList_some, Option.toList_none, ex, sym, popN, goC, callOK, swL, List.map_cons, List.map_nil, List.replicate_zero, List.replicate_succ, List.append_nil, List.nil_append, List.cons_append, List.getElem?_cons_zero, List.getElem?_cons_succ, List.set_cons_zero, List.set_cons_succ, List.length_cons, List.length_nil, List.head?_cons, Nat.reduceAdd, Nat.reduceLT, Nat.reduceLeDiff, Nat.reduceBEq, Nat.reduceEqDiff, Nat.succ_ne_zero, Nat.zero_lt_succ, Nat.le_refl, sc_rows, kc_lit, nc_lit, wlk_rows, uR_s, uR_uR, true_and, and_true, true_or, or_true, false_or, or_false, and_false, false_and, or_self, and_self, if_true, if_false, Bool.false_eq_true, Bool.or_false, Bool.or_true, Bool.false_or, Bool.true_or, not_true_eq_false, not_false_eq_true, forall_const, true_implies, false_implies, implies_true, reduceIte, reduceCtorEq, hQ.1, hQ, leF (show p < k by omega) (show k < 2147483648 by omega), nI_add15, ixp (show 15 + k < 228 by omega) (by omega), ixp (show 15 + k - 1 < 228 by omega) (by omega), nI_dn (show 0 < 15 + k by omega), nI_dn (show 0 < k by omega), fA_in, fA_size, fA_of, fA_lay, fA_tally, fA_waits, MOKh_eq, setZ_eq, ix_lit, in_lit, lt_lit, cl_lit, nz_lit]
      exact this
  refine run0 (n := 1) mok_97 ⟨rfl, rfl⟩ rfl ?_
  refine wk (fn1_ok l L) ok_97 30 (fun pc => pc == 8) ?_
  simp only [fn1, kk_97, Option.toList_some, Option.toList_none, ex, sym, popN, goC, callOK, swL, List.map_cons, List.map_nil, List.replicate_zero, List.replicate_succ, List.append_nil, List.nil_append, List.cons_append, List.getElem?_cons_zero, List.getElem?_cons_succ, List.set_cons_zero, List.set_cons_succ, List.length_cons, List.length_nil, List.head?_cons, Nat.reduceAdd, Nat.reduceLT, Nat.reduceLeDiff, Nat.reduceBEq, Nat.reduceEqDiff, Nat.succ_ne_zero, Nat.zero_lt_succ, Nat.le_refl, sc_rows, kc_lit, nc_lit, wlk_rows, uR_s, uR_uR, true_and, and_true, true_or, or_true, false_or, or_false, and_false, false_and, or_self, and_self, if_true, if_false, Bool.false_eq_true, Bool.or_false, Bool.or_true, Bool.false_or, Bool.true_or, not_true_eq_false, not_false_eq_true, forall_const, true_implies, false_implies, implies_true, reduceIte, reduceCtorEq, hQ.1, hm, fA_in, fA_size, fA_of, fA_lay, fA_tally, fA_waits, MOKh_eq, setZ_eq, ix_lit, in_lit, lt_lit, cl_lit, nz_lit]
  have := loop (m - p) m (by omega) (Nat.le_refl m)
  have e : uR I 150 (shR (I 150) p m m) = I := by
    funext q j
    by_cases hq : q = 150
    · subst hq
      rw [uR_s]
      simp only [shR]
      rw [if_neg (by omega)]
    · rw [uR_n _ _ hq]
  rw [e] at this
  exact this
end T4
