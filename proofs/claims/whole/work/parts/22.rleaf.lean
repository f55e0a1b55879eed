/-! the reference's methods without loops, and what they mean -/
abbrev irem (x y : Int32) : Int32 := x - x / y * y
abbrev stays (z : Nat → Int32) (i : Nat) : Prop := irem (z (tp i 0)) 10 = irem (z 5 / 1440) 10
abbrev tired (z : Nat → Int32) (i : Nat) : Prop := z 3 ≤ z (tp i 3)
abbrev may (z : Nat → Int32) (i : Nat) : Prop := ¬ stays z i ∧ ¬ tired z i
abbrev fare32 (a b : Int32) : Int32 := 30 + 12 * sz32 (b - a)
theorem ix_lit : ix 0 = 0 ∧ ix 1 = 1 ∧ ix 2 = 2 ∧ ix 3 = 3 ∧ ix 4 = 4 ∧ ix 5 = 5 ∧ ix 6 = 6 ∧ ix 7 = 7 ∧ ix 8 = 8 ∧ ix 9 = 9 ∧ ix 10 = 10 ∧ ix 11 = 11 ∧ ix 12 = 12 ∧ ix 13 = 13 ∧ ix 14 = 14 ∧ ix 15 = 15 := by decide
theorem in_lit : vp_in 0 228 ∧ vp_in 1 228 ∧ vp_in 2 228 ∧ vp_in 3 228 ∧ vp_in 4 228 ∧ vp_in 5 228 ∧ vp_in 6 228 ∧ vp_in 7 228 ∧ vp_in 8 228 ∧ vp_in 9 228 ∧ vp_in 10 228 ∧ vp_in 11 228 ∧ vp_in 12 228 ∧ vp_in 13 228 ∧ vp_in 14 228 ∧ vp_in 15 228 := by unfold vp_in; decide
theorem lt_lit : (((0 : Int32) < 0) = False) ∧ (((1 : Int32) < 0) = False) ∧ (((2 : Int32) < 0) = False) ∧ (((3 : Int32) < 0) = False) ∧ (((4 : Int32) < 0) = False) ∧ (((5 : Int32) < 0) = False) ∧ (((6 : Int32) < 0) = False) ∧ (((7 : Int32) < 0) = False) ∧ (((8 : Int32) < 0) = False) ∧ (((9 : Int32) < 0) = False) ∧ (((10 : Int32) < 0) = False) ∧ (((11 : Int32) < 0) = False) ∧ (((12 : Int32) < 0) = False) := by decide
theorem cl_lit : (0 : Int32).toNatClampNeg = 0 ∧ (1 : Int32).toNatClampNeg = 1 ∧ (2 : Int32).toNatClampNeg = 2 ∧ (3 : Int32).toNatClampNeg = 3 ∧ (4 : Int32).toNatClampNeg = 4 ∧ (5 : Int32).toNatClampNeg = 5 ∧ (6 : Int32).toNatClampNeg = 6 ∧ (7 : Int32).toNatClampNeg = 7 ∧ (8 : Int32).toNatClampNeg = 8 ∧ (9 : Int32).toNatClampNeg = 9 ∧ (10 : Int32).toNatClampNeg = 10 ∧ (11 : Int32).toNatClampNeg = 11 ∧ (12 : Int32).toNatClampNeg = 12 ∧ (13 : Int32).toNatClampNeg = 13 ∧ (14 : Int32).toNatClampNeg = 14 ∧ (15 : Int32).toNatClampNeg = 15 := by decide
theorem nz_lit : ((10 : Int32) = 0) = False ∧ ((1440 : Int32) = 0) = False ∧ ((-1 : Int32) = 0) = False ∧ ((1 : Int32) = 0) = False := by decide
theorem setZ_eq (S : PS) (I : Nat → Nat → Int32) (Q : Nat → Nat → Option Nat) (k : Nat) (v : Int32) : setZ (S, I, Q) k v = (S, uR I 150 (upd (I 150) k v), Q) := rfl
def fA_stays (L : Nat) : FN := fun As h => match As with
  | [.ref 149, .int t] => (MOKh L h ∧ (¬ t < 0 ∧ ix t < 12), [.int (b2 (stays (h.2.1 150) (ix t)))], h)
  | _ => (False, [], h)
def fA_tired (L : Nat) : FN := fun As h => match As with
  | [.ref 149, .int t] => (MOKh L h ∧ (¬ t < 0 ∧ ix t < 12), [.int (b2 (tired (h.2.1 150) (ix t)))], h)
  | _ => (False, [], h)
def fA_may (L : Nat) : FN := fun As h => match As with
  | [.ref 149, .int t] => (MOKh L h ∧ (¬ t < 0 ∧ ix t < 12), [.int (b2 (may (h.2.1 150) (ix t)))], h)
  | _ => (False, [], h)
def fA_begin (L : Nat) : FN := fun As h => match As with
  | [.ref 149, .int t, .int d, .int m] => (MOKh L h ∧ (¬ t < 0 ∧ ix t < 12), [], setZ (setZ h (tp (ix t) 1) d) (tp (ix t) 2) m)
  | _ => (False, [], h)
def fA_fare (L : Nat) : FN := fun As h => match As with
  | [.int a, .int b] => (MOKh L h, [.int (fare32 a b)], h)
  | _ => (False, [], h)
def fA_place (L : Nat) : FN := fun As h => match As with
  | [.int v] => (MOKh L h, [.int (b2 (0 ≤ v ∧ v ≤ 20))], h)
  | _ => (False, [], h)
section T2
variable {l : Launch} {L : Nat} {I : Nat → Nat → Int32} {Q : Nat → Nat → Option Nat} {P : Option Value → PH → Prop}
set_option maxRecDepth 100000 in
theorem s_isPlace (v : Int32) (hp : P (some (.int (b2 (0 ≤ v ∧ v ≤ 20)))) (SC L, I, Q)) : Runs l 85 [.int v] (SC L, I, Q) P := by
  refine run0 (n := 0) mok_85 ⟨rfl, rfl⟩ rfl ?_
  refine wk (fn1_ok l L) ok_85 20 (fun pc => false) ?_
  simp only [fn1, kk_85, Option.toList_some, Option.toList_none, ex, sym, popN, goC, callOK, swL, List.map_cons, List.map_nil, List.replicate_zero, List.replicate_succ, List.append_nil, List.nil_append, List.cons_append, List.getElem?_cons_zero, List.getElem?_cons_succ, List.set_cons_zero, List.set_cons_succ, List.length_cons, List.length_nil, List.head?_cons, Nat.reduceAdd, Nat.reduceLT, Nat.reduceLeDiff, Nat.reduceBEq, Nat.reduceEqDiff, Nat.succ_ne_zero, Nat.zero_lt_succ, Nat.le_refl, sc_rows, kc_lit, nc_lit, wlk_rows, uR_s, uR_uR, true_and, and_true, true_or, or_true, false_or, or_false, and_false, false_and, or_self, and_self, if_true, if_false, Bool.false_eq_true, Bool.or_false, Bool.or_true, Bool.false_or, Bool.true_or, not_true_eq_false, not_false_eq_true, forall_const, true_implies, false_implies, implies_true, reduceIte, reduceCtorEq, fA_in, Option.toList, fA_in, fA_size, fA_of, fA_lay, fA_tally, fA_waits, MOKh_eq, setZ_eq, ix_lit, in_lit, lt_lit, cl_lit, nz_lit]
  exact ⟨b2_01, hp⟩
set_option maxRecDepth 100000 in
theorem s_stays (hQ : QM Q) (t : Int32) (ht : ¬ t < 0 ∧ ix t < 12) (hp : P (some (.int (b2 (stays (I 150) (ix t))))) (SC L, I, Q)) : Runs l 100 [.ref 149, .int t] (SC L, I, Q) P := by
  refine run0 (n := 0) mok_100 ⟨rfl, rfl⟩ rfl ?_
  refine wk (fn1_ok l L) ok_100 30 (fun pc => false) ?_
  simp only [fn1, kk_100, Option.toList_some, Option.toList_none, ex, sym, popN, goC, callOK, swL, List.map_cons, List.map_nil, List.replicate_zero, List.replicate_succ, List.append_nil, List.nil_append, List.cons_append, List.getElem?_cons_zero, List.getElem?_cons_succ, List.set_cons_zero, List.set_cons_succ, List.length_cons, List.length_nil, List.head?_cons, Nat.reduceAdd, Nat.reduceLT, Nat.reduceLeDiff, Nat.reduceBEq, Nat.reduceEqDiff, Nat.succ_ne_zero, Nat.zero_lt_succ, Nat.le_refl, sc_rows, kc_lit, nc_lit, wlk_rows, uR_s, uR_uR, true_and, and_true, true_or, or_true, false_or, or_false, and_false, false_and, or_self, and_self, if_true, if_false, Bool.false_eq_true, Bool.or_false, Bool.or_true, Bool.false_or, Bool.true_or, not_true_eq_false, not_false_eq_true, forall_const, true_implies, false_implies, implies_true, reduceIte, reduceCtorEq, fA_of, MOKh_eq, hQ, hQ.1, ht, ix_lit, in_lit, lt_lit, cl_lit, nz_lit, fA_in, fA_size, fA_of, fA_lay, fA_tally, fA_waits, MOKh_eq, setZ_eq, ix_lit, in_lit, lt_lit, cl_lit, nz_lit]
  refine ⟨fun h1 => ?_, fun h1 => ?_⟩
  · rw [b2_f h1] at hp; exact hp
  · rw [b2_t h1] at hp; exact hp
set_option maxRecDepth 100000 in
theorem s_tired (hQ : QM Q) (t : Int32) (ht : ¬ t < 0 ∧ ix t < 12) (hp : P (some (.int (b2 (tired (I 150) (ix t))))) (SC L, I, Q)) : Runs l 101 [.ref 149, .int t] (SC L, I, Q) P := by
  refine run0 (n := 0) mok_101 ⟨rfl, rfl⟩ rfl ?_
  refine wk (fn1_ok l L) ok_101 30 (fun pc => false) ?_
  simp only [fn1, kk_101, Option.toList_some, Option.toList_none, ex, sym, popN, goC, callOK, swL, List.map_cons, List.map_nil, List.replicate_zero, List.replicate_succ, List.append_nil, List.nil_append, List.cons_append, List.getElem?_cons_zero, List.getElem?_cons_succ, List.set_cons_zero, List.set_cons_succ, List.length_cons, List.length_nil, List.head?_cons, Nat.reduceAdd, Nat.reduceLT, Nat.reduceLeDiff, Nat.reduceBEq, Nat.reduceEqDiff, Nat.succ_ne_zero, Nat.zero_lt_succ, Nat.le_refl, sc_rows, kc_lit, nc_lit, wlk_rows, uR_s, uR_uR, true_and, and_true, true_or, or_true, false_or, or_false, and_false, false_and, or_self, and_self, if_true, if_false, Bool.false_eq_true, Bool.or_false, Bool.or_true, Bool.false_or, Bool.true_or, not_true_eq_false, not_false_eq_true, forall_const, true_implies, false_implies, implies_true, reduceIte, reduceCtorEq, fA_of, MOKh_eq, hQ, hQ.1, ht, ix_lit, in_lit, lt_lit, cl_lit, nz_lit, fA_in, fA_size, fA_of, fA_lay, fA_tally, fA_waits, MOKh_eq, setZ_eq, ix_lit, in_lit, lt_lit, cl_lit, nz_lit]
  refine ⟨fun h1 => ?_, fun h1 => ?_⟩
  · rw [b2_f (Int32.not_le.mpr h1)] at hp; exact hp
  · rw [b2_t (Int32.not_lt.mp h1)] at hp; exact hp
set_option maxRecDepth 100000 in
theorem s_begin (hQ : QM Q) (t d m : Int32) (ht : ¬ t < 0 ∧ ix t < 12) (hp : P none (setZ (setZ (SC L, I, Q) (tp (ix t) 1) d) (tp (ix t) 2) m)) : Runs l 105 [.ref 149, .int t, .int d, .int m] (SC L, I, Q) P := by
  refine run0 (n := 0) mok_105 ⟨rfl, rfl⟩ rfl ?_
  refine wk (fn1_ok l L) ok_105 30 (fun pc => false) ?_
  simp only [fn1, kk_105, Option.toList_some, Option.toList_none, ex, sym, popN, goC, callOK, swL, List.map_cons, List.map_nil, List.replicate_zero, List.replicate_succ, List.append_nil, List.nil_append, List.cons_append, List.getElem?_cons_zero, List.getElem?_cons_succ, List.set_cons_zero, List.set_cons_succ, List.length_cons, List.length_nil, List.head?_cons, Nat.reduceAdd, Nat.reduceLT, Nat.reduceLeDiff, Nat.reduceBEq, Nat.reduceEqDiff, Nat.succ_ne_zero, Nat.zero_lt_succ, Nat.le_refl, sc_rows, kc_lit, nc_lit, wlk_rows, uR_s, uR_uR, true_and, and_true, true_or, or_true, false_or, or_false, and_false, false_and, or_self, and_self, if_true, if_false, Bool.false_eq_true, Bool.or_false, Bool.or_true, Bool.false_or, Bool.true_or, not_true_eq_false, not_false_eq_true, forall_const, true_implies, false_implies, implies_true, reduceIte, reduceCtorEq, fA_lay, MOKh_eq, setZ_eq, hQ, hQ.1, ht, ix_lit, in_lit, lt_lit, cl_lit, nz_lit, fA_in, fA_size, fA_of, fA_lay, fA_tally, fA_waits, MOKh_eq, setZ_eq, ix_lit, in_lit, lt_lit, cl_lit, nz_lit]
  simp only [setZ_eq, uR_s, uR_uR] at hp
  exact hp
set_option maxRecDepth 100000 in
theorem s_fare (a b : Int32) (hp : P (some (.int (fare32 a b))) (SC L, I, Q)) : Runs l 107 [.int a, .int b] (SC L, I, Q) P := by
  refine run0 (n := 0) mok_107 ⟨rfl, rfl⟩ rfl ?_
  refine wk (fn1_ok l L) ok_107 30 (fun pc => false) ?_
  simp only [fn1, kk_107, Option.toList_some, Option.toList_none, ex, sym, popN, goC, callOK, swL, List.map_cons, List.map_nil, List.replicate_zero, List.replicate_succ, List.append_nil, List.nil_append, List.cons_append, List.getElem?_cons_zero, List.getElem?_cons_succ, List.set_cons_zero, List.set_cons_succ, List.length_cons, List.length_nil, List.head?_cons, Nat.reduceAdd, Nat.reduceLT, Nat.reduceLeDiff, Nat.reduceBEq, Nat.reduceEqDiff, Nat.succ_ne_zero, Nat.zero_lt_succ, Nat.le_refl, sc_rows, kc_lit, nc_lit, wlk_rows, uR_s, uR_uR, true_and, and_true, true_or, or_true, false_or, or_false, and_false, false_and, or_self, and_self, if_true, if_false, Bool.false_eq_true, Bool.or_false, Bool.or_true, Bool.false_or, Bool.true_or, not_true_eq_false, not_false_eq_true, forall_const, true_implies, false_implies, implies_true, reduceIte, reduceCtorEq, fA_size, fA_in, fA_size, fA_of, fA_lay, fA_tally, fA_waits, MOKh_eq, setZ_eq, ix_lit, in_lit, lt_lit, cl_lit, nz_lit]
  exact hp
end T2
def fn2 (L : Nat) : Nat → Option FN := fun y => match y with
  | 85 => some (fA_place L)
  | 100 => some (fA_stays L)
  | 101 => some (fA_tired L)
  | 105 => some (fA_begin L)
  | 107 => some (fA_fare L)
  | y => fn1 L y
theorem fn2_ok (l : Launch) (L : Nat) : fnOK l (fn2 L) := by
  intro y f hf As h hpre
  unfold fn2 at hf
  split at hf
  · cases hf
    unfold fA_place at hpre ⊢
    split at hpre
    · refine ⟨some _, rfl, fun Q hq => ?_⟩
      rw [MOKh_of hpre] at hq ⊢
      exact s_isPlace _ hq
    · exact hpre.elim
  · cases hf
    unfold fA_stays at hpre ⊢
    split at hpre
    · obtain ⟨hm, hi⟩ := hpre
      refine ⟨some _, rfl, fun Q hq => ?_⟩
      rw [MOKh_of hm] at hq ⊢
      exact s_stays hm.2 _ hi hq
    · exact hpre.elim
  · cases hf
    unfold fA_tired at hpre ⊢
    split at hpre
    · obtain ⟨hm, hi⟩ := hpre
      refine ⟨some _, rfl, fun Q hq => ?_⟩
      rw [MOKh_of hm] at hq ⊢
      exact s_tired hm.2 _ hi hq
    · exact hpre.elim
  · cases hf
    unfold fA_begin at hpre ⊢
    split at hpre
    · obtain ⟨hm, hi⟩ := hpre
      refine ⟨none, rfl, fun Q hq => ?_⟩
      rw [MOKh_of hm] at hq ⊢
      exact s_begin hm.2 _ _ _ hi hq
    · exact hpre.elim
  · cases hf
    unfold fA_fare at hpre ⊢
    split at hpre
    · refine ⟨some _, rfl, fun Q hq => ?_⟩
      rw [MOKh_of hpre] at hq ⊢
      exact s_fare _ _ hq
    · exact hpre.elim
  · exact fn1_ok l L y f hf As h hpre
section T3
variable {l : Launch} {L : Nat} {I : Nat → Nat → Int32} {Q : Nat → Nat → Option Nat} {P : Option Value → PH → Prop}
set_option maxRecDepth 100000 in
theorem s_may (hQ : QM Q) (t : Int32) (ht : ¬ t < 0 ∧ ix t < 12) (hp : P (some (.int (b2 (may (I 150) (ix t))))) (SC L, I, Q)) : Runs l 102 [.ref 149, .int t] (SC L, I, Q) P := by
  refine run0 (n := 0) mok_102 ⟨rfl, rfl⟩ rfl ?_
  refine wk (fn2_ok l L) ok_102 30 (fun pc => false) ?_
  simp only [fn2, kk_102, Option.toList_some, Option.toList_none, ex, sym, popN, goC, callOK, swL, List.map_cons, List.map_nil, List.replicate_zero, List.replicate_succ, List.append_nil, List.nil_append, List.cons_append, List.getElem?_cons_zero, List.getElem?_cons_succ, List.set_cons_zero, List.set_cons_succ, List.length_cons, List.length_nil, List.head?_cons, Nat.reduceAdd, Nat.reduceLT, Nat.reduceLeDiff, Nat.reduceBEq, Nat.reduceEqDiff, Nat.succ_ne_zero, Nat.zero_lt_succ, Nat.le_refl, sc_rows, kc_lit, nc_lit, wlk_rows, uR_s, uR_uR, true_and, and_true, true_or, or_true, false_or, or_false, and_false, false_and, or_self, and_self, if_true, if_false, Bool.false_eq_true, Bool.or_false, Bool.or_true, Bool.false_or, Bool.true_or, not_true_eq_false, not_false_eq_true, forall_const, true_implies, false_implies, implies_true, reduceIte, reduceCtorEq, fA_stays, fA_tired, fn1, MOKh_eq, hQ, hQ.1, ht, ix_lit, in_lit, lt_lit, cl_lit, nz_lit, b2_0, fA_in, fA_size, fA_of, fA_lay, fA_tally, fA_waits, MOKh_eq, setZ_eq, ix_lit, in_lit, lt_lit, cl_lit, nz_lit, fn1, fA_stays, fA_tired, fA_begin, fA_fare, fA_place, fA_may]
  by_cases h1 : stays (I 150) (ix t)
  · rw [b2_f (fun z => z.1 h1)] at hp
    exact ⟨fun _ => hp, fun z => absurd h1 z⟩
  · by_cases h2 : tired (I 150) (ix t)
    · rw [b2_f (fun z => z.2 h2)] at hp
      exact ⟨fun _ => hp, fun _ => ⟨fun _ => hp, fun z => absurd h2 z⟩⟩
    · rw [b2_t ⟨h1, h2⟩] at hp
      exact ⟨fun z => absurd z (fun q => q h1), fun _ => ⟨fun z => absurd z (fun q => q h2), fun _ => hp⟩⟩
end T3
def fn3 (L : Nat) : Nat → Option FN := fun y => match y with
  | 102 => some (fA_may L)
  | y => fn2 L y
theorem fn3_ok (l : Launch) (L : Nat) : fnOK l (fn3 L) := by
  intro y f hf As h hpre
  unfold fn3 at hf
  split at hf
  · cases hf
    unfold fA_may at hpre ⊢
    split at hpre
    · obtain ⟨hm, hi⟩ := hpre
      refine ⟨some _, rfl, fun Q hq => ?_⟩
      rw [MOKh_of hm] at hq ⊢
      exact s_may hm.2 _ hi hq
    · exact hpre.elim
  · exact fn2_ok l L y f hf As h hpre
