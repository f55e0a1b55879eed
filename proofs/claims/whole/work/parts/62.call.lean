/-! who takes a call: the class, the reference -/
def nd (z : Nat → Int32) (x : Nat) (f : Int32) : Int32 := if z (tp x 1) = 0 then sz32 ((f - 10) * z 0) else sz32 (z (tp x 9) * z (tp x 2) - (f - 10) * z 0)
def cnd (z : Nat → Int32) (x : Nat) : Prop := (z (tp x 1) = 0 ∨ z (tp x 1) = 3) ∧ may z x
def ndv (z : Nat → Int32) (x : Nat) (f : Int32) : Int32 := if (z (tp x 1) = 0 ∨ z (tp x 1) = 3) ∧ may z x then nd z x f else -5
theorem sz_neg (v : Int32) : sz32 (-v) = sz32 v := by
  unfold sz32
  have e0 : (0 : Int32).toInt = 0 := by decide
  by_cases h : v < 0
  · rw [if_pos h]
    by_cases h2 : -v < 0
    · rw [if_pos h2]
      have hv : v = -v := by
        have a := Int32.lt_iff_toInt_lt.mp h
        have b := Int32.lt_iff_toInt_lt.mp h2
        refine Int32.toInt_inj.mp ?_
        rw [Int32.toInt_neg] at b ⊢
        have h3 := Int32.le_toInt v
        by_cases q : v.toInt = -2147483648
        · rw [q]; decide
        · exfalso
          have : Int.bmod (-v.toInt) (2 ^ 32) = -v.toInt := by
            apply Int.bmod_eq_of_le <;> omega
          rw [this] at b
          omega
      rw [← hv]
      exact hv.symm
    · rw [if_neg h2]
  · rw [if_neg h]
    by_cases h2 : -v < 0
    · rw [if_pos h2, Int32.neg_neg]
    · rw [if_neg h2]
      have a : ¬ v.toInt < 0 := fun q => h (Int32.lt_iff_toInt_lt.mpr (by omega))
      have b : ¬ (-v).toInt < 0 := fun q => h2 (Int32.lt_iff_toInt_lt.mpr (by omega))
      refine Int32.toInt_inj.mp ?_
      rw [Int32.toInt_neg] at b ⊢
      have h3 := Int32.toInt_lt v
      have : Int.bmod (-v.toInt) (2 ^ 32) = -v.toInt := by
        apply Int.bmod_eq_of_le <;> omega
      rw [this] at b ⊢
      omega
theorem sz_sub (a b : Int32) : sz32 (a - b) = sz32 (b - a) := by
  rw [← sz_neg (b - a), Int32.neg_sub]
theorem sz_ne (v : Int32) : sz32 v ≠ -5 := by
  unfold sz32
  by_cases h : v < 0
  · rw [if_pos h]
    intro q
    have : v = 5 := by rw [← @Int32.neg_neg v, q]; decide
    rw [this] at h
    exact absurd h (by decide)
  · rw [if_neg h]
    intro q
    rw [q] at h
    exact h (by decide)
theorem nd_ne (z : Nat → Int32) (x : Nat) (f : Int32) : nd z x f ≠ -5 := by
  unfold nd
  split
  · exact sz_ne _
  · exact sz_ne _
abbrev leC (z : Nat → Int32) (f : Int32) : Nat → Nat → Prop := fun x y => nd z x f ≤ nd z y f
theorem leC_1 (z : Nat → Int32) (f : Int32) (x y w : Nat) (h1 : leC z f x y) (h2 : leC z f y w) : leC z f x w := i32_le_trans h1 h2
theorem leC_2 (z : Nat → Int32) (f : Int32) (x y w : Nat) (h1 : ¬ leC z f x y) (h2 : ¬ leC z f y w) : ¬ leC z f x w := i32_nle_trans h1 h2
def cBk (z : Nat → Int32) (i : Nat) : Option Nat := if z (tp i 1) = 3 ∧ may z i then some i else none
def calZ (z : Nat → Int32) (n m : Nat) (f : Int32) : Option Nat := cmb (leC z f) (fun _ _ => inferInstance) (pkF (leC z f) (fun _ _ => inferInstance) (cR z n) m) (pkF (leC z f) (fun _ _ => inferInstance) (cBk z) n)
theorem cmb_in {le : Nat → Nat → Prop} (dl : ∀ x y, Decidable (le x y)) {a b : Option Nat} {t : Nat} (h : cmb le dl a b = some t) : a = some t ∨ b = some t := by
  cases a with
  | none => exact Or.inr h
  | some x =>
    cases b with
    | none => exact Or.inl h
    | some y =>
      simp only [cmb] at h
      split at h
      · exact Or.inl h
      · exact Or.inr h
theorem pkF_in {le : Nat → Nat → Prop} (dl : ∀ x y, Decidable (le x y)) {c : Nat → Option Nat} : ∀ {k t : Nat}, pkF le dl c k = some t → ∃ q, q < k ∧ c q = some t := by
  intro k
  induction k with
  | zero => intro t h; cases h
  | succ k ih =>
    intro t h
    rcases cmb_in dl h with q | q
    · obtain ⟨j, a, b⟩ := ih q
      exact ⟨j, by omega, b⟩
    · exact ⟨k, by omega, q⟩
theorem pkB_in {le : Nat → Nat → Prop} (dl : ∀ x y, Decidable (le x y)) {c : Nat → Option Nat} : ∀ {k t : Nat} {f : Option Nat}, pkB le dl c k f = some t → f = some t ∨ ∃ q, q < k ∧ c q = some t := by
  intro k
  induction k with
  | zero => intro t f h; exact Or.inl h
  | succ k ih =>
    intro t f h
    rcases ih h with q | ⟨j, a, b⟩
    · rcases cmb_in dl q with q | q
      · exact Or.inr ⟨k, by omega, q⟩
      · exact Or.inl q
    · exact Or.inr ⟨j, by omega, b⟩
theorem cR_in {z : Nat → Int32} {n m q t : Nat} (hL : Ln z n m) (hq : q < m) (h : cR z n q = some t) : t < n ∧ cnd z t ∧ z (tp t 0) = z (15 + q) ∧ z (tp t 1) = 0 := by
  unfold cR at h
  split at h
  · next g =>
    cases h
    obtain ⟨i, a, b, c, d⟩ := hL.2.2.2.2.1 q hq
    have e : lx z n q = i := fTx_eq hL.2.2.2.1 a c
    rw [e] at g ⊢
    exact ⟨a, ⟨Or.inl d, g⟩, c, d⟩
  · cases h
theorem cBk_in {z : Nat → Int32} {q t : Nat} (h : cBk z q = some t) : t = q ∧ cnd z t ∧ z (tp t 1) = 3 := by
  unfold cBk at h
  split at h
  · next g => cases h; exact ⟨rfl, ⟨Or.inr g.1, g.2⟩, g.1⟩
  · cases h
theorem calZ_in {z : Nat → Int32} {n m t : Nat} {f : Int32} (hL : Ln z n m) (h : calZ z n m f = some t) : t < n ∧ cnd z t := by
  rcases cmb_in _ h with q | q
  · obtain ⟨j, a, b⟩ := pkF_in _ q
    obtain ⟨x, y, -⟩ := cR_in hL a b
    exact ⟨x, y⟩
  · obtain ⟨j, a, b⟩ := pkF_in _ q
    obtain ⟨x, y, -⟩ := cBk_in b
    exact ⟨by omega, y⟩
theorem cnd_nd {z : Nat → Int32} {x : Nat} (h : cnd z x) (f : Int32) : ndv z x f = nd z x f := by unfold ndv; exact if_pos h
def fA_needs (L : Nat) : FN := fun As h => match As with
  | [.ref 149, .int t, .int f] => (MOKh L h ∧ (¬ t < 0 ∧ ix t < 12), [.int (ndv (h.2.1 150) (ix t) f)], h)
  | _ => (False, [], h)
section E5
variable {l : Launch} {L : Nat} {I : Nat → Nat → Int32} {Q : Nat → Nat → Option Nat} {P : Option Value → PH → Prop}
set_option maxRecDepth 100000 in
theorem s_needs (hQ : QM Q) (t f : Int32) (ht : ¬ t < 0 ∧ ix t < 12) (hp : P (some (.int (ndv (I 150) (ix t) f))) (SC L, I, Q)) : Runs l 121 [.ref 149, .int t, .int f] (SC L, I, Q) P := by
  refine run0 (n := 2) mok_121 ⟨rfl, rfl⟩ rfl ?_
  by_cases g1 : I 150 (tp (ix t) 1) = 0
  · by_cases g : may (I 150) (ix t)
    · have e : ndv (I 150) (ix t) f = sz32 ((f - 10) * I 150 0) := by rw [cnd_nd ⟨Or.inl g1, g⟩]; unfold nd; rw [if_pos g1]
      rw [e] at hp
      refine wk (fn3_ok l L) ok_121 60 (fun pc => false) ?_
      simp only [fn3, kk_121, Option.toList_some, Option.toList_none, ex, sym, popN, goC, callOK, swL, List.map_cons, List.map_nil, List.replicate_zero, List.replicate_succ, List.append_nil, List.nil_append, List.cons_append, List.getElem?_cons_zero, List.getElem?_cons_succ, List.set_cons_zero, List.set_cons_succ, List.length_cons, List.length_nil, List.head?_cons, Nat.reduceAdd, Nat.reduceLT, Nat.reduceLeDiff, Nat.reduceBEq, Nat.reduceEqDiff, Nat.succ_ne_zero, Nat.zero_lt_succ, Nat.le_refl, sc_rows, kc_lit, nc_lit, wlk_rows, uR_s, uR_uR, true_and, and_true, true_or, or_true, false_or, or_false, and_false, false_and, or_self, and_self, if_true, if_false, Bool.false_eq_true, Bool.or_false, Bool.or_true, Bool.false_or, Bool.true_or, not_true_eq_false, not_false_eq_true, forall_const, true_implies, false_implies, implies_true, reduceIte, reduceCtorEq, hQ, hQ.1, ht, g1, b2_t g, fA_in, fA_size, fA_of, fA_lay, fA_tally, fA_waits, MOKh_eq, setZ_eq, ix_lit, in_lit, lt_lit, cl_lit, nz_lit, fn1, fn2, fA_stays, fA_tired, fA_begin, fA_fare, fA_place, fA_may]
      exact hp
    · have e : ndv (I 150) (ix t) f = -5 := by unfold ndv; rw [if_neg (fun q => g q.2)]
      rw [e] at hp
      refine wk (fn3_ok l L) ok_121 60 (fun pc => false) ?_
      simp only [fn3, kk_121, Option.toList_some, Option.toList_none, ex, sym, popN, goC, callOK, swL, List.map_cons, List.map_nil, List.replicate_zero, List.replicate_succ, List.append_nil, List.nil_append, List.cons_append, List.getElem?_cons_zero, List.getElem?_cons_succ, List.set_cons_zero, List.set_cons_succ, List.length_cons, List.length_nil, List.head?_cons, Nat.reduceAdd, Nat.reduceLT, Nat.reduceLeDiff, Nat.reduceBEq, Nat.reduceEqDiff, Nat.succ_ne_zero, Nat.zero_lt_succ, Nat.le_refl, sc_rows, kc_lit, nc_lit, wlk_rows, uR_s, uR_uR, true_and, and_true, true_or, or_true, false_or, or_false, and_false, false_and, or_self, and_self, if_true, if_false, Bool.false_eq_true, Bool.or_false, Bool.or_true, Bool.false_or, Bool.true_or, not_true_eq_false, not_false_eq_true, forall_const, true_implies, false_implies, implies_true, reduceIte, reduceCtorEq, hQ, hQ.1, ht, g1, b2_f g, fA_in, fA_size, fA_of, fA_lay, fA_tally, fA_waits, MOKh_eq, setZ_eq, ix_lit, in_lit, lt_lit, cl_lit, nz_lit, fn1, fn2, fA_stays, fA_tired, fA_begin, fA_fare, fA_place, fA_may]
      exact hp
  · by_cases g3 : I 150 (tp (ix t) 1) = 3
    · by_cases g : may (I 150) (ix t)
      · have e : ndv (I 150) (ix t) f = sz32 (I 150 (tp (ix t) 9) * I 150 (tp (ix t) 2) - (f - 10) * I 150 0) := by rw [cnd_nd ⟨Or.inr g3, g⟩]; unfold nd; rw [if_neg g1]
        rw [e] at hp
        refine wk (fn3_ok l L) ok_121 60 (fun pc => false) ?_
        simp only [fn3, kk_121, Option.toList_some, Option.toList_none, ex, sym, popN, goC, callOK, swL, List.map_cons, List.map_nil, List.replicate_zero, List.replicate_succ, List.append_nil, List.nil_append, List.cons_append, List.getElem?_cons_zero, List.getElem?_cons_succ, List.set_cons_zero, List.set_cons_succ, List.length_cons, List.length_nil, List.head?_cons, Nat.reduceAdd, Nat.reduceLT, Nat.reduceLeDiff, Nat.reduceBEq, Nat.reduceEqDiff, Nat.succ_ne_zero, Nat.zero_lt_succ, Nat.le_refl, sc_rows, kc_lit, nc_lit, wlk_rows, uR_s, uR_uR, true_and, and_true, true_or, or_true, false_or, or_false, and_false, false_and, or_self, and_self, if_true, if_false, Bool.false_eq_true, Bool.or_false, Bool.or_true, Bool.false_or, Bool.true_or, not_true_eq_false, not_false_eq_true, forall_const, true_implies, false_implies, implies_true, reduceIte, reduceCtorEq, hQ, hQ.1, ht, g3, b2_t g, c5, fA_in, fA_size, fA_of, fA_lay, fA_tally, fA_waits, MOKh_eq, setZ_eq, ix_lit, in_lit, lt_lit, cl_lit, nz_lit, fn1, fn2, fA_stays, fA_tired, fA_begin, fA_fare, fA_place, fA_may]
        exact hp
      · have e : ndv (I 150) (ix t) f = -5 := by unfold ndv; rw [if_neg (fun q => g q.2)]
        rw [e] at hp
        refine wk (fn3_ok l L) ok_121 60 (fun pc => false) ?_
        simp only [fn3, kk_121, Option.toList_some, Option.toList_none, ex, sym, popN, goC, callOK, swL, List.map_cons, List.map_nil, List.replicate_zero, List.replicate_succ, List.append_nil, List.nil_append, List.cons_append, List.getElem?_cons_zero, List.getElem?_cons_succ, List.set_cons_zero, List.set_cons_succ, List.length_cons, List.length_nil, List.head?_cons, Nat.reduceAdd, Nat.reduceLT, Nat.reduceLeDiff, Nat.reduceBEq, Nat.reduceEqDiff, Nat.succ_ne_zero, Nat.zero_lt_succ, Nat.le_refl, sc_rows, kc_lit, nc_lit, wlk_rows, uR_s, uR_uR, true_and, and_true, true_or, or_true, false_or, or_false, and_false, false_and, or_self, and_self, if_true, if_false, Bool.false_eq_true, Bool.or_false, Bool.or_true, Bool.false_or, Bool.true_or, not_true_eq_false, not_false_eq_true, forall_const, true_implies, false_implies, implies_true, reduceIte, reduceCtorEq, hQ, hQ.1, ht, g3, b2_f g, c5, fA_in, fA_size, fA_of, fA_lay, fA_tally, fA_waits, MOKh_eq, setZ_eq, ix_lit, in_lit, lt_lit, cl_lit, nz_lit, fn1, fn2, fA_stays, fA_tired, fA_begin, fA_fare, fA_place, fA_may]
        exact hp
    · have e : ndv (I 150) (ix t) f = -5 := by unfold ndv; rw [if_neg (fun q => q.1.elim g1 g3)]
      rw [e] at hp
      refine wk (fn3_ok l L) ok_121 60 (fun pc => false) ?_
      simp only [fn3, kk_121, Option.toList_some, Option.toList_none, ex, sym, popN, goC, callOK, swL, List.map_cons, List.map_nil, List.replicate_zero, List.replicate_succ, List.append_nil, List.nil_append, List.cons_append, List.getElem?_cons_zero, List.getElem?_cons_succ, List.set_cons_zero, List.set_cons_succ, List.length_cons, List.length_nil, List.head?_cons, Nat.reduceAdd, Nat.reduceLT, Nat.reduceLeDiff, Nat.reduceBEq, Nat.reduceEqDiff, Nat.succ_ne_zero, Nat.zero_lt_succ, Nat.le_refl, sc_rows, kc_lit, nc_lit, wlk_rows, uR_s, uR_uR, true_and, and_true, true_or, or_true, false_or, or_false, and_false, false_and, or_self, and_self, if_true, if_false, Bool.false_eq_true, Bool.or_false, Bool.or_true, Bool.false_or, Bool.true_or, not_true_eq_false, not_false_eq_true, forall_const, true_implies, false_implies, implies_true, reduceIte, reduceCtorEq, hQ, hQ.1, ht, eq_false g1, eq_false g3, fA_in, fA_size, fA_of, fA_lay, fA_tally, fA_waits, MOKh_eq, setZ_eq, ix_lit, in_lit, lt_lit, cl_lit, nz_lit, fn1, fn2, fA_stays, fA_tired, fA_begin, fA_fare, fA_place, fA_may]
      exact hp
end E5
def fn4 (L : Nat) : Nat → Option FN := fun y => match y with
  | 121 => some (fA_needs L)
  | y => fn3 L y
theorem fn4_ok (l : Launch) (L : Nat) : fnOK l (fn4 L) := by
  intro y f hf As h hpre
  unfold fn4 at hf
  split at hf
  · cases hf
    unfold fA_needs at hpre ⊢
    split at hpre
    · obtain ⟨hm, hi⟩ := hpre
      refine ⟨some _, rfl, fun Q hq => ?_⟩
      rw [MOKh_of hm] at hq ⊢
      exact s_needs hm.2 _ _ hi hq
    · exact hpre.elim
  · exact fn3_ok l L y f hf As h hpre
section E6
variable {l : Launch} {L : Nat} {I : Nat → Nat → Int32} {Q : Nat → Nat → Option Nat} {P : Option Value → PH → Prop} {z : Nat → Int32} {n m k : Nat}
set_option maxRecDepth 100000 in
theorem rz_callee (hQ : QM Q) (hL : Ln z n m) (f : Int32) (h1 : P (some (.int (fv (calZ z n m f)))) (SC L, uR I 150 z, Q)) : Runs l 122 [.ref 149, .int f] (SC L, uR I 150 z, Q) P := by
  have hn := hL.2.1
  have hm := hL.2.2.2.2.2.2.2
  have okg : ∀ i t, i ≤ n → pkB (leC z f) (fun _ _ => inferInstance) (cBk z) i none = some t → t < n ∧ cnd z t := fun i t hi h => by
    rcases pkB_in _ h with q | ⟨q, a, b⟩
    · cases q
    · obtain ⟨x, y, -⟩ := cBk_in b
      exact ⟨by omega, y⟩
  -- the line
  have loop2 : ∀ j g a4 a5, j ≤ m → (∀ t, g = some t → t < n ∧ cnd z t) → pkB (leC z f) (fun _ _ => inferInstance) (cR z n) j g = calZ z n m f → Sy l 122 (156, 3525) 93 [some (.ref 149), some (.int f), some (.int (fv g)), some (.int (nI j + (-1))), a4, a5] [] (SC L, uR I 150 z, Q) P := by
    intro j
    induction j with
    | zero =>
      intro g a4 a5 _ hg he
      have e1 : (nI 0 + (-1) < 0) = True := by decide
      refine wk (fn4_ok l L) ok_122 30 (fun pc => pc == 93) ?_
      simp only [fn4, kk_122, Option.toList_some, Option.toList_none, ex, sym, popN, goC, callOK, swL, List.map_cons, List.map_nil, List.replicate_zero, List.replicate_succ, List.append_nil, List.nil_append, List.cons_append, List.getElem?_cons_zero, List.getElem?_cons_succ, List.set_cons_zero, List.set_cons_succ, List.length_cons, List.length_nil, List.head?_cons, Nat.reduceAdd, Nat.reduceLT, Nat.reduceLeDiff, Nat.reduceBEq, Nat.reduceEqDiff, Nat.succ_ne_zero, Nat.zero_lt_succ, Nat.le_refl, sc_rows, kc_lit, nc_lit, wlk_rows, uR_s, uR_uR, true_and, and_true, true_or, or_true, false_or, or_false, and_false, false_and, or_self, and_self, if_true, if_false, Bool.false_eq_true, Bool.or_false, Bool.or_true, Bool.false_or, Bool.true_or, not_true_eq_false, not_false_eq_true, forall_const, true_implies, false_implies, implies_true, reduceIte, reduceCtorEq, e1, fA_in, fA_size, fA_of, fA_lay, fA_tally, fA_waits, MOKh_eq, setZ_eq, ix_lit, in_lit, lt_lit, cl_lit, nz_lit, fn1, fn2, fn3, fA_stays, fA_tired, fA_begin, fA_fare, fA_place, fA_may, fA_needs]
      simp only [pkB] at he
      rw [he]
      exact h1
    | succ j ih =>
      intro g a4 a5 hj hg he
      obtain ⟨i, i1, i2, i3, i4⟩ := hL.2.2.2.2.1 j (by omega)
      have elx : lx z n j = i := fTx_eq hL.2.2.2.1 i1 i3
      rw [pk_m1]
      simp only [pkB] at he
      refine wk (fn4_ok l L) ok_122 30 (fun pc => pc == 93) ?_
      simp only [fn4, kk_122, Option.toList_some, Option.toList_none, ex, sym, popN, goC, callOK, swL, List.map_cons, List.map_nil, List.replicate_zero, List.replicate_succ, List.append_nil, List.nil_append, List.cons_append, List.getElem?_cons_zero, List.getElem?_cons_succ, List.set_cons_zero, List.set_cons_succ, List.length_cons, List.length_nil, List.head?_cons, Nat.reduceAdd, Nat.reduceLT, Nat.reduceLeDiff, Nat.reduceBEq, Nat.reduceEqDiff, Nat.succ_ne_zero, Nat.zero_lt_succ, Nat.le_refl, sc_rows, kc_lit, nc_lit, wlk_rows, uR_s, uR_uR, true_and, and_true, true_or, or_true, false_or, or_false, and_false, false_and, or_self, and_self, if_true, if_false, Bool.false_eq_true, Bool.or_false, Bool.or_true, Bool.false_or, Bool.true_or, not_true_eq_false, not_false_eq_true, forall_const, true_implies, false_implies, implies_true, reduceIte, reduceCtorEq, hQ.1, smI (show j < 2147483648 by omega), nI_add15, ixp (show 15 + j < 228 by omega) (by omega), fA_in, fA_size, fA_of, fA_lay, fA_tally, fA_waits, MOKh_eq, setZ_eq, ix_lit, in_lit, lt_lit, cl_lit, nz_lit, fn1, fn2, fn3, fA_stays, fA_tired, fA_begin, fA_fare, fA_place, fA_may, fA_needs]
      refine rz_taxiWith hQ hL.1 hn _ (fun i' hi' he' => ?_) (fun hno => absurd i3 (hno i i1))
      obtain rfl : i' = i := hL.2.2.2.1 i' i hi' i1 (he'.trans i3.symm)
      by_cases gm : may z i'
      · have ec : cR z n j = some i' := by unfold cR; rw [elx, if_pos gm]
        have env : ndv z i' f = nd z i' f := cnd_nd ⟨Or.inl i4, gm⟩ f
        rw [ec] at he
        cases g with
        | none =>
          refine wk (fn4_ok l L) ok_122 60 (fun pc => pc == 93) ?_
          simp only [fn4, kk_122, Option.toList_some, Option.toList_none, ex, sym, popN, goC, callOK, swL, List.map_cons, List.map_nil, List.replicate_zero, List.replicate_succ, List.append_nil, List.nil_append, List.cons_append, List.getElem?_cons_zero, List.getElem?_cons_succ, List.set_cons_zero, List.set_cons_succ, List.length_cons, List.length_nil, List.head?_cons, Nat.reduceAdd, Nat.reduceLT, Nat.reduceLeDiff, Nat.reduceBEq, Nat.reduceEqDiff, Nat.succ_ne_zero, Nat.zero_lt_succ, Nat.le_refl, sc_rows, kc_lit, nc_lit, wlk_rows, uR_s, uR_uR, true_and, and_true, true_or, or_true, false_or, or_false, and_false, false_and, or_self, and_self, if_true, if_false, Bool.false_eq_true, Bool.or_false, Bool.or_true, Bool.false_or, Bool.true_or, not_true_eq_false, not_false_eq_true, forall_const, true_implies, false_implies, implies_true, reduceIte, reduceCtorEq, hQ, hQ.1, fv, smI (show i' < 2147483648 by omega), show i' < 12 by omega, env, eq_false (nd_ne z i' f), nz_lit, fA_in, fA_size, fA_of, fA_lay, fA_tally, fA_waits, MOKh_eq, setZ_eq, ix_lit, in_lit, lt_lit, cl_lit, nz_lit, fn1, fn2, fn3, fA_stays, fA_tired, fA_begin, fA_fare, fA_place, fA_may, fA_needs]
          refine ih (some i') _ _ (by omega) (fun t e => by cases e; exact ⟨i1, Or.inl i4, gm⟩) ?_
          exact he
        | some t =>
          obtain ⟨t1, t2⟩ := hg t rfl
          by_cases gl : nd z i' f ≤ nd z t f
          · refine wk (fn4_ok l L) ok_122 60 (fun pc => pc == 93) ?_
            simp only [fn4, kk_122, Option.toList_some, Option.toList_none, ex, sym, popN, goC, callOK, swL, List.map_cons, List.map_nil, List.replicate_zero, List.replicate_succ, List.append_nil, List.nil_append, List.cons_append, List.getElem?_cons_zero, List.getElem?_cons_succ, List.set_cons_zero, List.set_cons_succ, List.length_cons, List.length_nil, List.head?_cons, Nat.reduceAdd, Nat.reduceLT, Nat.reduceLeDiff, Nat.reduceBEq, Nat.reduceEqDiff, Nat.succ_ne_zero, Nat.zero_lt_succ, Nat.le_refl, sc_rows, kc_lit, nc_lit, wlk_rows, uR_s, uR_uR, true_and, and_true, true_or, or_true, false_or, or_false, and_false, false_and, or_self, and_self, if_true, if_false, Bool.false_eq_true, Bool.or_false, Bool.or_true, Bool.false_or, Bool.true_or, not_true_eq_false, not_false_eq_true, forall_const, true_implies, false_implies, implies_true, reduceIte, reduceCtorEq, hQ, hQ.1, fv, n5F (show t < 2147483648 by omega), smI (show i' < 2147483648 by omega), show i' < 12 by omega, smI (show t < 2147483648 by omega), show t < 12 by omega, env, cnd_nd t2 f, eq_false (nd_ne z i' f), nz_lit, eq_false (Int32.not_lt.mpr gl), fA_in, fA_size, fA_of, fA_lay, fA_tally, fA_waits, MOKh_eq, setZ_eq, ix_lit, in_lit, lt_lit, cl_lit, nz_lit, fn1, fn2, fn3, fA_stays, fA_tired, fA_begin, fA_fare, fA_place, fA_may, fA_needs]
            refine ih (some i') _ _ (by omega) (fun t e => by cases e; exact ⟨i1, Or.inl i4, gm⟩) ?_
            simp only [cmb, if_pos gl] at he
            exact he
          · refine wk (fn4_ok l L) ok_122 60 (fun pc => pc == 93) ?_
            simp only [fn4, kk_122, Option.toList_some, Option.toList_none, ex, sym, popN, goC, callOK, swL, List.map_cons, List.map_nil, List.replicate_zero, List.replicate_succ, List.append_nil, List.nil_append, List.cons_append, List.getElem?_cons_zero, List.getElem?_cons_succ, List.set_cons_zero, List.set_cons_succ, List.length_cons, List.length_nil, List.head?_cons, Nat.reduceAdd, Nat.reduceLT, Nat.reduceLeDiff, Nat.reduceBEq, Nat.reduceEqDiff, Nat.succ_ne_zero, Nat.zero_lt_succ, Nat.le_refl, sc_rows, kc_lit, nc_lit, wlk_rows, uR_s, uR_uR, true_and, and_true, true_or, or_true, false_or, or_false, and_false, false_and, or_self, and_self, if_true, if_false, Bool.false_eq_true, Bool.or_false, Bool.or_true, Bool.false_or, Bool.true_or, not_true_eq_false, not_false_eq_true, forall_const, true_implies, false_implies, implies_true, reduceIte, reduceCtorEq, hQ, hQ.1, fv, n5F (show t < 2147483648 by omega), smI (show i' < 2147483648 by omega), show i' < 12 by omega, smI (show t < 2147483648 by omega), show t < 12 by omega, env, cnd_nd t2 f, eq_false (nd_ne z i' f), nz_lit, Int32.not_le.mp gl, fA_in, fA_size, fA_of, fA_lay, fA_tally, fA_waits, MOKh_eq, setZ_eq, ix_lit, in_lit, lt_lit, cl_lit, nz_lit, fn1, fn2, fn3, fA_stays, fA_tired, fA_begin, fA_fare, fA_place, fA_may, fA_needs]
            refine ih (some t) _ _ (by omega) hg ?_
            simp only [cmb, if_neg gl] at he
            exact he
      · have ec : cR z n j = none := by unfold cR; rw [elx, if_neg gm]
        have env : ndv z i' f = -5 := by unfold ndv; rw [if_neg (fun q => gm q.2)]
        rw [ec] at he
        refine wk (fn4_ok l L) ok_122 60 (fun pc => pc == 93) ?_
        simp only [fn4, kk_122, Option.toList_some, Option.toList_none, ex, sym, popN, goC, callOK, swL, List.map_cons, List.map_nil, List.replicate_zero, List.replicate_succ, List.append_nil, List.nil_append, List.cons_append, List.getElem?_cons_zero, List.getElem?_cons_succ, List.set_cons_zero, List.set_cons_succ, List.length_cons, List.length_nil, List.head?_cons, Nat.reduceAdd, Nat.reduceLT, Nat.reduceLeDiff, Nat.reduceBEq, Nat.reduceEqDiff, Nat.succ_ne_zero, Nat.zero_lt_succ, Nat.le_refl, sc_rows, kc_lit, nc_lit, wlk_rows, uR_s, uR_uR, true_and, and_true, true_or, or_true, false_or, or_false, and_false, false_and, or_self, and_self, if_true, if_false, Bool.false_eq_true, Bool.or_false, Bool.or_true, Bool.false_or, Bool.true_or, not_true_eq_false, not_false_eq_true, forall_const, true_implies, false_implies, implies_true, reduceIte, reduceCtorEq, hQ, hQ.1, fv, smI (show i' < 2147483648 by omega), show i' < 12 by omega, env, nz_lit, fA_in, fA_size, fA_of, fA_lay, fA_tally, fA_waits, MOKh_eq, setZ_eq, ix_lit, in_lit, lt_lit, cl_lit, nz_lit, fn1, fn2, fn3, fA_stays, fA_tired, fA_begin, fA_fare, fA_place, fA_may, fA_needs]
        exact ih g _ _ (by omega) hg he
  -- those on their way back
  have loop1 : ∀ j g a4, j ≤ n → (∀ t, g = some t → t < n ∧ cnd z t) → pkB (leC z f) (fun _ _ => inferInstance) (cBk z) j g = pkB (leC z f) (fun _ _ => inferInstance) (cBk z) n none → Sy l 122 (156, 3525) 13 [some (.ref 149), some (.int f), some (.int (fv g)), some (.int (nI j + (-1))), a4, none] [] (SC L, uR I 150 z, Q) P := by
    intro j
    induction j with
    | zero =>
      intro g a4 _ hg he
      have e1 : (nI 0 + (-1) < 0) = True := by decide
      refine wk (fn4_ok l L) ok_122 30 (fun pc => pc == 93) ?_
      simp only [fn4, kk_122, Option.toList_some, Option.toList_none, ex, sym, popN, goC, callOK, swL, List.map_cons, List.map_nil, List.replicate_zero, List.replicate_succ, List.append_nil, List.nil_append, List.cons_append, List.getElem?_cons_zero, List.getElem?_cons_succ, List.set_cons_zero, List.set_cons_succ, List.length_cons, List.length_nil, List.head?_cons, Nat.reduceAdd, Nat.reduceLT, Nat.reduceLeDiff, Nat.reduceBEq, Nat.reduceEqDiff, Nat.succ_ne_zero, Nat.zero_lt_succ, Nat.le_refl, sc_rows, kc_lit, nc_lit, wlk_rows, uR_s, uR_uR, true_and, and_true, true_or, or_true, false_or, or_false, and_false, false_and, or_self, and_self, if_true, if_false, Bool.false_eq_true, Bool.or_false, Bool.or_true, Bool.false_or, Bool.true_or, not_true_eq_false, not_false_eq_true, forall_const, true_implies, false_implies, implies_true, reduceIte, reduceCtorEq, hQ.1, e1, hL.2.2.1, fA_in, fA_size, fA_of, fA_lay, fA_tally, fA_waits, MOKh_eq, setZ_eq, ix_lit, in_lit, lt_lit, cl_lit, nz_lit, fn1, fn2, fn3, fA_stays, fA_tired, fA_begin, fA_fare, fA_place, fA_may, fA_needs]
      rw [Int32.sub_eq_add_neg]
      simp only [pkB] at he
      refine loop2 m g _ _ (Nat.le_refl m) hg ?_
      rw [he, pk_same _ (leC_1 z f) (leC_2 z f), pk_same _ (leC_1 z f) (leC_2 z f), cmb_none]
      rfl
    | succ j ih =>
      intro g a4 hj hg he
      rw [pk_m1]
      simp only [pkB] at he
      by_cases g3 : z (tp j 1) = 3
      · by_cases gm : may z j
        · have ec : cBk z j = some j := by unfold cBk; rw [if_pos ⟨g3, gm⟩]
          have env : ndv z j f = nd z j f := cnd_nd ⟨Or.inr g3, gm⟩ f
          rw [ec] at he
          cases g with
          | none =>
            refine wk (fn4_ok l L) ok_122 30 (fun pc => pc == 42 || pc == 45) ?_
            simp only [fn4, kk_122, Option.toList_some, Option.toList_none, ex, sym, popN, goC, callOK, swL, List.map_cons, List.map_nil, List.replicate_zero, List.replicate_succ, List.append_nil, List.nil_append, List.cons_append, List.getElem?_cons_zero, List.getElem?_cons_succ, List.set_cons_zero, List.set_cons_succ, List.length_cons, List.length_nil, List.head?_cons, Nat.reduceAdd, Nat.reduceLT, Nat.reduceLeDiff, Nat.reduceBEq, Nat.reduceEqDiff, Nat.succ_ne_zero, Nat.zero_lt_succ, Nat.le_refl, sc_rows, kc_lit, nc_lit, wlk_rows, uR_s, uR_uR, true_and, and_true, true_or, or_true, false_or, or_false, and_false, false_and, or_self, and_self, if_true, if_false, Bool.false_eq_true, Bool.or_false, Bool.or_true, Bool.false_or, Bool.true_or, not_true_eq_false, not_false_eq_true, forall_const, true_implies, false_implies, implies_true, reduceIte, reduceCtorEq, hQ, hQ.1, fv, g3, smI (show j < 2147483648 by omega), show j < 12 by omega, env, eq_false (nd_ne z j f), nz_lit, fA_in, fA_size, fA_of, fA_lay, fA_tally, fA_waits, MOKh_eq, setZ_eq, ix_lit, in_lit, lt_lit, cl_lit, nz_lit, fn1, fn2, fn3, fA_stays, fA_tired, fA_begin, fA_fare, fA_place, fA_may, fA_needs]
            refine wk (fn4_ok l L) ok_122 30 (fun pc => pc == 50 || pc == 75) ?_
            simp only [fn4, kk_122, Option.toList_some, Option.toList_none, ex, sym, popN, goC, callOK, swL, List.map_cons, List.map_nil, List.replicate_zero, List.replicate_succ, List.append_nil, List.nil_append, List.cons_append, List.getElem?_cons_zero, List.getElem?_cons_succ, List.set_cons_zero, List.set_cons_succ, List.length_cons, List.length_nil, List.head?_cons, Nat.reduceAdd, Nat.reduceLT, Nat.reduceLeDiff, Nat.reduceBEq, Nat.reduceEqDiff, Nat.succ_ne_zero, Nat.zero_lt_succ, Nat.le_refl, sc_rows, kc_lit, nc_lit, wlk_rows, uR_s, uR_uR, true_and, and_true, true_or, or_true, false_or, or_false, and_false, false_and, or_self, and_self, if_true, if_false, Bool.false_eq_true, Bool.or_false, Bool.or_true, Bool.false_or, Bool.true_or, not_true_eq_false, not_false_eq_true, forall_const, true_implies, false_implies, implies_true, reduceIte, reduceCtorEq, hQ, hQ.1, fv, g3, smI (show j < 2147483648 by omega), show j < 12 by omega, env, eq_false (nd_ne z j f), nz_lit, fA_in, fA_size, fA_of, fA_lay, fA_tally, fA_waits, MOKh_eq, setZ_eq, ix_lit, in_lit, lt_lit, cl_lit, nz_lit, fn1, fn2, fn3, fA_stays, fA_tired, fA_begin, fA_fare, fA_place, fA_may, fA_needs]
            refine wk (fn4_ok l L) ok_122 30 (fun pc => pc == 71 || pc == 75) ?_
            simp only [fn4, kk_122, Option.toList_some, Option.toList_none, ex, sym, popN, goC, callOK, swL, List.map_cons, List.map_nil, List.replicate_zero, List.replicate_succ, List.append_nil, List.nil_append, List.cons_append, List.getElem?_cons_zero, List.getElem?_cons_succ, List.set_cons_zero, List.set_cons_succ, List.length_cons, List.length_nil, List.head?_cons, Nat.reduceAdd, Nat.reduceLT, Nat.reduceLeDiff, Nat.reduceBEq, Nat.reduceEqDiff, Nat.succ_ne_zero, Nat.zero_lt_succ, Nat.le_refl, sc_rows, kc_lit, nc_lit, wlk_rows, uR_s, uR_uR, true_and, and_true, true_or, or_true, false_or, or_false, and_false, false_and, or_self, and_self, if_true, if_false, Bool.false_eq_true, Bool.or_false, Bool.or_true, Bool.false_or, Bool.true_or, not_true_eq_false, not_false_eq_true, forall_const, true_implies, false_implies, implies_true, reduceIte, reduceCtorEq, hQ, hQ.1, fv, g3, smI (show j < 2147483648 by omega), show j < 12 by omega, env, eq_false (nd_ne z j f), nz_lit, fA_in, fA_size, fA_of, fA_lay, fA_tally, fA_waits, MOKh_eq, setZ_eq, ix_lit, in_lit, lt_lit, cl_lit, nz_lit, fn1, fn2, fn3, fA_stays, fA_tired, fA_begin, fA_fare, fA_place, fA_may, fA_needs]
            refine wk (fn4_ok l L) ok_122 30 (fun pc => pc == 13) ?_
            simp only [fn4, kk_122, Option.toList_some, Option.toList_none, ex, sym, popN, goC, callOK, swL, List.map_cons, List.map_nil, List.replicate_zero, List.replicate_succ, List.append_nil, List.nil_append, List.cons_append, List.getElem?_cons_zero, List.getElem?_cons_succ, List.set_cons_zero, List.set_cons_succ, List.length_cons, List.length_nil, List.head?_cons, Nat.reduceAdd, Nat.reduceLT, Nat.reduceLeDiff, Nat.reduceBEq, Nat.reduceEqDiff, Nat.succ_ne_zero, Nat.zero_lt_succ, Nat.le_refl, sc_rows, kc_lit, nc_lit, wlk_rows, uR_s, uR_uR, true_and, and_true, true_or, or_true, false_or, or_false, and_false, false_and, or_self, and_self, if_true, if_false, Bool.false_eq_true, Bool.or_false, Bool.or_true, Bool.false_or, Bool.true_or, not_true_eq_false, not_false_eq_true, forall_const, true_implies, false_implies, implies_true, reduceIte, reduceCtorEq, hQ, hQ.1, fv, g3, smI (show j < 2147483648 by omega), show j < 12 by omega, env, eq_false (nd_ne z j f), nz_lit, fA_in, fA_size, fA_of, fA_lay, fA_tally, fA_waits, MOKh_eq, setZ_eq, ix_lit, in_lit, lt_lit, cl_lit, nz_lit, fn1, fn2, fn3, fA_stays, fA_tired, fA_begin, fA_fare, fA_place, fA_may, fA_needs]
            exact ih (some j) _ (by omega) (fun t e => by cases e; exact ⟨by omega, Or.inr g3, gm⟩) he
          | some t =>
            obtain ⟨t1, t2⟩ := hg t rfl
            by_cases gl : nd z j f ≤ nd z t f
            · refine wk (fn4_ok l L) ok_122 30 (fun pc => pc == 42 || pc == 45) ?_
              simp only [fn4, kk_122, Option.toList_some, Option.toList_none, ex, sym, popN, goC, callOK, swL, List.map_cons, List.map_nil, List.replicate_zero, List.replicate_succ, List.append_nil, List.nil_append, List.cons_append, List.getElem?_cons_zero, List.getElem?_cons_succ, List.set_cons_zero, List.set_cons_succ, List.length_cons, List.length_nil, List.head?_cons, Nat.reduceAdd, Nat.reduceLT, Nat.reduceLeDiff, Nat.reduceBEq, Nat.reduceEqDiff, Nat.succ_ne_zero, Nat.zero_lt_succ, Nat.le_refl, sc_rows, kc_lit, nc_lit, wlk_rows, uR_s, uR_uR, true_and, and_true, true_or, or_true, false_or, or_false, and_false, false_and, or_self, and_self, if_true, if_false, Bool.false_eq_true, Bool.or_false, Bool.or_true, Bool.false_or, Bool.true_or, not_true_eq_false, not_false_eq_true, forall_const, true_implies, false_implies, implies_true, reduceIte, reduceCtorEq, hQ, hQ.1, fv, g3, n5F (show t < 2147483648 by omega), smI (show j < 2147483648 by omega), show j < 12 by omega, smI (show t < 2147483648 by omega), show t < 12 by omega, env, cnd_nd t2 f, eq_false (nd_ne z j f), nz_lit, eq_false (Int32.not_lt.mpr gl), fA_in, fA_size, fA_of, fA_lay, fA_tally, fA_waits, MOKh_eq, setZ_eq, ix_lit, in_lit, lt_lit, cl_lit, nz_lit, fn1, fn2, fn3, fA_stays, fA_tired, fA_begin, fA_fare, fA_place, fA_may, fA_needs]
              refine wk (fn4_ok l L) ok_122 30 (fun pc => pc == 50 || pc == 75) ?_
              simp only [fn4, kk_122, Option.toList_some, Option.toList_none, ex, sym, popN, goC, callOK, swL, List.map_cons, List.map_nil, List.replicate_zero, List.replicate_succ, List.append_nil, List.nil_append, List.cons_append, List.getElem?_cons_zero, List.getElem?_cons_succ, List.set_cons_zero, List.set_cons_succ, List.length_cons, List.length_nil, List.head?_cons, Nat.reduceAdd, Nat.reduceLT, Nat.reduceLeDiff, Nat.reduceBEq, Nat.reduceEqDiff, Nat.succ_ne_zero, Nat.zero_lt_succ, Nat.le_refl, sc_rows, kc_lit, nc_lit, wlk_rows, uR_s, uR_uR, true_and, and_true, true_or, or_true, false_or, or_false, and_false, false_and, or_self, and_self, if_true, if_false, Bool.false_eq_true, Bool.or_false, Bool.or_true, Bool.false_or, Bool.true_or, not_true_eq_false, not_false_eq_true, forall_const, true_implies, false_implies, implies_true, reduceIte, reduceCtorEq, hQ, hQ.1, fv, g3, n5F (show t < 2147483648 by omega), smI (show j < 2147483648 by omega), show j < 12 by omega, smI (show t < 2147483648 by omega), show t < 12 by omega, env, cnd_nd t2 f, eq_false (nd_ne z j f), nz_lit, eq_false (Int32.not_lt.mpr gl), fA_in, fA_size, fA_of, fA_lay, fA_tally, fA_waits, MOKh_eq, setZ_eq, ix_lit, in_lit, lt_lit, cl_lit, nz_lit, fn1, fn2, fn3, fA_stays, fA_tired, fA_begin, fA_fare, fA_place, fA_may, fA_needs]
              refine wk (fn4_ok l L) ok_122 30 (fun pc => pc == 71 || pc == 75) ?_
              simp only [fn4, kk_122, Option.toList_some, Option.toList_none, ex, sym, popN, goC, callOK, swL, List.map_cons, List.map_nil, List.replicate_zero, List.replicate_succ, List.append_nil, List.nil_append, List.cons_append, List.getElem?_cons_zero, List.getElem?_cons_succ, List.set_cons_zero, List.set_cons_succ, List.length_cons, List.length_nil, List.head?_cons, Nat.reduceAdd, Nat.reduceLT, Nat.reduceLeDiff, Nat.reduceBEq, Nat.reduceEqDiff, Nat.succ_ne_zero, Nat.zero_lt_succ, Nat.le_refl, sc_rows, kc_lit, nc_lit, wlk_rows, uR_s, uR_uR, true_and, and_true, true_or, or_true, false_or, or_false, and_false, false_and, or_self, and_self, if_true, if_false, Bool.false_eq_true, Bool.or_false, Bool.or_true, Bool.false_or, Bool.true_or, not_true_eq_false, not_false_eq_true, forall_const, true_implies, false_implies, implies_true, reduceIte, reduceCtorEq, hQ, hQ.1, fv, g3, n5F (show t < 2147483648 by omega), smI (show j < 2147483648 by omega), show j < 12 by omega, smI (show t < 2147483648 by omega), show t < 12 by omega, env, cnd_nd t2 f, eq_false (nd_ne z j f), nz_lit, eq_false (Int32.not_lt.mpr gl), fA_in, fA_size, fA_of, fA_lay, fA_tally, fA_waits, MOKh_eq, setZ_eq, ix_lit, in_lit, lt_lit, cl_lit, nz_lit, fn1, fn2, fn3, fA_stays, fA_tired, fA_begin, fA_fare, fA_place, fA_may, fA_needs]
              refine wk (fn4_ok l L) ok_122 30 (fun pc => pc == 13) ?_
              simp only [fn4, kk_122, Option.toList_some, Option.toList_none, ex, sym, popN, goC, callOK, swL, List.map_cons, List.map_nil, List.replicate_zero, List.replicate_succ, List.append_nil, List.nil_append, List.cons_append, List.getElem?_cons_zero, List.getElem?_cons_succ, List.set_cons_zero, List.set_cons_succ, List.length_cons, List.length_nil, List.head?_cons, Nat.reduceAdd, Nat.reduceLT, Nat.reduceLeDiff, Nat.reduceBEq, Nat.reduceEqDiff, Nat.succ_ne_zero, Nat.zero_lt_succ, Nat.le_refl, sc_rows, kc_lit, nc_lit, wlk_rows, uR_s, uR_uR, true_and, and_true, true_or, or_true, false_or, or_false, and_false, false_and, or_self, and_self, if_true, if_false, Bool.false_eq_true, Bool.or_false, Bool.or_true, Bool.false_or, Bool.true_or, not_true_eq_false, not_false_eq_true, forall_const, true_implies, false_implies, implies_true, reduceIte, reduceCtorEq, hQ, hQ.1, fv, g3, n5F (show t < 2147483648 by omega), smI (show j < 2147483648 by omega), show j < 12 by omega, smI (show t < 2147483648 by omega), show t < 12 by omega, env, cnd_nd t2 f, eq_false (nd_ne z j f), nz_lit, eq_false (Int32.not_lt.mpr gl), fA_in, fA_size, fA_of, fA_lay, fA_tally, fA_waits, MOKh_eq, setZ_eq, ix_lit, in_lit, lt_lit, cl_lit, nz_lit, fn1, fn2, fn3, fA_stays, fA_tired, fA_begin, fA_fare, fA_place, fA_may, fA_needs]
              refine ih (some j) _ (by omega) (fun t e => by cases e; exact ⟨by omega, Or.inr g3, gm⟩) ?_
              simp only [cmb, if_pos gl] at he
              exact he
            · refine wk (fn4_ok l L) ok_122 30 (fun pc => pc == 42 || pc == 45) ?_
              simp only [fn4, kk_122, Option.toList_some, Option.toList_none, ex, sym, popN, goC, callOK, swL, List.map_cons, List.map_nil, List.replicate_zero, List.replicate_succ, List.append_nil, List.nil_append, List.cons_append, List.getElem?_cons_zero, List.getElem?_cons_succ, List.set_cons_zero, List.set_cons_succ, List.length_cons, List.length_nil, List.head?_cons, Nat.reduceAdd, Nat.reduceLT, Nat.reduceLeDiff, Nat.reduceBEq, Nat.reduceEqDiff, Nat.succ_ne_zero, Nat.zero_lt_succ, Nat.le_refl, sc_rows, kc_lit, nc_lit, wlk_rows, uR_s, uR_uR, true_and, and_true, true_or, or_true, false_or, or_false, and_false, false_and, or_self, and_self, if_true, if_false, Bool.false_eq_true, Bool.or_false, Bool.or_true, Bool.false_or, Bool.true_or, not_true_eq_false, not_false_eq_true, forall_const, true_implies, false_implies, implies_true, reduceIte, reduceCtorEq, hQ, hQ.1, fv, g3, n5F (show t < 2147483648 by omega), smI (show j < 2147483648 by omega), show j < 12 by omega, smI (show t < 2147483648 by omega), show t < 12 by omega, env, cnd_nd t2 f, eq_false (nd_ne z j f), nz_lit, Int32.not_le.mp gl, fA_in, fA_size, fA_of, fA_lay, fA_tally, fA_waits, MOKh_eq, setZ_eq, ix_lit, in_lit, lt_lit, cl_lit, nz_lit, fn1, fn2, fn3, fA_stays, fA_tired, fA_begin, fA_fare, fA_place, fA_may, fA_needs]
              refine wk (fn4_ok l L) ok_122 30 (fun pc => pc == 50 || pc == 75) ?_
              simp only [fn4, kk_122, Option.toList_some, Option.toList_none, ex, sym, popN, goC, callOK, swL, List.map_cons, List.map_nil, List.replicate_zero, List.replicate_succ, List.append_nil, List.nil_append, List.cons_append, List.getElem?_cons_zero, List.getElem?_cons_succ, List.set_cons_zero, List.set_cons_succ, List.length_cons, List.length_nil, List.head?_cons, Nat.reduceAdd, Nat.reduceLT, Nat.reduceLeDiff, Nat.reduceBEq, Nat.reduceEqDiff, Nat.succ_ne_zero, Nat.zero_lt_succ, Nat.le_refl, sc_rows, kc_lit, nc_lit, wlk_rows, uR_s, uR_uR, true_and, and_true, true_or, or_true, false_or, or_false, and_false, false_and, or_self, and_self, if_true, if_false, Bool.false_eq_true, Bool.or_false, Bool.or_true, Bool.false_or, Bool.true_or, not_true_eq_false, not_false_eq_true, forall_const, true_implies, false_implies, implies_true, reduceIte, reduceCtorEq, hQ, hQ.1, fv, g3, n5F (show t < 2147483648 by omega), smI (show j < 2147483648 by omega), show j < 12 by omega, smI (show t < 2147483648 by omega), show t < 12 by omega, env, cnd_nd t2 f, eq_false (nd_ne z j f), nz_lit, Int32.not_le.mp gl, fA_in, fA_size, fA_of, fA_lay, fA_tally, fA_waits, MOKh_eq, setZ_eq, ix_lit, in_lit, lt_lit, cl_lit, nz_lit, fn1, fn2, fn3, fA_stays, fA_tired, fA_begin, fA_fare, fA_place, fA_may, fA_needs]
              refine wk (fn4_ok l L) ok_122 30 (fun pc => pc == 71 || pc == 75) ?_
              simp only [fn4, kk_122, Option.toList_some, Option.toList_none, ex, sym, popN, goC, callOK, swL, List.map_cons, List.map_nil, List.replicate_zero, List.replicate_succ, List.append_nil, List.nil_append, List.cons_append, List.getElem?_cons_zero, List.getElem?_cons_succ, List.set_cons_zero, List.set_cons_succ, List.length_cons, List.length_nil, List.head?_cons, Nat.reduceAdd, Nat.reduceLT, Nat.reduceLeDiff, Nat.reduceBEq, Nat.reduceEqDiff, Nat.succ_ne_zero, Nat.zero_lt_succ, Nat.le_refl, sc_rows, kc_lit, nc_lit, wlk_rows, uR_s, uR_uR, true_and, and_true, true_or, or_true, false_or, or_false, and_false, false_and, or_self, and_self, if_true, if_false, Bool.false_eq_true, Bool.or_false, Bool.or_true, Bool.false_or, Bool.true_or, not_true_eq_false, not_false_eq_true, forall_const, true_implies, false_implies, implies_true, reduceIte, reduceCtorEq, hQ, hQ.1, fv, g3, n5F (show t < 2147483648 by omega), smI (show j < 2147483648 by omega), show j < 12 by omega, smI (show t < 2147483648 by omega), show t < 12 by omega, env, cnd_nd t2 f, eq_false (nd_ne z j f), nz_lit, Int32.not_le.mp gl, fA_in, fA_size, fA_of, fA_lay, fA_tally, fA_waits, MOKh_eq, setZ_eq, ix_lit, in_lit, lt_lit, cl_lit, nz_lit, fn1, fn2, fn3, fA_stays, fA_tired, fA_begin, fA_fare, fA_place, fA_may, fA_needs]
              refine wk (fn4_ok l L) ok_122 30 (fun pc => pc == 13) ?_
              simp only [fn4, kk_122, Option.toList_some, Option.toList_none, ex, sym, popN, goC, callOK, swL, List.map_cons, List.map_nil, List.replicate_zero, List.replicate_succ, List.append_nil, List.nil_append, List.cons_append, List.getElem?_cons_zero, List.getElem?_cons_succ, List.set_cons_zero, List.set_cons_succ, List.length_cons, List.length_nil, List.head?_cons, Nat.reduceAdd, Nat.reduceLT, Nat.reduceLeDiff, Nat.reduceBEq, Nat.reduceEqDiff, Nat.succ_ne_zero, Nat.zero_lt_succ, Nat.le_refl, sc_rows, kc_lit, nc_lit, wlk_rows, uR_s, uR_uR, true_and, and_true, true_or, or_true, false_or, or_false, and_false, false_and, or_self, and_self, if_true, if_false, Bool.false_eq_true, Bool.or_false, Bool.or_true, Bool.false_or, Bool.true_or, not_true_eq_false, not_false_eq_true, forall_const, true_implies, false_implies, implies_true, reduceIte, reduceCtorEq, hQ, hQ.1, fv, g3, n5F (show t < 2147483648 by omega), smI (show j < 2147483648 by omega), show j < 12 by omega, smI (show t < 2147483648 by omega), show t < 12 by omega, env, cnd_nd t2 f, eq_false (nd_ne z j f), nz_lit, Int32.not_le.mp gl, fA_in, fA_size, fA_of, fA_lay, fA_tally, fA_waits, MOKh_eq, setZ_eq, ix_lit, in_lit, lt_lit, cl_lit, nz_lit, fn1, fn2, fn3, fA_stays, fA_tired, fA_begin, fA_fare, fA_place, fA_may, fA_needs]
              refine ih (some t) _ (by omega) hg ?_
              simp only [cmb, if_neg gl] at he
              exact he
        · have ec : cBk z j = none := by unfold cBk; rw [if_neg (fun q => gm q.2)]
          have env : ndv z j f = -5 := by unfold ndv; rw [if_neg (fun q => gm q.2)]
          rw [ec] at he
          refine wk (fn4_ok l L) ok_122 30 (fun pc => pc == 42 || pc == 45) ?_
          simp only [fn4, kk_122, Option.toList_some, Option.toList_none, ex, sym, popN, goC, callOK, swL, List.map_cons, List.map_nil, List.replicate_zero, List.replicate_succ, List.append_nil, List.nil_append, List.cons_append, List.getElem?_cons_zero, List.getElem?_cons_succ, List.set_cons_zero, List.set_cons_succ, List.length_cons, List.length_nil, List.head?_cons, Nat.reduceAdd, Nat.reduceLT, Nat.reduceLeDiff, Nat.reduceBEq, Nat.reduceEqDiff, Nat.succ_ne_zero, Nat.zero_lt_succ, Nat.le_refl, sc_rows, kc_lit, nc_lit, wlk_rows, uR_s, uR_uR, true_and, and_true, true_or, or_true, false_or, or_false, and_false, false_and, or_self, and_self, if_true, if_false, Bool.false_eq_true, Bool.or_false, Bool.or_true, Bool.false_or, Bool.true_or, not_true_eq_false, not_false_eq_true, forall_const, true_implies, false_implies, implies_true, reduceIte, reduceCtorEq, hQ, hQ.1, fv, g3, smI (show j < 2147483648 by omega), show j < 12 by omega, env, nz_lit, fA_in, fA_size, fA_of, fA_lay, fA_tally, fA_waits, MOKh_eq, setZ_eq, ix_lit, in_lit, lt_lit, cl_lit, nz_lit, fn1, fn2, fn3, fA_stays, fA_tired, fA_begin, fA_fare, fA_place, fA_may, fA_needs]
          refine wk (fn4_ok l L) ok_122 30 (fun pc => pc == 45) ?_
          simp only [fn4, kk_122, Option.toList_some, Option.toList_none, ex, sym, popN, goC, callOK, swL, List.map_cons, List.map_nil, List.replicate_zero, List.replicate_succ, List.append_nil, List.nil_append, List.cons_append, List.getElem?_cons_zero, List.getElem?_cons_succ, List.set_cons_zero, List.set_cons_succ, List.length_cons, List.length_nil, List.head?_cons, Nat.reduceAdd, Nat.reduceLT, Nat.reduceLeDiff, Nat.reduceBEq, Nat.reduceEqDiff, Nat.succ_ne_zero, Nat.zero_lt_succ, Nat.le_refl, sc_rows, kc_lit, nc_lit, wlk_rows, uR_s, uR_uR, true_and, and_true, true_or, or_true, false_or, or_false, and_false, false_and, or_self, and_self, if_true, if_false, Bool.false_eq_true, Bool.or_false, Bool.or_true, Bool.false_or, Bool.true_or, not_true_eq_false, not_false_eq_true, forall_const, true_implies, false_implies, implies_true, reduceIte, reduceCtorEq, hQ, hQ.1, fv, g3, smI (show j < 2147483648 by omega), show j < 12 by omega, env, nz_lit, fA_in, fA_size, fA_of, fA_lay, fA_tally, fA_waits, MOKh_eq, setZ_eq, ix_lit, in_lit, lt_lit, cl_lit, nz_lit, fn1, fn2, fn3, fA_stays, fA_tired, fA_begin, fA_fare, fA_place, fA_may, fA_needs]
          refine wk (fn4_ok l L) ok_122 30 (fun pc => pc == 50 || pc == 75) ?_
          simp only [fn4, kk_122, Option.toList_some, Option.toList_none, ex, sym, popN, goC, callOK, swL, List.map_cons, List.map_nil, List.replicate_zero, List.replicate_succ, List.append_nil, List.nil_append, List.cons_append, List.getElem?_cons_zero, List.getElem?_cons_succ, List.set_cons_zero, List.set_cons_succ, List.length_cons, List.length_nil, List.head?_cons, Nat.reduceAdd, Nat.reduceLT, Nat.reduceLeDiff, Nat.reduceBEq, Nat.reduceEqDiff, Nat.succ_ne_zero, Nat.zero_lt_succ, Nat.le_refl, sc_rows, kc_lit, nc_lit, wlk_rows, uR_s, uR_uR, true_and, and_true, true_or, or_true, false_or, or_false, and_false, false_and, or_self, and_self, if_true, if_false, Bool.false_eq_true, Bool.or_false, Bool.or_true, Bool.false_or, Bool.true_or, not_true_eq_false, not_false_eq_true, forall_const, true_implies, false_implies, implies_true, reduceIte, reduceCtorEq, hQ, hQ.1, fv, g3, smI (show j < 2147483648 by omega), show j < 12 by omega, env, nz_lit, fA_in, fA_size, fA_of, fA_lay, fA_tally, fA_waits, MOKh_eq, setZ_eq, ix_lit, in_lit, lt_lit, cl_lit, nz_lit, fn1, fn2, fn3, fA_stays, fA_tired, fA_begin, fA_fare, fA_place, fA_may, fA_needs]
          refine wk (fn4_ok l L) ok_122 30 (fun pc => pc == 13) ?_
          simp only [fn4, kk_122, Option.toList_some, Option.toList_none, ex, sym, popN, goC, callOK, swL, List.map_cons, List.map_nil, List.replicate_zero, List.replicate_succ, List.append_nil, List.nil_append, List.cons_append, List.getElem?_cons_zero, List.getElem?_cons_succ, List.set_cons_zero, List.set_cons_succ, List.length_cons, List.length_nil, List.head?_cons, Nat.reduceAdd, Nat.reduceLT, Nat.reduceLeDiff, Nat.reduceBEq, Nat.reduceEqDiff, Nat.succ_ne_zero, Nat.zero_lt_succ, Nat.le_refl, sc_rows, kc_lit, nc_lit, wlk_rows, uR_s, uR_uR, true_and, and_true, true_or, or_true, false_or, or_false, and_false, false_and, or_self, and_self, if_true, if_false, Bool.false_eq_true, Bool.or_false, Bool.or_true, Bool.false_or, Bool.true_or, not_true_eq_false, not_false_eq_true, forall_const, true_implies, false_implies, implies_true, reduceIte, reduceCtorEq, hQ, hQ.1, fv, g3, smI (show j < 2147483648 by omega), show j < 12 by omega, env, nz_lit, fA_in, fA_size, fA_of, fA_lay, fA_tally, fA_waits, MOKh_eq, setZ_eq, ix_lit, in_lit, lt_lit, cl_lit, nz_lit, fn1, fn2, fn3, fA_stays, fA_tired, fA_begin, fA_fare, fA_place, fA_may, fA_needs]
          exact ih g _ (by omega) hg he
      · have ec : cBk z j = none := by unfold cBk; rw [if_neg (fun q => g3 q.1)]
        rw [ec] at he
        refine wk (fn4_ok l L) ok_122 30 (fun pc => pc == 42 || pc == 45) ?_
        simp only [fn4, kk_122, Option.toList_some, Option.toList_none, ex, sym, popN, goC, callOK, swL, List.map_cons, List.map_nil, List.replicate_zero, List.replicate_succ, List.append_nil, List.nil_append, List.cons_append, List.getElem?_cons_zero, List.getElem?_cons_succ, List.set_cons_zero, List.set_cons_succ, List.length_cons, List.length_nil, List.head?_cons, Nat.reduceAdd, Nat.reduceLT, Nat.reduceLeDiff, Nat.reduceBEq, Nat.reduceEqDiff, Nat.succ_ne_zero, Nat.zero_lt_succ, Nat.le_refl, sc_rows, kc_lit, nc_lit, wlk_rows, uR_s, uR_uR, true_and, and_true, true_or, or_true, false_or, or_false, and_false, false_and, or_self, and_self, if_true, if_false, Bool.false_eq_true, Bool.or_false, Bool.or_true, Bool.false_or, Bool.true_or, not_true_eq_false, not_false_eq_true, forall_const, true_implies, false_implies, implies_true, reduceIte, reduceCtorEq, hQ, hQ.1, fv, eq_false g3, smI (show j < 2147483648 by omega), show j < 12 by omega, nz_lit, fA_in, fA_size, fA_of, fA_lay, fA_tally, fA_waits, MOKh_eq, setZ_eq, ix_lit, in_lit, lt_lit, cl_lit, nz_lit, fn1, fn2, fn3, fA_stays, fA_tired, fA_begin, fA_fare, fA_place, fA_may, fA_needs]
        refine wk (fn4_ok l L) ok_122 30 (fun pc => pc == 45) ?_
        simp only [fn4, kk_122, Option.toList_some, Option.toList_none, ex, sym, popN, goC, callOK, swL, List.map_cons, List.map_nil, List.replicate_zero, List.replicate_succ, List.append_nil, List.nil_append, List.cons_append, List.getElem?_cons_zero, List.getElem?_cons_succ, List.set_cons_zero, List.set_cons_succ, List.length_cons, List.length_nil, List.head?_cons, Nat.reduceAdd, Nat.reduceLT, Nat.reduceLeDiff, Nat.reduceBEq, Nat.reduceEqDiff, Nat.succ_ne_zero, Nat.zero_lt_succ, Nat.le_refl, sc_rows, kc_lit, nc_lit, wlk_rows, uR_s, uR_uR, true_and, and_true, true_or, or_true, false_or, or_false, and_false, false_and, or_self, and_self, if_true, if_false, Bool.false_eq_true, Bool.or_false, Bool.or_true, Bool.false_or, Bool.true_or, not_true_eq_false, not_false_eq_true, forall_const, true_implies, false_implies, implies_true, reduceIte, reduceCtorEq, hQ, hQ.1, fv, eq_false g3, smI (show j < 2147483648 by omega), show j < 12 by omega, nz_lit, fA_in, fA_size, fA_of, fA_lay, fA_tally, fA_waits, MOKh_eq, setZ_eq, ix_lit, in_lit, lt_lit, cl_lit, nz_lit, fn1, fn2, fn3, fA_stays, fA_tired, fA_begin, fA_fare, fA_place, fA_may, fA_needs]
        refine wk (fn4_ok l L) ok_122 30 (fun pc => pc == 50 || pc == 75) ?_
        simp only [fn4, kk_122, Option.toList_some, Option.toList_none, ex, sym, popN, goC, callOK, swL, List.map_cons, List.map_nil, List.replicate_zero, List.replicate_succ, List.append_nil, List.nil_append, List.cons_append, List.getElem?_cons_zero, List.getElem?_cons_succ, List.set_cons_zero, List.set_cons_succ, List.length_cons, List.length_nil, List.head?_cons, Nat.reduceAdd, Nat.reduceLT, Nat.reduceLeDiff, Nat.reduceBEq, Nat.reduceEqDiff, Nat.succ_ne_zero, Nat.zero_lt_succ, Nat.le_refl, sc_rows, kc_lit, nc_lit, wlk_rows, uR_s, uR_uR, true_and, and_true, true_or, or_true, false_or, or_false, and_false, false_and, or_self, and_self, if_true, if_false, Bool.false_eq_true, Bool.or_false, Bool.or_true, Bool.false_or, Bool.true_or, not_true_eq_false, not_false_eq_true, forall_const, true_implies, false_implies, implies_true, reduceIte, reduceCtorEq, hQ, hQ.1, fv, eq_false g3, smI (show j < 2147483648 by omega), show j < 12 by omega, nz_lit, fA_in, fA_size, fA_of, fA_lay, fA_tally, fA_waits, MOKh_eq, setZ_eq, ix_lit, in_lit, lt_lit, cl_lit, nz_lit, fn1, fn2, fn3, fA_stays, fA_tired, fA_begin, fA_fare, fA_place, fA_may, fA_needs]
        refine wk (fn4_ok l L) ok_122 30 (fun pc => pc == 13) ?_
        simp only [fn4, kk_122, Option.toList_some, Option.toList_none, ex, sym, popN, goC, callOK, swL, List.map_cons, List.map_nil, List.replicate_zero, List.replicate_succ, List.append_nil, List.nil_append, List.cons_append, List.getElem?_cons_zero, List.getElem?_cons_succ, List.set_cons_zero, List.set_cons_succ, List.length_cons, List.length_nil, List.head?_cons, Nat.reduceAdd, Nat.reduceLT, Nat.reduceLeDiff, Nat.reduceBEq, Nat.reduceEqDiff, Nat.succ_ne_zero, Nat.zero_lt_succ, Nat.le_refl, sc_rows, kc_lit, nc_lit, wlk_rows, uR_s, uR_uR, true_and, and_true, true_or, or_true, false_or, or_false, and_false, false_and, or_self, and_self, if_true, if_false, Bool.false_eq_true, Bool.or_false, Bool.or_true, Bool.false_or, Bool.true_or, not_true_eq_false, not_false_eq_true, forall_const, true_implies, false_implies, implies_true, reduceIte, reduceCtorEq, hQ, hQ.1, fv, eq_false g3, smI (show j < 2147483648 by omega), show j < 12 by omega, nz_lit, fA_in, fA_size, fA_of, fA_lay, fA_tally, fA_waits, MOKh_eq, setZ_eq, ix_lit, in_lit, lt_lit, cl_lit, nz_lit, fn1, fn2, fn3, fA_stays, fA_tired, fA_begin, fA_fare, fA_place, fA_may, fA_needs]
        exact ih g _ (by omega) hg he
  refine run0 (n := 4) mok_122 ⟨rfl, rfl⟩ rfl ?_
  refine wk (fn4_ok l L) ok_122 30 (fun pc => pc == 13) ?_
  simp only [fn4, kk_122, Option.toList_some, Option.toList_none, ex, sym, popN, goC, callOK, swL, List.map_cons, List.map_nil, List.replicate_zero, List.replicate_succ, List.append_nil, List.nil_append, List.cons_append, List.getElem?_cons_zero, List.getElem?_cons_succ, List.set_cons_zero, List.set_cons_succ, List.length_cons, List.length_nil, List.head?_cons, Nat.reduceAdd, Nat.reduceLT, Nat.reduceLeDiff, Nat.reduceBEq, Nat.reduceEqDiff, Nat.succ_ne_zero, Nat.zero_lt_succ, Nat.le_refl, sc_rows, kc_lit, nc_lit, wlk_rows, uR_s, uR_uR, true_and, and_true, true_or, or_true, false_or, or_false, and_false, false_and, or_self, and_self, if_true, if_false, Bool.false_eq_true, Bool.or_false, Bool.or_true, Bool.false_or, Bool.true_or, not_true_eq_false, not_false_eq_true, forall_const, true_implies, false_implies, implies_true, reduceIte, reduceCtorEq, hQ.1, hL.1, fA_in, fA_size, fA_of, fA_lay, fA_tally, fA_waits, MOKh_eq, setZ_eq, ix_lit, in_lit, lt_lit, cl_lit, nz_lit, fn1, fn2, fn3, fA_stays, fA_tired, fA_begin, fA_fare, fA_place, fA_may, fA_needs]
  rw [Int32.sub_eq_add_neg]
  exact loop1 n none _ (Nat.le_refl n) (fun t e => by cases e) rfl
end E6
