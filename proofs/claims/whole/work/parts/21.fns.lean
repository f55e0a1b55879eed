/-! the reference's small methods: what they do, as functions of the cells -/
def QM (Q : Nat → Nat → Option Nat) : Prop := Q 149 0 = some 150 ∧ Q 149 1 = some 151 ∧ Q 149 2 = some 152 ∧ Q 149 4 = some 153 ∧ Q 149 6 = some 154 ∧ Q 149 12 = some 155
theorem kc_lit : KC 0 = 5 ∧ KC 1 = 4 ∧ KC 21 = 4 ∧ KC 41 = 4 ∧ KC 61 = 0 ∧ KC 62 = 10 ∧ KC 143 = 8 ∧ KC 144 = 1 ∧ KC 145 = 8 ∧ KC 146 = 7 ∧ KC 147 = 7 ∧ KC 148 = 8 ∧ KC 149 = 6 ∧ KC 150 = 7 ∧ KC 151 = 7 ∧ KC 152 = 7 ∧ KC 153 = 7 ∧ KC 154 = 7 ∧ KC 155 = 7 ∧ KC 1000 = 11 ∧ KC 1001 = 11 ∧ KC 1002 = 11 ∧ KC 1003 = 11 := by decide
theorem nc_lit (L : Nat) : NC L 62 = 4 ∧ NC L 143 = 60 ∧ NC L 145 = 20 ∧ NC L 146 = 20 ∧ NC L 147 = 20 ∧ NC L 148 = 0 ∧ NC L 150 = 228 ∧ NC L 151 = 228 ∧ NC L 152 = 912 ∧ NC L 153 = 228 ∧ NC L 154 = 60 ∧ NC L 155 = 66 ∧ NC L 1000 = 5 ∧ NC L 1001 = 5 ∧ NC L 1002 = 5 ∧ NC L 1003 = L := ⟨rfl, rfl, rfl, rfl, rfl, rfl, rfl, rfl, rfl, rfl, rfl, rfl, rfl, rfl, rfl, rfl⟩
theorem sc_rows (L : Nat) : (SC L).1 = 156 ∧ (SC L).2.1 = 3525 ∧ (SC L).2.2.1 = KC ∧ (SC L).2.2.2 = NC L := ⟨rfl, rfl, rfl, rfl⟩
/-- an index, as a natural number -/
abbrev ix (x : Int32) : Nat := x.toNatClampNeg
/-- rows for the walk -/
theorem wlk_rows : (∀ r : Nat, rvl (some r) = .ref r) ∧ rvl none = .null := ⟨fun _ => rfl, rfl⟩
def b2 (c : Prop) [Decidable c] : Int32 := if c then 1 else 0
theorem b2_0 {c : Prop} [Decidable c] : (b2 c = 0) = ¬ c := by
  unfold b2
  split <;> simp [*]
theorem b2_1 {c : Prop} [Decidable c] : (b2 c = 1) = c := by
  unfold b2
  split <;> simp [*]
theorem b2_01 {c : Prop} [Decidable c] : b2 c = 0 ∨ b2 c = 1 := by
  unfold b2
  split <;> simp
theorem b2_t {c : Prop} [Decidable c] (h : c) : b2 c = 1 := by unfold b2; rw [if_pos h]
theorem b2_f {c : Prop} [Decidable c] (h : ¬ c) : b2 c = 0 := by unfold b2; rw [if_neg h]
def sz32 (x : Int32) : Int32 := if x < 0 then -x else x
/-- the place of a taxi's number in the state's array -/
abbrev tp (i w : Nat) : Nat := 72 + 13 * i + w
theorem nI_small {i : Nat} (h : i < 2147483648) : ix (nI i) = i ∧ ¬ nI i < 0 := ⟨nI_clamp h, nI_pos h⟩
theorem ix_nI {n : Nat} (h : n < 2147483648) : ix (nI n) = n := nI_clamp h
theorem ix_of {x : Int32} (h : ¬ x < 0) : x = nI (ix x) ∧ ix x < 2147483648 := by
  obtain ⟨j, hj, rfl⟩ := nI_of h
  rw [ix_nI hj]
  exact ⟨rfl, hj⟩
theorem tp_ix {t w : Int32} (ht : ¬ t < 0) (ht2 : ix t < 12) (hw : ¬ w < 0) (hw2 : ix w < 13) : vp_in (72 + 13 * t + w) 228 ∧ ix (72 + 13 * t + w) = tp (ix t) (ix w) := by
  obtain ⟨e1, -⟩ := ix_of ht
  obtain ⟨e2, -⟩ := ix_of hw
  rw [e1, e2, ix_nI (n := ix t) (by omega), ix_nI (n := ix w) (by omega)]
  have e : (72 : Int32) + 13 * nI (ix t) + nI (ix w) = nI (tp (ix t) (ix w)) := by
    rw [show (72 : Int32) = nI 72 from rfl, show (13 : Int32) = nI 13 from rfl, pk_mul, nI_add, nI_add]
  rw [e]
  exact ⟨vp_in_nI (by simp [tp]; omega) (by omega), ix_nI (by simp [tp]; omega)⟩
theorem wt_ix {t w : Int32} (ht : ¬ t < 0) (ht2 : ix t < 15) (hw : ¬ w < 0) (hw2 : ix w < 3) : vp_in (27 + 3 * t + w) 228 ∧ ix (27 + 3 * t + w) = 27 + 3 * ix t + ix w := by
  obtain ⟨e1, -⟩ := ix_of ht
  obtain ⟨e2, -⟩ := ix_of hw
  rw [e1, e2, ix_nI (n := ix t) (by omega), ix_nI (n := ix w) (by omega)]
  have e : (27 : Int32) + 3 * nI (ix t) + nI (ix w) = nI (27 + 3 * ix t + ix w) := by
    rw [show (27 : Int32) = nI 27 from rfl, show (3 : Int32) = nI 3 from rfl, pk_mul, nI_add, nI_add]
  rw [e]
  exact ⟨vp_in_nI (by omega) (by omega), ix_nI (by omega)⟩
/-- the model's cells -/
def MOKh (L : Nat) (h : PH) : Prop := h.1 = SC L ∧ QM h.2.2
theorem MOKh_eq (L : Nat) (I : Nat → Nat → Int32) (Q : Nat → Nat → Option Nat) : MOKh L (SC L, I, Q) = QM Q := by simp [MOKh]
theorem MOKh_of {L : Nat} {h : PH} (hm : MOKh L h) : h = (SC L, h.2.1, h.2.2) := by
  obtain ⟨h1, -⟩ := hm
  rw [← h1]
def setZ (h : PH) (k : Nat) (v : Int32) : PH := (h.1, uR h.2.1 150 (upd (h.2.1 150) k v), h.2.2)
def fA_in : FN := fun As h => match As with
  | [.int v, .int a, .int b] => (True, [.int (b2 (a ≤ v ∧ v ≤ b))], h)
  | _ => (False, [], h)
def fA_size : FN := fun As h => match As with
  | [.int v] => (True, [.int (sz32 v)], h)
  | _ => (False, [], h)
def fA_isPlace : FN := fun As h => match As with
  | [.int v] => (h.1.1 = 156 ∧ h.1.2.1 = 3525, [.int (b2 (0 ≤ v ∧ v ≤ 20))], h)
  | _ => (False, [], h)
def fA_of (L : Nat) : FN := fun As h => match As with
  | [.ref 149, .int t, .int w] => (MOKh L h ∧ (¬ t < 0 ∧ ix t < 12) ∧ ¬ w < 0 ∧ ix w < 13, [.int (h.2.1 150 (tp (ix t) (ix w)))], h)
  | _ => (False, [], h)
def fA_lay (L : Nat) : FN := fun As h => match As with
  | [.ref 149, .int t, .int w, .int v] => (MOKh L h ∧ (¬ t < 0 ∧ ix t < 12) ∧ ¬ w < 0 ∧ ix w < 13, [], setZ h (tp (ix t) (ix w)) v)
  | _ => (False, [], h)
def fA_tally (L : Nat) : FN := fun As h => match As with
  | [.ref 149, .int t, .int w] => (MOKh L h ∧ (¬ t < 0 ∧ ix t < 12) ∧ ¬ w < 0 ∧ ix w < 13, [], setZ h (tp (ix t) (ix w)) (h.2.1 150 (tp (ix t) (ix w)) + 1))
  | _ => (False, [], h)
def fA_waits (L : Nat) : FN := fun As h => match As with
  | [.ref 149, .int t, .int w] => (MOKh L h ∧ (¬ t < 0 ∧ ix t < 15) ∧ ¬ w < 0 ∧ ix w < 3, [.int (h.2.1 150 (27 + 3 * ix t + ix w))], h)
  | _ => (False, [], h)
section T1
variable {l : Launch} {L : Nat} {I : Nat → Nat → Int32} {Q : Nat → Nat → Option Nat} {P : Option Value → PH → Prop}
set_option maxRecDepth 100000 in
theorem s_in (h : PH) (v a b : Int32) (hp : P (some (.int (b2 (a ≤ v ∧ v ≤ b)))) h) : Runs l 83 [.int v, .int a, .int b] h P := by
  refine run0 (n := 0) mok_83 ⟨rfl, rfl⟩ rfl ?_
  refine wk ((fn0_ok l)) ok_83 20 (fun pc => false) ?_
  simp only [fn0, kk_83, Option.toList_some, Option.toList_none, ex, sym, popN, goC, callOK, swL, List.map_cons, List.map_nil, List.replicate_zero, List.replicate_succ, List.append_nil, List.nil_append, List.cons_append, List.getElem?_cons_zero, List.getElem?_cons_succ, List.set_cons_zero, List.set_cons_succ, List.length_cons, List.length_nil, List.head?_cons, Nat.reduceAdd, Nat.reduceLT, Nat.reduceLeDiff, Nat.reduceBEq, Nat.reduceEqDiff, Nat.succ_ne_zero, Nat.zero_lt_succ, Nat.le_refl, sc_rows, kc_lit, nc_lit, wlk_rows, uR_s, uR_uR, true_and, and_true, true_or, or_true, false_or, or_false, and_false, false_and, or_self, and_self, if_true, if_false, Bool.false_eq_true, Bool.or_false, Bool.or_true, Bool.false_or, Bool.true_or, not_true_eq_false, not_false_eq_true, forall_const, true_implies, false_implies, implies_true, reduceIte, reduceCtorEq]
  refine ⟨fun h1 => ?_, fun h1 => ?_⟩
  · rw [b2_f (fun z => absurd (z.1) (by simpa using h1))] at hp
    exact hp
  · refine ⟨fun h2 => ?_, fun h2 => ?_⟩
    · rw [b2_f (fun z => absurd (z.2) (by simpa using h2))] at hp
      exact hp
    · rw [b2_t ⟨by simpa using h1, by simpa using h2⟩] at hp
      exact hp
set_option maxRecDepth 100000 in
theorem s_size (h : PH) (v : Int32) (hp : P (some (.int (sz32 v))) h) : Runs l 84 [.int v] h P := by
  refine run0 (n := 0) mok_84 ⟨rfl, rfl⟩ rfl ?_
  refine wk ((fn0_ok l)) ok_84 20 (fun pc => false) ?_
  simp only [fn0, kk_84, Option.toList_some, Option.toList_none, ex, sym, popN, goC, callOK, swL, List.map_cons, List.map_nil, List.replicate_zero, List.replicate_succ, List.append_nil, List.nil_append, List.cons_append, List.getElem?_cons_zero, List.getElem?_cons_succ, List.set_cons_zero, List.set_cons_succ, List.length_cons, List.length_nil, List.head?_cons, Nat.reduceAdd, Nat.reduceLT, Nat.reduceLeDiff, Nat.reduceBEq, Nat.reduceEqDiff, Nat.succ_ne_zero, Nat.zero_lt_succ, Nat.le_refl, sc_rows, kc_lit, nc_lit, wlk_rows, uR_s, uR_uR, true_and, and_true, true_or, or_true, false_or, or_false, and_false, false_and, or_self, and_self, if_true, if_false, Bool.false_eq_true, Bool.or_false, Bool.or_true, Bool.false_or, Bool.true_or, not_true_eq_false, not_false_eq_true, forall_const, true_implies, false_implies, implies_true, reduceIte, reduceCtorEq]
  unfold sz32 at hp
  refine ⟨fun h1 => ?_, fun h1 => ?_⟩
  · rw [if_neg (by simpa using h1)] at hp
    exact hp
  · rw [if_pos (by simpa using h1)] at hp
    exact hp
set_option maxRecDepth 100000 in
theorem s_of (hQ : QM Q) (t w : Int32) (hi : (¬ t < 0 ∧ ix t < 12) ∧ ¬ w < 0 ∧ ix w < 13) (hp : P (some (.int (I 150 (tp (ix t) (ix w))))) (SC L, I, Q)) : Runs l 86 [.ref 149, .int t, .int w] (SC L, I, Q) P := by
  obtain ⟨g1, g2⟩ := tp_ix hi.1.1 hi.1.2 hi.2.1 hi.2.2
  refine run0 (n := 0) mok_86 ⟨rfl, rfl⟩ rfl ?_
  refine wk ((fn0_ok l)) ok_86 20 (fun pc => false) ?_
  simp only [fn0, kk_86, Option.toList_some, Option.toList_none, ex, sym, popN, goC, callOK, swL, List.map_cons, List.map_nil, List.replicate_zero, List.replicate_succ, List.append_nil, List.nil_append, List.cons_append, List.getElem?_cons_zero, List.getElem?_cons_succ, List.set_cons_zero, List.set_cons_succ, List.length_cons, List.length_nil, List.head?_cons, Nat.reduceAdd, Nat.reduceLT, Nat.reduceLeDiff, Nat.reduceBEq, Nat.reduceEqDiff, Nat.succ_ne_zero, Nat.zero_lt_succ, Nat.le_refl, sc_rows, kc_lit, nc_lit, wlk_rows, uR_s, uR_uR, true_and, and_true, true_or, or_true, false_or, or_false, and_false, false_and, or_self, and_self, if_true, if_false, Bool.false_eq_true, Bool.or_false, Bool.or_true, Bool.false_or, Bool.true_or, not_true_eq_false, not_false_eq_true, forall_const, true_implies, false_implies, implies_true, reduceIte, reduceCtorEq, hQ.1]
  exact ⟨g1, by rw [show (72 + 13 * t + w).toNatClampNeg = tp (ix t) (ix w) from g2]; exact hp⟩
set_option maxRecDepth 100000 in
theorem s_lay (hQ : QM Q) (t w v : Int32) (hi : (¬ t < 0 ∧ ix t < 12) ∧ ¬ w < 0 ∧ ix w < 13) (hp : P none (setZ (SC L, I, Q) (tp (ix t) (ix w)) v)) : Runs l 87 [.ref 149, .int t, .int w, .int v] (SC L, I, Q) P := by
  obtain ⟨g1, g2⟩ := tp_ix hi.1.1 hi.1.2 hi.2.1 hi.2.2
  refine run0 (n := 0) mok_87 ⟨rfl, rfl⟩ rfl ?_
  refine wk ((fn0_ok l)) ok_87 20 (fun pc => false) ?_
  simp only [fn0, kk_87, Option.toList_some, Option.toList_none, ex, sym, popN, goC, callOK, swL, List.map_cons, List.map_nil, List.replicate_zero, List.replicate_succ, List.append_nil, List.nil_append, List.cons_append, List.getElem?_cons_zero, List.getElem?_cons_succ, List.set_cons_zero, List.set_cons_succ, List.length_cons, List.length_nil, List.head?_cons, Nat.reduceAdd, Nat.reduceLT, Nat.reduceLeDiff, Nat.reduceBEq, Nat.reduceEqDiff, Nat.succ_ne_zero, Nat.zero_lt_succ, Nat.le_refl, sc_rows, kc_lit, nc_lit, wlk_rows, uR_s, uR_uR, true_and, and_true, true_or, or_true, false_or, or_false, and_false, false_and, or_self, and_self, if_true, if_false, Bool.false_eq_true, Bool.or_false, Bool.or_true, Bool.false_or, Bool.true_or, not_true_eq_false, not_false_eq_true, forall_const, true_implies, false_implies, implies_true, reduceIte, reduceCtorEq, hQ.1]
  exact ⟨g1, by rw [show (72 + 13 * t + w).toNatClampNeg = tp (ix t) (ix w) from g2]; exact hp⟩
set_option maxRecDepth 100000 in
theorem s_tally (hQ : QM Q) (t w : Int32) (hi : (¬ t < 0 ∧ ix t < 12) ∧ ¬ w < 0 ∧ ix w < 13) (hp : P none (setZ (SC L, I, Q) (tp (ix t) (ix w)) (I 150 (tp (ix t) (ix w)) + 1))) : Runs l 88 [.ref 149, .int t, .int w] (SC L, I, Q) P := by
  obtain ⟨g1, g2⟩ := tp_ix hi.1.1 hi.1.2 hi.2.1 hi.2.2
  refine run0 (n := 0) mok_88 ⟨rfl, rfl⟩ rfl ?_
  refine wk ((fn0_ok l)) ok_88 20 (fun pc => false) ?_
  simp only [fn0, kk_88, Option.toList_some, Option.toList_none, ex, sym, popN, goC, callOK, swL, List.map_cons, List.map_nil, List.replicate_zero, List.replicate_succ, List.append_nil, List.nil_append, List.cons_append, List.getElem?_cons_zero, List.getElem?_cons_succ, List.set_cons_zero, List.set_cons_succ, List.length_cons, List.length_nil, List.head?_cons, Nat.reduceAdd, Nat.reduceLT, Nat.reduceLeDiff, Nat.reduceBEq, Nat.reduceEqDiff, Nat.succ_ne_zero, Nat.zero_lt_succ, Nat.le_refl, sc_rows, kc_lit, nc_lit, wlk_rows, uR_s, uR_uR, true_and, and_true, true_or, or_true, false_or, or_false, and_false, false_and, or_self, and_self, if_true, if_false, Bool.false_eq_true, Bool.or_false, Bool.or_true, Bool.false_or, Bool.true_or, not_true_eq_false, not_false_eq_true, forall_const, true_implies, false_implies, implies_true, reduceIte, reduceCtorEq, hQ.1]
  exact ⟨g1, by rw [show (72 + 13 * t + w).toNatClampNeg = tp (ix t) (ix w) from g2]; exact ⟨g1, hp⟩⟩
set_option maxRecDepth 100000 in
theorem s_waits (hQ : QM Q) (t w : Int32) (hi : (¬ t < 0 ∧ ix t < 15) ∧ ¬ w < 0 ∧ ix w < 3) (hp : P (some (.int (I 150 (27 + 3 * ix t + ix w)))) (SC L, I, Q)) : Runs l 111 [.ref 149, .int t, .int w] (SC L, I, Q) P := by
  obtain ⟨g1, g2⟩ := wt_ix hi.1.1 hi.1.2 hi.2.1 hi.2.2
  refine run0 (n := 0) mok_111 ⟨rfl, rfl⟩ rfl ?_
  refine wk ((fn0_ok l)) ok_111 20 (fun pc => false) ?_
  simp only [fn0, kk_111, Option.toList_some, Option.toList_none, ex, sym, popN, goC, callOK, swL, List.map_cons, List.map_nil, List.replicate_zero, List.replicate_succ, List.append_nil, List.nil_append, List.cons_append, List.getElem?_cons_zero, List.getElem?_cons_succ, List.set_cons_zero, List.set_cons_succ, List.length_cons, List.length_nil, List.head?_cons, Nat.reduceAdd, Nat.reduceLT, Nat.reduceLeDiff, Nat.reduceBEq, Nat.reduceEqDiff, Nat.succ_ne_zero, Nat.zero_lt_succ, Nat.le_refl, sc_rows, kc_lit, nc_lit, wlk_rows, uR_s, uR_uR, true_and, and_true, true_or, or_true, false_or, or_false, and_false, false_and, or_self, and_self, if_true, if_false, Bool.false_eq_true, Bool.or_false, Bool.or_true, Bool.false_or, Bool.true_or, not_true_eq_false, not_false_eq_true, forall_const, true_implies, false_implies, implies_true, reduceIte, reduceCtorEq, hQ.1]
  exact ⟨g1, by rw [show (27 + 3 * t + w).toNatClampNeg = 27 + 3 * ix t + ix w from g2]; exact hp⟩
/-- the table of the methods that a walk goes through at once -/
def fn1 (L : Nat) : Nat → Option FN := fun y => match y with
  | 83 => some fA_in
  | 84 => some fA_size
  | 86 => some (fA_of L)
  | 87 => some (fA_lay L)
  | 88 => some (fA_tally L)
  | 111 => some (fA_waits L)
  | _ => none
theorem fn1_ok (l : Launch) (L : Nat) : fnOK l (fn1 L) := by
  intro y f hf As h hpre
  unfold fn1 at hf
  split at hf <;> first | (cases hf; done) | skip
  · cases hf
    unfold fA_in at hpre ⊢
    split at hpre
    · exact ⟨some _, rfl, fun Q hq => s_in h _ _ _ hq⟩
    · exact hpre.elim
  · cases hf
    unfold fA_size at hpre ⊢
    split at hpre
    · exact ⟨some _, rfl, fun Q hq => s_size h _ hq⟩
    · exact hpre.elim
  · cases hf
    unfold fA_of at hpre ⊢
    split at hpre
    · obtain ⟨hm, hi⟩ := hpre
      refine ⟨some _, rfl, fun Q hq => ?_⟩
      rw [MOKh_of hm] at hq ⊢
      exact s_of hm.2 _ _ hi hq
    · exact hpre.elim
  · cases hf
    unfold fA_lay at hpre ⊢
    split at hpre
    · obtain ⟨hm, hi⟩ := hpre
      refine ⟨none, rfl, fun Q hq => ?_⟩
      rw [MOKh_of hm] at hq ⊢
      exact s_lay hm.2 _ _ _ hi hq
    · exact hpre.elim
  · cases hf
    unfold fA_tally at hpre ⊢
    split at hpre
    · obtain ⟨hm, hi⟩ := hpre
      refine ⟨none, rfl, fun Q hq => ?_⟩
      rw [MOKh_of hm] at hq ⊢
      exact s_tally hm.2 _ _ hi hq
    · exact hpre.elim
  · cases hf
    unfold fA_waits at hpre ⊢
    split at hpre
    · obtain ⟨hm, hi⟩ := hpre
      refine ⟨some _, rfl, fun Q hq => ?_⟩
      rw [MOKh_of hm] at hq ⊢
      exact s_waits hm.2 _ _ hi hq
    · exact hpre.elim
end T1
