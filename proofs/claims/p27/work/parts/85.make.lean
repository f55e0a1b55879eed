/-! making: cells are taken one after the other -/
def FC (n : Nat) (I : Nat → Nat → Int32) (Q : Nat → Nat → Option Nat) : Prop := n < 999 ∧ (∀ p, n ≤ p → p < 1000 → I p = fun _ => 0) ∧ (∀ p, n ≤ p → p < 1000 → Q p = fun _ => none) ∧ ∀ p j r, p < n → Q p j = some r → r < n
section L1
variable {l : Launch} {L n s : Nat} {I : Nat → Nat → Int32} {Q : Nat → Nat → Option Nat} {P : Option Value → PH → Prop}
theorem newH_F {kind sl len : Nat} (h : FC n I Q) (hk : KC n = kind) (hl : NC L n = len) : newH ((n, s, KC, NC L), I, Q) kind sl len = ((n + 1, s + sl, KC, NC L), I, Q) := by
  obtain ⟨h1, h2, h3, h4⟩ := h
  have e1 : va_up KC n kind = KC := by
    funext j
    simp only [va_up]
    by_cases q : j = n
    · rw [if_pos q, q]; exact hk.symm
    · rw [if_neg q]
  have e2 : va_up (NC L) n len = NC L := by
    funext j
    simp only [va_up]
    by_cases q : j = n
    · rw [if_pos q, q]; exact hl.symm
    · rw [if_neg q]
  have e3 : uR I n (fun _ => 0) = I := by rw [← h2 n (Nat.le_refl n) (by omega), uR_self]
  have e4 : uR Q n (fun _ => none) = Q := by rw [← h3 n (Nat.le_refl n) (by omega), uR_self]
  unfold newH
  dsimp only
  rw [e1, e2, e3, e4]
theorem FC.new (h : FC n I Q) (h2 : n + 1 < 999) : FC (n + 1) I Q := by
  obtain ⟨h1, h3, h4, h5⟩ := h
  refine ⟨h2, fun p a b => h3 p (by omega) b, fun p a b => h4 p (by omega) b, fun p j r hp hr => ?_⟩
  by_cases q : p = n
  · rw [q, h4 n (Nat.le_refl n) (by omega)] at hr
    cases hr
  · have := h5 p j r (by omega) hr
    omega
theorem FC.setI (h : FC n I Q) {p : Nat} (hp : p < n) (g : Nat → Int32) : FC n (uR I p g) Q := ⟨h.1, fun q a b => by rw [uR_n _ _ (by omega)]; exact h.2.1 q a b, h.2.2.1, h.2.2.2⟩
theorem FC.setQ (h : FC n I Q) {p r j : Nat} (hp : p < n) (hr : r < n) : FC n I (uR Q p (va_up (Q p) j (some r))) := by
  refine ⟨h.1, h.2.1, fun q a b => by rw [uR_n _ _ (by omega)]; exact h.2.2.1 q a b, fun q i t hq ht => ?_⟩
  by_cases e : q = p
  · subst e
    rw [uR_s] at ht
    by_cases e2 : i = j
    · subst e2
      simp only [va_up, if_true] at ht
      cases ht
      exact hr
    · rw [vup_n _ _ e2] at ht
      exact h.2.2.2 q i t hq ht
  · rw [uR_n _ _ e] at ht
    exact h.2.2.2 q i t hq ht
theorem nok_of {id c sl k : Nat} {ls : List (Option Value)} {st : List Value} (hc : (mrm id).cells ≠ 0) (h1 : n + 1 ≤ c ∧ s + k ≤ sl) (h : FC n I Q) (hls : ∀ v, some v ∈ ls → vOld n v) (hst : ∀ v, v ∈ st → vOld n v) : newOK id (c, sl) ls st ((n, s, KC, NC L), I, Q) k := ⟨hc, h1, by have := h.1; show n < 1000; omega, h.2.2.2, hls, hst⟩
theorem old_ref {p : Nat} (h : p < n) : vOld n (.ref p) := Or.inl h
theorem old_int {x : Int32} : vOld n (.int x) := trivial
theorem run1 {id c sl k : Nat} {args : List Value} {h : PH} (hid : MOK id) (hz : (mrm id).cells = c ∧ (mrm id).slots = sl) (hmk : (mmx id, true) = (args.length + k, noL args)) (hk : Sy l id (h.1.1 + c, h.1.2.1 + sl) 0 (args.map some ++ List.replicate k none) [] h P) : Runs l id args h P := by
  have hm : mmx id = args.length + k := congrArg Prod.fst hmk
  have hno : noL args = true := (congrArg Prod.snd hmk).symm
  refine run_of hid hno (by omega) ?_
  rw [hz.1, hz.2, show mmx id - args.length = k by omega]
  exact hk
theorem F1 (n s : Nat) (L : Nat) : ((n, s, KC, NC L) : PS).1 = n ∧ ((n, s, KC, NC L) : PS).2.1 = s ∧ ((n, s, KC, NC L) : PS).2.2.1 = KC ∧ ((n, s, KC, NC L) : PS).2.2.2 = NC L := ⟨rfl, rfl, rfl, rfl⟩
theorem olds1 {a : Value} (ha : vOld n a) : ∀ v, some v ∈ [some a] → vOld n v := fun v hv => by
  simp only [List.mem_singleton, Option.some.injEq] at hv
  rw [hv]; exact ha
theorem olds2 {a b : Value} (ha : vOld n a) (hb : vOld n b) : ∀ v, some v ∈ [some a, some b] → vOld n v := fun v hv => by
  simp only [List.mem_cons, List.not_mem_nil, or_false, Option.some.injEq] at hv
  rcases hv with hv | hv
  · rw [hv]; exact ha
  · rw [hv]; exact hb
theorem st1 {a : Value} (ha : vOld n a) : ∀ v, v ∈ [a] → vOld n v := fun v hv => by
  simp only [List.mem_singleton] at hv
  rw [hv]; exact ha
theorem st2 {a b : Value} (ha : vOld n a) (hb : vOld n b) : ∀ v, v ∈ [a, b] → vOld n v := fun v hv => by
  simp only [List.mem_cons, List.not_mem_nil, or_false] at hv
  rcases hv with hv | hv
  · rw [hv]; exact ha
  · rw [hv]; exact hb
set_option maxRecDepth 100000 in
theorem k_taxi {p : Nat} (h1 : P none ((n, s, KC, NC L), I, Q)) : Runs l 16 [.ref p] ((n, s, KC, NC L), I, Q) P := by
  refine run0 (n := 0) mok_16 ⟨rfl, rfl⟩ rfl ?_
  refine wk ((fn0_ok l)) ok_16 10 (fun pc => false) ?_
  simp only [fn0, kk_16, Option.toList_some, Option.toList_none, ex, catS, vC, isMk, sym, popN, goC, callOK, swL, List.map_cons, List.map_nil, List.replicate_zero, List.replicate_succ, List.append_nil, List.nil_append, List.cons_append, List.getElem?_cons_zero, List.getElem?_cons_succ, List.set_cons_zero, List.set_cons_succ, List.length_cons, List.length_nil, List.head?_cons, Nat.reduceAdd, Nat.reduceLT, Nat.reduceLeDiff, Nat.reduceBEq, Nat.reduceEqDiff, Nat.succ_ne_zero, Nat.zero_lt_succ, Nat.le_refl, sc_rows, kc_lit, nc_lit, wlk_rows, uR_s, uR_uR, true_and, and_true, true_or, or_true, false_or, or_false, and_false, false_and, or_self, and_self, if_true, if_false, Bool.false_eq_true, Bool.or_false, Bool.or_true, Bool.false_or, Bool.true_or, not_true_eq_false, not_false_eq_true, forall_const, true_implies, false_implies, implies_true, reduceIte, reduceCtorEq, F1]
  exact h1
set_option maxRecDepth 100000 in
theorem k_queue {p : Nat} (hfc : FC (p + 1) I Q) (hp : p < 900) (hk : KC p = 2 ∧ KC (p + 1) = 7 ∧ KC (p + 2) = 7 ∧ KC (p + 3) = 7) (hl : NC L (p + 1) = 15 ∧ NC L (p + 2) = 15 ∧ NC L (p + 3) = 15) (h1 : ∀ Q', FC (p + 4) I Q' → (Q' p 1 = some (p + 1) ∧ Q' p 2 = some (p + 2) ∧ Q' p 3 = some (p + 3)) → (∀ q, q ≠ p → Q' q = Q q) → P none ((p + 4, s + 45, KC, NC L), I, Q')) : Runs l 11 [.ref p] ((p + 1, s, KC, NC L), I, Q) P := by
  refine run1 (c := 3) (sl := 45) (k := 0) mok_11 ⟨rfl, rfl⟩ rfl ?_
  have z15 : (¬ (15 : Int32) < 0) ∧ (15 : Int32).toNatClampNeg = 15 := by decide
  have lt : p < p + 1 ∧ p < p + 2 ∧ p < p + 3 ∧ p < p + 4 ∧ p + 1 < p + 2 ∧ p + 2 < p + 3 ∧ p + 3 < p + 4 := by omega
  refine wk ((fn0_ok l)) ok_11 20 (fun pc => pc == 7) ?_
  simp only [fn0, kk_11, Option.toList_some, Option.toList_none, ex, catS, vC, isMk, sym, popN, goC, callOK, swL, List.map_cons, List.map_nil, List.replicate_zero, List.replicate_succ, List.append_nil, List.nil_append, List.cons_append, List.getElem?_cons_zero, List.getElem?_cons_succ, List.set_cons_zero, List.set_cons_succ, List.length_cons, List.length_nil, List.head?_cons, Nat.reduceAdd, Nat.reduceLT, Nat.reduceLeDiff, Nat.reduceBEq, Nat.reduceEqDiff, Nat.succ_ne_zero, Nat.zero_lt_succ, Nat.le_refl, sc_rows, kc_lit, nc_lit, wlk_rows, uR_s, uR_uR, true_and, and_true, true_or, or_true, false_or, or_false, and_false, false_and, or_self, and_self, if_true, if_false, Bool.false_eq_true, Bool.or_false, Bool.or_true, Bool.false_or, Bool.true_or, not_true_eq_false, not_false_eq_true, forall_const, true_implies, false_implies, implies_true, reduceIte, reduceCtorEq, F1, lt]
  refine wk ((fn0_ok l)) ok_11 0 (fun pc => false) ?_
  simp only [fn0, kk_11, Option.toList_some, Option.toList_none, ex, catS, vC, isMk, sym, popN, goC, callOK, swL, List.map_cons, List.map_nil, List.replicate_zero, List.replicate_succ, List.append_nil, List.nil_append, List.cons_append, List.getElem?_cons_zero, List.getElem?_cons_succ, List.set_cons_zero, List.set_cons_succ, List.length_cons, List.length_nil, List.head?_cons, Nat.reduceAdd, Nat.reduceLT, Nat.reduceLeDiff, Nat.reduceBEq, Nat.reduceEqDiff, Nat.succ_ne_zero, Nat.zero_lt_succ, Nat.le_refl, sc_rows, kc_lit, nc_lit, wlk_rows, uR_s, uR_uR, true_and, and_true, true_or, or_true, false_or, or_false, and_false, false_and, or_self, and_self, if_true, if_false, Bool.false_eq_true, Bool.or_false, Bool.or_true, Bool.false_or, Bool.true_or, not_true_eq_false, not_false_eq_true, forall_const, true_implies, false_implies, implies_true, reduceIte, reduceCtorEq, F1, lt, z15, Nat.reduceLeDiff]
  refine ⟨nok_of (by decide) ⟨by omega, by omega⟩ hfc (olds1 (old_ref (by omega))) (st1 (old_ref (by omega))), ?_⟩
  rw [newH_F hfc hk.2.1 hl.1]
  have f2 := (hfc.new (by omega)).setQ (p := p) (r := p + 1) (j := 1) (by omega) (by omega)
  refine wk ((fn0_ok l)) ok_11 20 (fun pc => pc == 15) ?_
  simp only [fn0, kk_11, Option.toList_some, Option.toList_none, ex, catS, vC, isMk, sym, popN, goC, callOK, swL, List.map_cons, List.map_nil, List.replicate_zero, List.replicate_succ, List.append_nil, List.nil_append, List.cons_append, List.getElem?_cons_zero, List.getElem?_cons_succ, List.set_cons_zero, List.set_cons_succ, List.length_cons, List.length_nil, List.head?_cons, Nat.reduceAdd, Nat.reduceLT, Nat.reduceLeDiff, Nat.reduceBEq, Nat.reduceEqDiff, Nat.succ_ne_zero, Nat.zero_lt_succ, Nat.le_refl, sc_rows, kc_lit, nc_lit, wlk_rows, uR_s, uR_uR, true_and, and_true, true_or, or_true, false_or, or_false, and_false, false_and, or_self, and_self, if_true, if_false, Bool.false_eq_true, Bool.or_false, Bool.or_true, Bool.false_or, Bool.true_or, not_true_eq_false, not_false_eq_true, forall_const, true_implies, false_implies, implies_true, reduceIte, reduceCtorEq, F1, lt, hk]
  refine wk ((fn0_ok l)) ok_11 0 (fun pc => false) ?_
  simp only [fn0, kk_11, Option.toList_some, Option.toList_none, ex, catS, vC, isMk, sym, popN, goC, callOK, swL, List.map_cons, List.map_nil, List.replicate_zero, List.replicate_succ, List.append_nil, List.nil_append, List.cons_append, List.getElem?_cons_zero, List.getElem?_cons_succ, List.set_cons_zero, List.set_cons_succ, List.length_cons, List.length_nil, List.head?_cons, Nat.reduceAdd, Nat.reduceLT, Nat.reduceLeDiff, Nat.reduceBEq, Nat.reduceEqDiff, Nat.succ_ne_zero, Nat.zero_lt_succ, Nat.le_refl, sc_rows, kc_lit, nc_lit, wlk_rows, uR_s, uR_uR, true_and, and_true, true_or, or_true, false_or, or_false, and_false, false_and, or_self, and_self, if_true, if_false, Bool.false_eq_true, Bool.or_false, Bool.or_true, Bool.false_or, Bool.true_or, not_true_eq_false, not_false_eq_true, forall_const, true_implies, false_implies, implies_true, reduceIte, reduceCtorEq, F1, lt, z15, Nat.reduceLeDiff]
  refine ⟨nok_of (by decide) ⟨by omega, by omega⟩ f2 (olds1 (old_ref (by omega))) (st1 (old_ref (by omega))), ?_⟩
  rw [newH_F f2 hk.2.2.1 hl.2.1]
  have f3 := (f2.new (by omega)).setQ (p := p) (r := p + 2) (j := 2) (by omega) (by omega)
  refine wk ((fn0_ok l)) ok_11 20 (fun pc => pc == 23) ?_
  simp only [fn0, kk_11, Option.toList_some, Option.toList_none, ex, catS, vC, isMk, sym, popN, goC, callOK, swL, List.map_cons, List.map_nil, List.replicate_zero, List.replicate_succ, List.append_nil, List.nil_append, List.cons_append, List.getElem?_cons_zero, List.getElem?_cons_succ, List.set_cons_zero, List.set_cons_succ, List.length_cons, List.length_nil, List.head?_cons, Nat.reduceAdd, Nat.reduceLT, Nat.reduceLeDiff, Nat.reduceBEq, Nat.reduceEqDiff, Nat.succ_ne_zero, Nat.zero_lt_succ, Nat.le_refl, sc_rows, kc_lit, nc_lit, wlk_rows, uR_s, uR_uR, true_and, and_true, true_or, or_true, false_or, or_false, and_false, false_and, or_self, and_self, if_true, if_false, Bool.false_eq_true, Bool.or_false, Bool.or_true, Bool.false_or, Bool.true_or, not_true_eq_false, not_false_eq_true, forall_const, true_implies, false_implies, implies_true, reduceIte, reduceCtorEq, F1, lt, hk, uR_s]
  refine wk ((fn0_ok l)) ok_11 0 (fun pc => false) ?_
  simp only [fn0, kk_11, Option.toList_some, Option.toList_none, ex, catS, vC, isMk, sym, popN, goC, callOK, swL, List.map_cons, List.map_nil, List.replicate_zero, List.replicate_succ, List.append_nil, List.nil_append, List.cons_append, List.getElem?_cons_zero, List.getElem?_cons_succ, List.set_cons_zero, List.set_cons_succ, List.length_cons, List.length_nil, List.head?_cons, Nat.reduceAdd, Nat.reduceLT, Nat.reduceLeDiff, Nat.reduceBEq, Nat.reduceEqDiff, Nat.succ_ne_zero, Nat.zero_lt_succ, Nat.le_refl, sc_rows, kc_lit, nc_lit, wlk_rows, uR_s, uR_uR, true_and, and_true, true_or, or_true, false_or, or_false, and_false, false_and, or_self, and_self, if_true, if_false, Bool.false_eq_true, Bool.or_false, Bool.or_true, Bool.false_or, Bool.true_or, not_true_eq_false, not_false_eq_true, forall_const, true_implies, false_implies, implies_true, reduceIte, reduceCtorEq, F1, lt, z15, Nat.reduceLeDiff]
  rw [uR_s, uR_uR] at f3
  refine ⟨nok_of (by decide) ⟨by omega, by omega⟩ f3 (olds1 (old_ref (by omega))) (st1 (old_ref (by omega))), ?_⟩
  rw [newH_F f3 hk.2.2.2 hl.2.2]
  have f4 := (f3.new (by omega)).setQ (p := p) (r := p + 3) (j := 3) (by omega) (by omega)
  rw [uR_s, uR_uR] at f4
  refine wk ((fn0_ok l)) ok_11 20 (fun pc => false) ?_
  simp only [fn0, kk_11, Option.toList_some, Option.toList_none, ex, catS, vC, isMk, sym, popN, goC, callOK, swL, List.map_cons, List.map_nil, List.replicate_zero, List.replicate_succ, List.append_nil, List.nil_append, List.cons_append, List.getElem?_cons_zero, List.getElem?_cons_succ, List.set_cons_zero, List.set_cons_succ, List.length_cons, List.length_nil, List.head?_cons, Nat.reduceAdd, Nat.reduceLT, Nat.reduceLeDiff, Nat.reduceBEq, Nat.reduceEqDiff, Nat.succ_ne_zero, Nat.zero_lt_succ, Nat.le_refl, sc_rows, kc_lit, nc_lit, wlk_rows, uR_s, uR_uR, true_and, and_true, true_or, or_true, false_or, or_false, and_false, false_and, or_self, and_self, if_true, if_false, Bool.false_eq_true, Bool.or_false, Bool.or_true, Bool.false_or, Bool.true_or, not_true_eq_false, not_false_eq_true, forall_const, true_implies, false_implies, implies_true, reduceIte, reduceCtorEq, F1, lt, hk, uR_s]
  refine h1 _ f4 ⟨?_, ?_, ?_⟩ (fun q hq => ?_)
  · rw [uR_s, vup_n _ _ (by omega), vup_n _ _ (by omega)]; simp [va_up]
  · rw [uR_s, vup_n _ _ (by omega)]; simp [va_up]
  · rw [uR_s]; simp [va_up]
  · repeat rw [uR_n _ _ hq]
end L1

