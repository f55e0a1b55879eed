/-! the text: digits and numbers, on both sides -/
/-- the text's characters; behind its end there is none -/
def chx (f : Nat → Int32) (ln : Nat) : Nat → Int32 := fun s => if s < ln then f s else 0
def isD (x : Int32) : Prop := 48 ≤ x ∧ x ≤ 57
def dgt (x : Int32) : Nat := ix x - 48
theorem isD_dgt {x : Int32} (h : 48 ≤ x ∧ x ≤ 57) : x = nI (48 + dgt x) ∧ dgt x ≤ 9 := by
  obtain ⟨j, hj, rfl⟩ := nI_of2 (M := 57) (n := 57) (x := x) rfl (fun q => absurd (i32_le_trans h.1 (Int32.le_of_lt q)) (by decide)) h.2
  have h48 : 48 ≤ j := by
    have := h.1
    rw [show (48 : Int32) = nI 48 from rfl, nI_leI (by omega) (by omega)] at this
    exact this
  unfold dgt
  rw [ix_nI (by omega)]
  exact ⟨by congr 1; omega, by omega⟩
/-- digits more, while the number is not too large; x: so far -/
def numN (c : Nat → Int32) (H : Nat) : Nat → Nat → Nat → Nat × Nat
  | 0, x, s => (x, s)
  | f + 1, x, s => if 0 < x ∧ (48 ≤ c s ∧ c s ≤ 57) ∧ 10 * x + dgt (c s) ≤ H then numN c H f (10 * x + dgt (c s)) (s + 1) else (x, s)
def num0 (c : Nat → Int32) (lo H s : Nat) : Option (Nat × Nat) := if (48 ≤ c s ∧ c s ≤ 57) ∧ lo ≤ dgt (c s) then some (numN c H 3 (dgt (c s)) (s + 1)) else none
theorem numN_s (c : Nat → Int32) (H : Nat) : ∀ f x s, s ≤ (numN c H f x s).2 ∧ ((numN c H f x s).1 ≤ H ∨ (numN c H f x s).1 = x) := by
  intro f
  induction f with
  | zero => intro x s; exact ⟨Nat.le_refl s, Or.inr rfl⟩
  | succ f ih =>
    intro x s
    simp only [numN]
    split
    · next g =>
      obtain ⟨a, b⟩ := ih (10 * x + dgt (c s)) (s + 1)
      exact ⟨by omega, b.elim Or.inl (fun q => Or.inl (by rw [q]; exact g.2.2))⟩
    · exact ⟨Nat.le_refl s, Or.inr rfl⟩
/-- three digits more never fit -/
theorem numN_3 (c : Nat → Int32) {H : Nat} (hH : H ≤ 999) : ∀ f x s, (f = 0 → 1000 ≤ 10 * x) → (f = 1 → 0 < x → 100 ≤ x) → (f = 2 → 0 < x → 10 ≤ x) → f ≤ 3 → 0 < f → ∀ v s', numN c H f x s = (v, s') → ¬ (0 < v ∧ (48 ≤ c s' ∧ c s' ≤ 57) ∧ 10 * v + dgt (c s') ≤ H) := by
  intro f
  induction f with
  | zero => intro x s _ _ _ _ h; omega
  | succ f ih =>
    intro x s h0 h1 h2 h3 _ v s' he
    simp only [numN] at he
    split at he
    · next g =>
      by_cases f0 : f = 0
      · subst f0
        have := h1 rfl g.1
        omega
      · exact ih (10 * x + dgt (c s)) (s + 1) (fun q => absurd q f0) (fun q _ => by have := h2 (by omega) g.1; omega) (fun q _ => by omega) (by omega) (by omega) v s' he
    · next g =>
      cases he
      exact g
theorem num0_s {c : Nat → Int32} {lo H s v s' : Nat} (h : num0 c lo H s = some (v, s')) : s < s' ∧ v ≤ max H 9 ∧ (48 ≤ c s ∧ c s ≤ 57) := by
  unfold num0 at h
  split at h
  · next g =>
    have := numN_s c H 3 (dgt (c s)) (s + 1)
    rw [Option.some.inj h] at this
    have d9 := (isD_dgt g.1).2
    exact ⟨by have := this.1; omega, by rcases this.2 with q | q <;> omega, g.1⟩
  · cases h
theorem num0_end {c : Nat → Int32} {lo H s v s' : Nat} (hH : H ≤ 999) (h : num0 c lo H s = some (v, s')) : ¬ (0 < v ∧ (48 ≤ c s' ∧ c s' ≤ 57) ∧ 10 * v + dgt (c s') ≤ H) := by
  unfold num0 at h
  split at h
  · exact numN_3 c hH 3 _ _ (fun q => by omega) (fun q => by omega) (fun q => by omega) (Nat.le_refl 3) (by omega) v s' (Option.some.inj h)
  · cases h
section H1
variable {l : Launch} {L : Nat} {I : Nat → Nat → Int32} {Q : Nat → Nat → Option Nat} {P : Option Value → PH → Prop} {ln s : Nat}
/-- the class's reader: its text, its place -/
def OC (I : Nat → Nat → Int32) (Q : Nat → Nat → Option Nat) (ln s : Nat) : Prop := I 144 5 = nI ln ∧ I 144 6 = nI s ∧ Q 144 4 = some 143 ∧ ln ≤ 60 ∧ s ≤ 100 ∧ ∀ j, vp_nar .char (I 143 j) = I 143 j
def at6 (I : Nat → Nat → Int32) (s : Nat) : Nat → Nat → Int32 := uR I 144 (upd (I 144) 6 (nI s))
theorem OC.at (h : OC I Q ln s) {s' : Nat} (hs : s' ≤ 100) : OC (at6 I s') Q ln s' := by
  obtain ⟨a, b, c, d, e, f⟩ := h
  unfold OC at6
  rw [uR_s, uR_n _ _ (by omega), upd_e, upd_n _ _ (by omega)]
  exact ⟨a, rfl, c, d, hs, f⟩
theorem at6_143 (I : Nat → Nat → Int32) (s : Nat) : at6 I s 143 = I 143 := uR_n _ _ (by omega)
theorem at6_at6 (I : Nat → Nat → Int32) (s s' : Nat) : at6 (at6 I s) s' = at6 I s' := by
  unfold at6
  rw [uR_s, uR_uR, upd_upd]
theorem at6_self (h : I 144 6 = nI s) : at6 I s = I := by
  unfold at6
  rw [← h, upd_id, uR_self]
theorem kO (L : Nat) : KC 144 = 1 ∧ KC 143 = 8 ∧ KC 145 = 8 ∧ KC 146 = 7 ∧ KC 147 = 7 ∧ NC L 143 = 60 ∧ NC L 145 = 20 ∧ NC L 146 = 20 ∧ NC L 147 = 20 := ⟨rfl, rfl, rfl, rfl, rfl, rfl, rfl, rfl, rfl⟩
theorem nar_of {x : Int32} (h : vp_nar .char x = x) : narrow .char (.int x) = .int x := by
  have : narrow .char (.int x) = .int (vp_nar .char x) := rfl
  rw [this, h]
set_option maxRecDepth 100000 in
theorem c_here (h : OC I Q ln s) (h1 : P (some (.int (chx (I 143) ln s))) (SC L, I, Q)) : Runs l 9 [.ref 144] (SC L, I, Q) P := by
  obtain ⟨a, b, c, d, e, f⟩ := h
  refine run0 (n := 0) mok_9 ⟨rfl, rfl⟩ rfl ?_
  have e60 : Int32.ofNat 60 = 60 := rfl
  have n0 : narrow .char (.int 0) = .int 0 := rfl
  unfold chx at h1
  by_cases g : s < ln
  · rw [if_pos g] at h1
    have e2 : ((60 : Int32) ≤ nI s) = False := by rw [show (60 : Int32) = nI 60 from rfl]; exact leF (by omega) (by omega)
    refine wk ((fn0_ok l)) ok_9 20 (fun pc => pc == 35) ?_
    simp only [fn0, kk_9, Option.toList_some, Option.toList_none, ex, catS, vC, isMk, sym, popN, goC, callOK, swL, List.map_cons, List.map_nil, List.replicate_zero, List.replicate_succ, List.append_nil, List.nil_append, List.cons_append, List.getElem?_cons_zero, List.getElem?_cons_succ, List.set_cons_zero, List.set_cons_succ, List.length_cons, List.length_nil, List.head?_cons, Nat.reduceAdd, Nat.reduceLT, Nat.reduceLeDiff, Nat.reduceBEq, Nat.reduceEqDiff, Nat.succ_ne_zero, Nat.zero_lt_succ, Nat.le_refl, sc_rows, kc_lit, nc_lit, wlk_rows, uR_s, uR_uR, true_and, and_true, true_or, or_true, false_or, or_false, and_false, false_and, or_self, and_self, if_true, if_false, Bool.false_eq_true, Bool.or_false, Bool.or_true, Bool.false_or, Bool.true_or, not_true_eq_false, not_false_eq_true, forall_const, true_implies, false_implies, implies_true, reduceIte, reduceCtorEq, kO L, a, b, c, e60, leF g (show ln < 2147483648 by omega), e2, ixp (show s < 60 by omega) (by omega)]
    exact ⟨nar_of (f s), h1⟩
  · rw [if_neg g] at h1
    refine wk ((fn0_ok l)) ok_9 20 (fun pc => pc == 11) ?_
    simp only [fn0, kk_9, Option.toList_some, Option.toList_none, ex, catS, vC, isMk, sym, popN, goC, callOK, swL, List.map_cons, List.map_nil, List.replicate_zero, List.replicate_succ, List.append_nil, List.nil_append, List.cons_append, List.getElem?_cons_zero, List.getElem?_cons_succ, List.set_cons_zero, List.set_cons_succ, List.length_cons, List.length_nil, List.head?_cons, Nat.reduceAdd, Nat.reduceLT, Nat.reduceLeDiff, Nat.reduceBEq, Nat.reduceEqDiff, Nat.succ_ne_zero, Nat.zero_lt_succ, Nat.le_refl, sc_rows, kc_lit, nc_lit, wlk_rows, uR_s, uR_uR, true_and, and_true, true_or, or_true, false_or, or_false, and_false, false_and, or_self, and_self, if_true, if_false, Bool.false_eq_true, Bool.or_false, Bool.or_true, Bool.false_or, Bool.true_or, not_true_eq_false, not_false_eq_true, forall_const, true_implies, false_implies, implies_true, reduceIte, reduceCtorEq, kO L, a, b, c, leT (show ln ≤ s by omega) (show s < 2147483648 by omega), n0]
    exact h1
set_option maxRecDepth 100000 in
theorem c_digit (h : OC I Q ln s) (h1 : P (some (.int (if 48 ≤ chx (I 143) ln s ∧ chx (I 143) ln s ≤ 57 then nI (dgt (chx (I 143) ln s)) else -1))) (SC L, I, Q)) : Runs l 8 [.ref 144] (SC L, I, Q) P := by
  refine run0 (n := 1) mok_8 ⟨rfl, rfl⟩ rfl ?_
  refine wk ((fn0_ok l)) ok_8 20 (fun pc => false) ?_
  simp only [fn0, kk_8, Option.toList_some, Option.toList_none, ex, catS, vC, isMk, sym, popN, goC, callOK, swL, List.map_cons, List.map_nil, List.replicate_zero, List.replicate_succ, List.append_nil, List.nil_append, List.cons_append, List.getElem?_cons_zero, List.getElem?_cons_succ, List.set_cons_zero, List.set_cons_succ, List.length_cons, List.length_nil, List.head?_cons, Nat.reduceAdd, Nat.reduceLT, Nat.reduceLeDiff, Nat.reduceBEq, Nat.reduceEqDiff, Nat.succ_ne_zero, Nat.zero_lt_succ, Nat.le_refl, sc_rows, kc_lit, nc_lit, wlk_rows, uR_s, uR_uR, true_and, and_true, true_or, or_true, false_or, or_false, and_false, false_and, or_self, and_self, if_true, if_false, Bool.false_eq_true, Bool.or_false, Bool.or_true, Bool.false_or, Bool.true_or, not_true_eq_false, not_false_eq_true, forall_const, true_implies, false_implies, implies_true, reduceIte, reduceCtorEq, kO L]
  refine c_here h ?_
  by_cases g : 48 ≤ chx (I 143) ln s ∧ chx (I 143) ln s ≤ 57
  · rw [if_pos g] at h1
    have e : chx (I 143) ln s - 48 = nI (dgt (chx (I 143) ln s)) := by
      have := (isD_dgt g).1
      generalize dgt (chx (I 143) ln s) = d at this ⊢
      rw [this, show (48 : Int32) = nI 48 from rfl, nI_sub (by omega)]
      congr 1
      omega
    refine wk ((fn0_ok l)) ok_8 20 (fun pc => pc == 24) ?_
    simp only [fn0, kk_8, Option.toList_some, Option.toList_none, ex, catS, vC, isMk, sym, popN, goC, callOK, swL, List.map_cons, List.map_nil, List.replicate_zero, List.replicate_succ, List.append_nil, List.nil_append, List.cons_append, List.getElem?_cons_zero, List.getElem?_cons_succ, List.set_cons_zero, List.set_cons_succ, List.length_cons, List.length_nil, List.head?_cons, Nat.reduceAdd, Nat.reduceLT, Nat.reduceLeDiff, Nat.reduceBEq, Nat.reduceEqDiff, Nat.succ_ne_zero, Nat.zero_lt_succ, Nat.le_refl, sc_rows, kc_lit, nc_lit, wlk_rows, uR_s, uR_uR, true_and, and_true, true_or, or_true, false_or, or_false, and_false, false_and, or_self, and_self, if_true, if_false, Bool.false_eq_true, Bool.or_false, Bool.or_true, Bool.false_or, Bool.true_or, not_true_eq_false, not_false_eq_true, forall_const, true_implies, false_implies, implies_true, reduceIte, reduceCtorEq, eq_false (Int32.not_lt.mpr g.1), eq_false (Int32.not_lt.mpr g.2), e, g.2]
    exact h1
  · rw [if_neg g] at h1
    by_cases g1 : chx (I 143) ln s < 48
    · refine wk ((fn0_ok l)) ok_8 20 (fun pc => pc == 11) ?_
      simp only [fn0, kk_8, Option.toList_some, Option.toList_none, ex, catS, vC, isMk, sym, popN, goC, callOK, swL, List.map_cons, List.map_nil, List.replicate_zero, List.replicate_succ, List.append_nil, List.nil_append, List.cons_append, List.getElem?_cons_zero, List.getElem?_cons_succ, List.set_cons_zero, List.set_cons_succ, List.length_cons, List.length_nil, List.head?_cons, Nat.reduceAdd, Nat.reduceLT, Nat.reduceLeDiff, Nat.reduceBEq, Nat.reduceEqDiff, Nat.succ_ne_zero, Nat.zero_lt_succ, Nat.le_refl, sc_rows, kc_lit, nc_lit, wlk_rows, uR_s, uR_uR, true_and, and_true, true_or, or_true, false_or, or_false, and_false, false_and, or_self, and_self, if_true, if_false, Bool.false_eq_true, Bool.or_false, Bool.or_true, Bool.false_or, Bool.true_or, not_true_eq_false, not_false_eq_true, forall_const, true_implies, false_implies, implies_true, reduceIte, reduceCtorEq, g1]
      exact h1
    · have g2 : 57 < chx (I 143) ln s := Int32.not_le.mp (fun q => g ⟨Int32.not_lt.mp g1, q⟩)
      refine wk ((fn0_ok l)) ok_8 20 (fun pc => pc == 17) ?_
      simp only [fn0, kk_8, Option.toList_some, Option.toList_none, ex, catS, vC, isMk, sym, popN, goC, callOK, swL, List.map_cons, List.map_nil, List.replicate_zero, List.replicate_succ, List.append_nil, List.nil_append, List.cons_append, List.getElem?_cons_zero, List.getElem?_cons_succ, List.set_cons_zero, List.set_cons_succ, List.length_cons, List.length_nil, List.head?_cons, Nat.reduceAdd, Nat.reduceLT, Nat.reduceLeDiff, Nat.reduceBEq, Nat.reduceEqDiff, Nat.succ_ne_zero, Nat.zero_lt_succ, Nat.le_refl, sc_rows, kc_lit, nc_lit, wlk_rows, uR_s, uR_uR, true_and, and_true, true_or, or_true, false_or, or_false, and_false, false_and, or_self, and_self, if_true, if_false, Bool.false_eq_true, Bool.or_false, Bool.or_true, Bool.false_or, Bool.true_or, not_true_eq_false, not_false_eq_true, forall_const, true_implies, false_implies, implies_true, reduceIte, reduceCtorEq, eq_false g1, g2]
      exact h1
set_option maxRecDepth 100000 in
theorem c_num (h : OC I Q ln s) (hs : s ≤ 90) {lo H : Nat} (hlo : lo ≤ 1) (hH : 9 ≤ H ∧ H ≤ 999) (h1 : num0 (chx (I 143) ln) lo H s = none → P (some (.int (-1))) (SC L, I, Q)) (h2 : ∀ v s', num0 (chx (I 143) ln) lo H s = some (v, s') → v ≤ 999 → P (some (.int (if 48 ≤ chx (I 143) ln s' ∧ chx (I 143) ln s' ≤ 57 then -1 else nI v))) (SC L, at6 I s', Q)) : Runs l 7 [.ref 144, .int (nI lo), .int (nI H)] (SC L, I, Q) P := by
  have loop : ∀ f i x s1 a5 a6, f + i = 4 → 0 < i → s1 ≤ 90 + i → x ≤ H → (f = 2 → 10 ≤ x) → (f = 1 → 100 ≤ x) → (f = 0 → 1000 ≤ x) → (∀ v s', numN (chx (I 143) ln) H f x s1 = (v, s') → v ≤ 999 → P (some (.int (if 48 ≤ chx (I 143) ln s' ∧ chx (I 143) ln s' ≤ 57 then -1 else nI v))) (SC L, at6 I s', Q)) → Sy l 7 (149, 1788) 30 [some (.ref 144), some (.int (nI lo)), some (.int (nI H)), some (.int (nI x)), some (.int (nI i)), a5, a6] [] (SC L, at6 I s1, Q) P := by
    intro f
    induction f with
    | zero => intro i x s1 a5 a6 hi hi0 hs1 hx g2 g1 g0; have := g0 rfl; omega
    | succ f ih =>
      intro i x s1 a5 a6 hi hi0 hs1 hx g2 g1 g0 hP
      have l1 : ((3 : Int32) < nI i) = False := by rw [show (3 : Int32) = nI 3 from rfl]; exact ltF (by omega) (by omega)
      have oc := h.at (s' := s1) (by omega)
      refine wk ((fn0_ok l)) ok_7 20 (fun pc => pc == 90) ?_
      simp only [fn0, kk_7, Option.toList_some, Option.toList_none, ex, catS, vC, isMk, sym, popN, goC, callOK, swL, List.map_cons, List.map_nil, List.replicate_zero, List.replicate_succ, List.append_nil, List.nil_append, List.cons_append, List.getElem?_cons_zero, List.getElem?_cons_succ, List.set_cons_zero, List.set_cons_succ, List.length_cons, List.length_nil, List.head?_cons, Nat.reduceAdd, Nat.reduceLT, Nat.reduceLeDiff, Nat.reduceBEq, Nat.reduceEqDiff, Nat.succ_ne_zero, Nat.zero_lt_succ, Nat.le_refl, sc_rows, kc_lit, nc_lit, wlk_rows, uR_s, uR_uR, true_and, and_true, true_or, or_true, false_or, or_false, and_false, false_and, or_self, and_self, if_true, if_false, Bool.false_eq_true, Bool.or_false, Bool.or_true, Bool.false_or, Bool.true_or, not_true_eq_false, not_false_eq_true, forall_const, true_implies, false_implies, implies_true, reduceIte, reduceCtorEq, kO L, l1]
      refine c_digit oc ?_
      rw [at6_143]
      simp only [numN] at hP
      by_cases gd : 48 ≤ chx (I 143) ln s1 ∧ chx (I 143) ln s1 ≤ 57
      · rw [if_pos gd]
        have d9 := (isD_dgt gd).2
        generalize hd : dgt (chx (I 143) ln s1) = d at d9 hP ⊢
        have nm1 : (nI d = -1) = False := eq_false (fun q => by have := nI_pos (n := d) (by omega); rw [q] at this; exact this (by decide))
        have el : (10 : Int32) * nI x + nI d = nI (10 * x + d) := by rw [show (10 : Int32) = nI 10 from rfl, pk_mul, nI_add]
        by_cases g : 0 < x ∧ 10 * x + d ≤ H
        · rw [if_pos ⟨g.1, gd, g.2⟩] at hP
          have x0 : (nI x = 0) = False := by rw [show (0 : Int32) = nI 0 from rfl]; exact eqF (by omega) (by omega) (by omega)
          have := ih (i + 1) (10 * x + d) (s1 + 1) (some (.int (nI d))) (some (.int (nI (10 * x + d)))) (by omega) (by omega) (by omega) g.2 (fun q => by omega) (fun q => by have := g2 (by omega); omega) (fun q => by have := g1 (by omega); omega) hP
          rw [← at6_at6 I s1] at this
          refine wk ((fn0_ok l)) ok_7 40 (fun pc => pc == 30 || pc == 48 || pc == 69) ?_
          simp only [fn0, kk_7, Option.toList_some, Option.toList_none, ex, catS, vC, isMk, sym, popN, goC, callOK, swL, List.map_cons, List.map_nil, List.replicate_zero, List.replicate_succ, List.append_nil, List.nil_append, List.cons_append, List.getElem?_cons_zero, List.getElem?_cons_succ, List.set_cons_zero, List.set_cons_succ, List.length_cons, List.length_nil, List.head?_cons, Nat.reduceAdd, Nat.reduceLT, Nat.reduceLeDiff, Nat.reduceBEq, Nat.reduceEqDiff, Nat.succ_ne_zero, Nat.zero_lt_succ, Nat.le_refl, sc_rows, kc_lit, nc_lit, wlk_rows, uR_s, uR_uR, true_and, and_true, true_or, or_true, false_or, or_false, and_false, false_and, or_self, and_self, if_true, if_false, Bool.false_eq_true, Bool.or_false, Bool.or_true, Bool.false_or, Bool.true_or, not_true_eq_false, not_false_eq_true, forall_const, true_implies, false_implies, implies_true, reduceIte, reduceCtorEq, kO L, nm1, el, x0, leT g.2 (show H < 2147483648 by omega), oc.2.1, nI_up]
          unfold at6 at this
          rw [uR_s] at this
          exact this
        · rw [if_neg (fun q => g ⟨q.1, q.2.2⟩)] at hP
          have h3 := hP x s1 rfl (by omega)
          rw [if_pos gd] at h3
          by_cases x0 : x = 0
          · subst x0
            refine wk ((fn0_ok l)) ok_7 40 (fun pc => pc == 48) ?_
            simp only [fn0, kk_7, Option.toList_some, Option.toList_none, ex, catS, vC, isMk, sym, popN, goC, callOK, swL, List.map_cons, List.map_nil, List.replicate_zero, List.replicate_succ, List.append_nil, List.nil_append, List.cons_append, List.getElem?_cons_zero, List.getElem?_cons_succ, List.set_cons_zero, List.set_cons_succ, List.length_cons, List.length_nil, List.head?_cons, Nat.reduceAdd, Nat.reduceLT, Nat.reduceLeDiff, Nat.reduceBEq, Nat.reduceEqDiff, Nat.succ_ne_zero, Nat.zero_lt_succ, Nat.le_refl, sc_rows, kc_lit, nc_lit, wlk_rows, uR_s, uR_uR, true_and, and_true, true_or, or_true, false_or, or_false, and_false, false_and, or_self, and_self, if_true, if_false, Bool.false_eq_true, Bool.or_false, Bool.or_true, Bool.false_or, Bool.true_or, not_true_eq_false, not_false_eq_true, forall_const, true_implies, false_implies, implies_true, reduceIte, reduceCtorEq, kO L, nm1, el, show nI 0 = (0 : Int32) from rfl]
            exact h3
          · have x1 : (nI x = 0) = False := by rw [show (0 : Int32) = nI 0 from rfl]; exact eqF x0 (by omega) (by omega)
            have lg : (nI (10 * x + d) ≤ nI H) = False := leF (by omega) (by omega)
            refine wk ((fn0_ok l)) ok_7 40 (fun pc => pc == 48 || pc == 71) ?_
            simp only [fn0, kk_7, Option.toList_some, Option.toList_none, ex, catS, vC, isMk, sym, popN, goC, callOK, swL, List.map_cons, List.map_nil, List.replicate_zero, List.replicate_succ, List.append_nil, List.nil_append, List.cons_append, List.getElem?_cons_zero, List.getElem?_cons_succ, List.set_cons_zero, List.set_cons_succ, List.length_cons, List.length_nil, List.head?_cons, Nat.reduceAdd, Nat.reduceLT, Nat.reduceLeDiff, Nat.reduceBEq, Nat.reduceEqDiff, Nat.succ_ne_zero, Nat.zero_lt_succ, Nat.le_refl, sc_rows, kc_lit, nc_lit, wlk_rows, uR_s, uR_uR, true_and, and_true, true_or, or_true, false_or, or_false, and_false, false_and, or_self, and_self, if_true, if_false, Bool.false_eq_true, Bool.or_false, Bool.or_true, Bool.false_or, Bool.true_or, not_true_eq_false, not_false_eq_true, forall_const, true_implies, false_implies, implies_true, reduceIte, reduceCtorEq, kO L, nm1, el, x1, lg]
            exact h3
      · rw [if_neg gd]
        rw [if_neg (fun q => gd q.2.1)] at hP
        have h3 := hP x s1 rfl (by omega)
        rw [if_neg gd] at h3
        refine wk ((fn0_ok l)) ok_7 40 (fun pc => pc == 50) ?_
        simp only [fn0, kk_7, Option.toList_some, Option.toList_none, ex, catS, vC, isMk, sym, popN, goC, callOK, swL, List.map_cons, List.map_nil, List.replicate_zero, List.replicate_succ, List.append_nil, List.nil_append, List.cons_append, List.getElem?_cons_zero, List.getElem?_cons_succ, List.set_cons_zero, List.set_cons_succ, List.length_cons, List.length_nil, List.head?_cons, Nat.reduceAdd, Nat.reduceLT, Nat.reduceLeDiff, Nat.reduceBEq, Nat.reduceEqDiff, Nat.succ_ne_zero, Nat.zero_lt_succ, Nat.le_refl, sc_rows, kc_lit, nc_lit, wlk_rows, uR_s, uR_uR, true_and, and_true, true_or, or_true, false_or, or_false, and_false, false_and, or_self, and_self, if_true, if_false, Bool.false_eq_true, Bool.or_false, Bool.or_true, Bool.false_or, Bool.true_or, not_true_eq_false, not_false_eq_true, forall_const, true_implies, false_implies, implies_true, reduceIte, reduceCtorEq, kO L]
        exact h3
  refine run0 (n := 4) mok_7 ⟨rfl, rfl⟩ rfl ?_
  refine wk ((fn0_ok l)) ok_7 20 (fun pc => false) ?_
  simp only [fn0, kk_7, Option.toList_some, Option.toList_none, ex, catS, vC, isMk, sym, popN, goC, callOK, swL, List.map_cons, List.map_nil, List.replicate_zero, List.replicate_succ, List.append_nil, List.nil_append, List.cons_append, List.getElem?_cons_zero, List.getElem?_cons_succ, List.set_cons_zero, List.set_cons_succ, List.length_cons, List.length_nil, List.head?_cons, Nat.reduceAdd, Nat.reduceLT, Nat.reduceLeDiff, Nat.reduceBEq, Nat.reduceEqDiff, Nat.succ_ne_zero, Nat.zero_lt_succ, Nat.le_refl, sc_rows, kc_lit, nc_lit, wlk_rows, uR_s, uR_uR, true_and, and_true, true_or, or_true, false_or, or_false, and_false, false_and, or_self, and_self, if_true, if_false, Bool.false_eq_true, Bool.or_false, Bool.or_true, Bool.false_or, Bool.true_or, not_true_eq_false, not_false_eq_true, forall_const, true_implies, false_implies, implies_true, reduceIte, reduceCtorEq, kO L]
  refine c_digit h ?_
  unfold num0 at h1 h2
  by_cases gd : 48 ≤ chx (I 143) ln s ∧ chx (I 143) ln s ≤ 57
  · rw [if_pos gd]
    have d9 := (isD_dgt gd).2
    generalize hd : dgt (chx (I 143) ln s) = d at d9 h1 h2 ⊢
    have nm1 : (nI d = -1) = False := eq_false (fun q => by have := nI_pos (n := d) (by omega); rw [q] at this; exact this (by decide))
    by_cases gl : lo ≤ d
    · rw [if_pos ⟨gd, gl⟩] at h2
      have := loop 3 1 d (s + 1) none none (by omega) (by omega) (by omega) (by omega) (fun q => by omega) (fun q => by omega) (fun q => by omega) (fun v s' e hv => h2 v s' (by rw [e]) hv)
      refine wk ((fn0_ok l)) ok_7 40 (fun pc => pc == 30 || pc == 15) ?_
      simp only [fn0, kk_7, Option.toList_some, Option.toList_none, ex, catS, vC, isMk, sym, popN, goC, callOK, swL, List.map_cons, List.map_nil, List.replicate_zero, List.replicate_succ, List.append_nil, List.nil_append, List.cons_append, List.getElem?_cons_zero, List.getElem?_cons_succ, List.set_cons_zero, List.set_cons_succ, List.length_cons, List.length_nil, List.head?_cons, Nat.reduceAdd, Nat.reduceLT, Nat.reduceLeDiff, Nat.reduceBEq, Nat.reduceEqDiff, Nat.succ_ne_zero, Nat.zero_lt_succ, Nat.le_refl, sc_rows, kc_lit, nc_lit, wlk_rows, uR_s, uR_uR, true_and, and_true, true_or, or_true, false_or, or_false, and_false, false_and, or_self, and_self, if_true, if_false, Bool.false_eq_true, Bool.or_false, Bool.or_true, Bool.false_or, Bool.true_or, not_true_eq_false, not_false_eq_true, forall_const, true_implies, false_implies, implies_true, reduceIte, reduceCtorEq, kO L, nm1, leT gl (show d < 2147483648 by omega), h.2.1, nI_up]
      exact this
    · rw [if_neg (fun q => gl q.2)] at h1
      refine wk ((fn0_ok l)) ok_7 40 (fun pc => pc == 17) ?_
      simp only [fn0, kk_7, Option.toList_some, Option.toList_none, ex, catS, vC, isMk, sym, popN, goC, callOK, swL, List.map_cons, List.map_nil, List.replicate_zero, List.replicate_succ, List.append_nil, List.nil_append, List.cons_append, List.getElem?_cons_zero, List.getElem?_cons_succ, List.set_cons_zero, List.set_cons_succ, List.length_cons, List.length_nil, List.head?_cons, Nat.reduceAdd, Nat.reduceLT, Nat.reduceLeDiff, Nat.reduceBEq, Nat.reduceEqDiff, Nat.succ_ne_zero, Nat.zero_lt_succ, Nat.le_refl, sc_rows, kc_lit, nc_lit, wlk_rows, uR_s, uR_uR, true_and, and_true, true_or, or_true, false_or, or_false, and_false, false_and, or_self, and_self, if_true, if_false, Bool.false_eq_true, Bool.or_false, Bool.or_true, Bool.false_or, Bool.true_or, not_true_eq_false, not_false_eq_true, forall_const, true_implies, false_implies, implies_true, reduceIte, reduceCtorEq, kO L, nm1, leF (show d < lo by omega) (show lo < 2147483648 by omega)]
      exact h1 rfl
  · rw [if_neg gd]
    rw [if_neg (fun q => gd q.1)] at h1
    refine wk ((fn0_ok l)) ok_7 40 (fun pc => pc == 10) ?_
    simp only [fn0, kk_7, Option.toList_some, Option.toList_none, ex, catS, vC, isMk, sym, popN, goC, callOK, swL, List.map_cons, List.map_nil, List.replicate_zero, List.replicate_succ, List.append_nil, List.nil_append, List.cons_append, List.getElem?_cons_zero, List.getElem?_cons_succ, List.set_cons_zero, List.set_cons_succ, List.length_cons, List.length_nil, List.head?_cons, Nat.reduceAdd, Nat.reduceLT, Nat.reduceLeDiff, Nat.reduceBEq, Nat.reduceEqDiff, Nat.succ_ne_zero, Nat.zero_lt_succ, Nat.le_refl, sc_rows, kc_lit, nc_lit, wlk_rows, uR_s, uR_uR, true_and, and_true, true_or, or_true, false_or, or_false, and_false, false_and, or_self, and_self, if_true, if_false, Bool.false_eq_true, Bool.or_false, Bool.or_true, Bool.false_or, Bool.true_or, not_true_eq_false, not_false_eq_true, forall_const, true_implies, false_implies, implies_true, reduceIte, reduceCtorEq, kO L]
    exact h1 rfl
end H1

