/-! the text: orders; the class reads -/
def ordN (c : Nat → Int32) (s : Nat) : Bool × Nat × Int32 × Nat × Nat :=
  if c s = 119 then match num0 c 0 20 (s + 1) with
    | none => (false, s + 1, 119, 0, 0)
    | some (v, s1) => (decide (v ≠ 10), s1, 119, v, 0)
  else if c s = 99 then match num0 c 0 20 (s + 1) with
    | none => (false, s + 1, 99, 0, 0)
    | some (v, s1) => if c s1 = 62 then match num0 c 0 20 (s1 + 1) with
        | none => (false, s1 + 1, 99, v, 0)
        | some (u, s2) => (decide (u ≠ v), s2, 99, v, u)
      else (false, s1, 99, v, 0)
  else if c s = 46 then match num0 c 1 999 (s + 1) with
    | none => (false, s + 1, 46, 0, 0)
    | some (v, s1) => (true, s1, 46, v, 0)
  else (false, s, 0, 0, 0)
theorem numN_u (c : Nat → Int32) (H : Nat) : ∀ f x s, (numN c H f x s).2 ≤ s + f := by
  intro f
  induction f with
  | zero => intro x s; exact Nat.le_refl s
  | succ f ih =>
    intro x s
    simp only [numN]
    split
    · have := ih (10 * x + dgt (c s)) (s + 1); omega
    · simp
theorem num0_u {c : Nat → Int32} {lo H s v s' : Nat} (h : num0 c lo H s = some (v, s')) : s' ≤ s + 4 := by
  unfold num0 at h
  split at h
  · have := numN_u c H 3 (dgt (c s)) (s + 1)
    rw [Option.some.inj h] at this
    dsimp only at this
    omega
  · cases h
theorem ordN_b (c : Nat → Int32) (s : Nat) : s ≤ (ordN c s).2.1 ∧ (ordN c s).2.1 ≤ s + 10 ∧ ((ordN c s).1 = true → s + 2 ≤ (ordN c s).2.1) := by
  unfold ordN
  split
  · cases h : num0 c 0 20 (s + 1) with
    | none => exact ⟨by simp, by simp, fun q => by cases q⟩
    | some r =>
      obtain ⟨v, s1⟩ := r
      have a := (num0_s h).1
      have b := num0_u h
      exact ⟨by simp; omega, by simp; omega, fun _ => by simp; omega⟩
  · split
    · cases h : num0 c 0 20 (s + 1) with
      | none => exact ⟨by simp, by simp, fun q => by cases q⟩
      | some r =>
        obtain ⟨v, s1⟩ := r
        have a := (num0_s h).1
        have b := num0_u h
        dsimp only
        split
        · cases h2 : num0 c 0 20 (s1 + 1) with
          | none => exact ⟨by simp; omega, by simp; omega, fun q => by cases q⟩
          | some r2 =>
            obtain ⟨u, s2⟩ := r2
            have a2 := (num0_s h2).1
            have b2' := num0_u h2
            exact ⟨by simp; omega, by simp; omega, fun _ => by simp; omega⟩
        · exact ⟨by simp; omega, by simp; omega, fun q => by cases q⟩
    · split
      · cases h : num0 c 1 999 (s + 1) with
        | none => exact ⟨by simp, by simp, fun q => by cases q⟩
        | some r =>
          obtain ⟨v, s1⟩ := r
          have a := (num0_s h).1
          have b := num0_u h
          exact ⟨by simp; omega, by simp; omega, fun _ => by simp; omega⟩
      · exact ⟨by simp, by simp, fun q => by cases q⟩
/-- what the class makes of it: a digit behind is no order -/
def okC (c : Nat → Int32) (s : Nat) : Bool := (ordN c s).1 && !decide (48 ≤ c (ordN c s).2.1 ∧ c (ordN c s).2.1 ≤ 57)
def NTE (I : Nat → Nat → Int32) (am : Nat) (sg fi se : Int32) : Nat → Nat → Int32 := uR (uR (uR (uR I 145 (upd (I 145) am sg)) 146 (upd (I 146) am fi)) 147 (upd (I 147) am se)) 144 (upd (I 144) 0 (nI (am + 1)))
section H2
variable {l : Launch} {L : Nat} {I : Nat → Nat → Int32} {Q : Nat → Nat → Option Nat} {P : Option Value → PH → Prop} {ln s : Nat}
def QO (Q : Nat → Nat → Option Nat) : Prop := Q 144 1 = some 145 ∧ Q 144 2 = some 146 ∧ Q 144 3 = some 147
set_option maxRecDepth 100000 in
theorem c_note (hQ : QO Q) {am : Nat} (ha : I 144 0 = nI am) (h20 : am < 20) {sg : Int32} (hsg : vp_nar .char sg = sg) (fi se : Int32) (h1 : P none (SC L, NTE I am sg fi se, Q)) : Runs l 10 [.ref 144, .int sg, .int fi, .int se] (SC L, I, Q) P := by
  refine run0 (n := 0) mok_10 ⟨rfl, rfl⟩ rfl ?_
  have e : (nI am < 20) = True := by rw [show (20 : Int32) = nI 20 from rfl]; exact ltT (by omega) (by omega)
  have u1 : ∀ (f : Nat → Nat → Int32) (g : Nat → Int32), uR f 145 g 144 = f 144 := fun f g => uR_n _ _ (by omega)
  have u2 : ∀ (f : Nat → Nat → Int32) (g : Nat → Int32), uR f 146 g 144 = f 144 := fun f g => uR_n _ _ (by omega)
  have u3 : ∀ (f : Nat → Nat → Int32) (g : Nat → Int32), uR f 147 g 144 = f 144 := fun f g => uR_n _ _ (by omega)
  have u4 : ∀ (f : Nat → Nat → Int32) (g : Nat → Int32), uR f 145 g 146 = f 146 := fun f g => uR_n _ _ (by omega)
  have u5 : ∀ (f : Nat → Nat → Int32) (g : Nat → Int32), uR f 145 g 147 = f 147 := fun f g => uR_n _ _ (by omega)
  have u6 : ∀ (f : Nat → Nat → Int32) (g : Nat → Int32), uR f 146 g 147 = f 147 := fun f g => uR_n _ _ (by omega)
  refine wk ((fn0_ok l)) ok_10 40 (fun pc => pc == 9) ?_
  simp only [fn0, kk_10, Option.toList_some, Option.toList_none, ex, catS, vC, isMk, sym, popN, goC, callOK, swL, List.map_cons, List.map_nil, List.replicate_zero, List.replicate_succ, List.append_nil, List.nil_append, List.cons_append, List.getElem?_cons_zero, List.getElem?_cons_succ, List.set_cons_zero, List.set_cons_succ, List.length_cons, List.length_nil, List.head?_cons, Nat.reduceAdd, Nat.reduceLT, Nat.reduceLeDiff, Nat.reduceBEq, Nat.reduceEqDiff, Nat.succ_ne_zero, Nat.zero_lt_succ, Nat.le_refl, sc_rows, kc_lit, nc_lit, wlk_rows, uR_s, uR_uR, true_and, and_true, true_or, or_true, false_or, or_false, and_false, false_and, or_self, and_self, if_true, if_false, Bool.false_eq_true, Bool.or_false, Bool.or_true, Bool.false_or, Bool.true_or, not_true_eq_false, not_false_eq_true, forall_const, true_implies, false_implies, implies_true, reduceIte, reduceCtorEq, kO L, ha, e, hQ.1, hQ.2.1, hQ.2.2, u1, u2, u3, u4, u5, u6, hsg, ixp h20 (show 20 < 2147483648 by omega), nI_up]
  exact h1
set_option maxRecDepth 100000 in
theorem c_order (h : OC I Q ln s) (hQ : QO Q) (hs : s ≤ 70) {am : Nat} (ha : I 144 0 = nI am) (h20 : am < 20) (h1 : okC (chx (I 143) ln) s = false → P (some (.int 0)) (SC L, at6 I (ordN (chx (I 143) ln) s).2.1, Q)) (h2 : okC (chx (I 143) ln) s = true → P (some (.int 1)) (SC L, NTE (at6 I (ordN (chx (I 143) ln) s).2.1) am (ordN (chx (I 143) ln) s).2.2.1 (nI (ordN (chx (I 143) ln) s).2.2.2.1) (if (ordN (chx (I 143) ln) s).2.2.1 = 99 then nI (ordN (chx (I 143) ln) s).2.2.2.2 else -1), Q)) : Runs l 6 [.ref 144] (SC L, I, Q) P := by
  generalize hc : chx (I 143) ln = c at h1 h2
  have fin0 : ∀ r, ordN c s = r → (r.1 && !decide (48 ≤ c r.2.1 ∧ c r.2.1 ≤ 57)) = false → P (some (.int 0)) (SC L, at6 I r.2.1, Q) := fun r e hr => by
    subst e
    exact h1 hr
  have fin1 : ∀ r, ordN c s = r → (r.1 && !decide (48 ≤ c r.2.1 ∧ c r.2.1 ≤ 57)) = true → P (some (.int 1)) (SC L, NTE (at6 I r.2.1) am r.2.2.1 (nI r.2.2.2.1) (if r.2.2.1 = 99 then nI r.2.2.2.2 else -1), Q) := fun r e hr => by
    subst e
    exact h2 hr
  have a0 : ∀ t, at6 I t 144 0 = nI am := fun t => by unfold at6; rw [uR_s, upd_n _ _ (by omega)]; exact ha
  have u6 : ∀ t, at6 I t 144 6 = nI t := fun t => by unfold at6; rw [uR_s, upd_e]
  have fold : uR I 144 (upd (I 144) 6 (nI (s + 1))) = at6 I (s + 1) := rfl
  have oc := h.at (s' := s + 1) (by omega)
  refine run0 (n := 4) mok_6 ⟨rfl, rfl⟩ rfl ?_
  refine wk ((fn0_ok l)) ok_6 5 (fun pc => false) ?_
  simp only [fn0, kk_6, Option.toList_some, Option.toList_none, ex, catS, vC, isMk, sym, popN, goC, callOK, swL, List.map_cons, List.map_nil, List.replicate_zero, List.replicate_succ, List.append_nil, List.nil_append, List.cons_append, List.getElem?_cons_zero, List.getElem?_cons_succ, List.set_cons_zero, List.set_cons_succ, List.length_cons, List.length_nil, List.head?_cons, Nat.reduceAdd, Nat.reduceLT, Nat.reduceLeDiff, Nat.reduceBEq, Nat.reduceEqDiff, Nat.succ_ne_zero, Nat.zero_lt_succ, Nat.le_refl, sc_rows, kc_lit, nc_lit, wlk_rows, uR_s, uR_uR, true_and, and_true, true_or, or_true, false_or, or_false, and_false, false_and, or_self, and_self, if_true, if_false, Bool.false_eq_true, Bool.or_false, Bool.or_true, Bool.false_or, Bool.true_or, not_true_eq_false, not_false_eq_true, forall_const, true_implies, false_implies, implies_true, reduceIte, reduceCtorEq, kO L]
  refine c_here h ?_
  rw [hc]
  by_cases w : c s = 119
  · rw [w]
    have eo : ordN c s = match num0 c 0 20 (s + 1) with
      | none => (false, s + 1, 119, 0, 0)
      | some (v, s1) => (decide (v ≠ 10), s1, 119, v, 0) := by unfold ordN; rw [if_pos w]
    refine wk ((fn0_ok l)) ok_6 20 (fun pc => pc == 11 || pc == 25) ?_
    simp only [fn0, kk_6, Option.toList_some, Option.toList_none, ex, catS, vC, isMk, sym, popN, goC, callOK, swL, List.map_cons, List.map_nil, List.replicate_zero, List.replicate_succ, List.append_nil, List.nil_append, List.cons_append, List.getElem?_cons_zero, List.getElem?_cons_succ, List.set_cons_zero, List.set_cons_succ, List.length_cons, List.length_nil, List.head?_cons, Nat.reduceAdd, Nat.reduceLT, Nat.reduceLeDiff, Nat.reduceBEq, Nat.reduceEqDiff, Nat.succ_ne_zero, Nat.zero_lt_succ, Nat.le_refl, sc_rows, kc_lit, nc_lit, wlk_rows, uR_s, uR_uR, true_and, and_true, true_or, or_true, false_or, or_false, and_false, false_and, or_self, and_self, if_true, if_false, Bool.false_eq_true, Bool.or_false, Bool.or_true, Bool.false_or, Bool.true_or, not_true_eq_false, not_false_eq_true, forall_const, true_implies, false_implies, implies_true, reduceIte, reduceCtorEq]
    refine wk ((fn0_ok l)) ok_6 40 (fun pc => pc == 41 || pc == 86) ?_
    simp only [fn0, kk_6, Option.toList_some, Option.toList_none, ex, catS, vC, isMk, sym, popN, goC, callOK, swL, List.map_cons, List.map_nil, List.replicate_zero, List.replicate_succ, List.append_nil, List.nil_append, List.cons_append, List.getElem?_cons_zero, List.getElem?_cons_succ, List.set_cons_zero, List.set_cons_succ, List.length_cons, List.length_nil, List.head?_cons, Nat.reduceAdd, Nat.reduceLT, Nat.reduceLeDiff, Nat.reduceBEq, Nat.reduceEqDiff, Nat.succ_ne_zero, Nat.zero_lt_succ, Nat.le_refl, sc_rows, kc_lit, nc_lit, wlk_rows, uR_s, uR_uR, true_and, and_true, true_or, or_true, false_or, or_false, and_false, false_and, or_self, and_self, if_true, if_false, Bool.false_eq_true, Bool.or_false, Bool.or_true, Bool.false_or, Bool.true_or, not_true_eq_false, not_false_eq_true, forall_const, true_implies, false_implies, implies_true, reduceIte, reduceCtorEq, kO L, h.2.1, nI_up, fold, show ((119 : Int32) = 46) = False by decide]
    refine c_num (lo := 0) (H := 20) oc (by omega) (by omega) (by omega) (fun hn => ?_) (fun v s' hn hv => ?_)
    · rw [at6_143, hc] at hn
      rw [hn] at eo
      refine wk ((fn0_ok l)) ok_6 20 (fun pc => pc == 86 || pc == 72) ?_
      simp only [fn0, kk_6, Option.toList_some, Option.toList_none, ex, catS, vC, isMk, sym, popN, goC, callOK, swL, List.map_cons, List.map_nil, List.replicate_zero, List.replicate_succ, List.append_nil, List.nil_append, List.cons_append, List.getElem?_cons_zero, List.getElem?_cons_succ, List.set_cons_zero, List.set_cons_succ, List.length_cons, List.length_nil, List.head?_cons, Nat.reduceAdd, Nat.reduceLT, Nat.reduceLeDiff, Nat.reduceBEq, Nat.reduceEqDiff, Nat.succ_ne_zero, Nat.zero_lt_succ, Nat.le_refl, sc_rows, kc_lit, nc_lit, wlk_rows, uR_s, uR_uR, true_and, and_true, true_or, or_true, false_or, or_false, and_false, false_and, or_self, and_self, if_true, if_false, Bool.false_eq_true, Bool.or_false, Bool.or_true, Bool.false_or, Bool.true_or, not_true_eq_false, not_false_eq_true, forall_const, true_implies, false_implies, implies_true, reduceIte, reduceCtorEq]
      exact fin0 _ eo rfl
    · rw [at6_143, hc] at hn
      rw [at6_143, hc, at6_at6]
      rw [hn] at eo
      dsimp only at eo
      have vn : (nI v = -1) = False := eq_false (fun q => by have := nI_pos (n := v) (by omega); rw [q] at this; exact this (by decide))
      by_cases gd : 48 ≤ c s' ∧ c s' ≤ 57
      · rw [if_pos gd]
        refine wk ((fn0_ok l)) ok_6 20 (fun pc => pc == 86 || pc == 72) ?_
        simp only [fn0, kk_6, Option.toList_some, Option.toList_none, ex, catS, vC, isMk, sym, popN, goC, callOK, swL, List.map_cons, List.map_nil, List.replicate_zero, List.replicate_succ, List.append_nil, List.nil_append, List.cons_append, List.getElem?_cons_zero, List.getElem?_cons_succ, List.set_cons_zero, List.set_cons_succ, List.length_cons, List.length_nil, List.head?_cons, Nat.reduceAdd, Nat.reduceLT, Nat.reduceLeDiff, Nat.reduceBEq, Nat.reduceEqDiff, Nat.succ_ne_zero, Nat.zero_lt_succ, Nat.le_refl, sc_rows, kc_lit, nc_lit, wlk_rows, uR_s, uR_uR, true_and, and_true, true_or, or_true, false_or, or_false, and_false, false_and, or_self, and_self, if_true, if_false, Bool.false_eq_true, Bool.or_false, Bool.or_true, Bool.false_or, Bool.true_or, not_true_eq_false, not_false_eq_true, forall_const, true_implies, false_implies, implies_true, reduceIte, reduceCtorEq]
        exact fin0 _ eo (by dsimp only; rw [decide_eq_true gd]; simp)
      · rw [if_neg gd]
        by_cases g10 : v = 10
        · subst g10
          refine wk ((fn0_ok l)) ok_6 20 (fun pc => pc == 86) ?_
          simp only [fn0, kk_6, Option.toList_some, Option.toList_none, ex, catS, vC, isMk, sym, popN, goC, callOK, swL, List.map_cons, List.map_nil, List.replicate_zero, List.replicate_succ, List.append_nil, List.nil_append, List.cons_append, List.getElem?_cons_zero, List.getElem?_cons_succ, List.set_cons_zero, List.set_cons_succ, List.length_cons, List.length_nil, List.head?_cons, Nat.reduceAdd, Nat.reduceLT, Nat.reduceLeDiff, Nat.reduceBEq, Nat.reduceEqDiff, Nat.succ_ne_zero, Nat.zero_lt_succ, Nat.le_refl, sc_rows, kc_lit, nc_lit, wlk_rows, uR_s, uR_uR, true_and, and_true, true_or, or_true, false_or, or_false, and_false, false_and, or_self, and_self, if_true, if_false, Bool.false_eq_true, Bool.or_false, Bool.or_true, Bool.false_or, Bool.true_or, not_true_eq_false, not_false_eq_true, forall_const, true_implies, false_implies, implies_true, reduceIte, reduceCtorEq, show (nI 10 = -1) = False by decide, show nI 10 = (10 : Int32) from rfl, show ((10 : Int32) = -1) = False by decide]
          exact fin0 _ eo (by dsimp only; simp)
        · have e10 : (nI v = 10) = False := by rw [show (10 : Int32) = nI 10 from rfl]; exact eqF g10 (by omega) (by omega)
          refine wk ((fn0_ok l)) ok_6 20 (fun pc => pc == 84 || pc == 95) ?_
          simp only [fn0, kk_6, Option.toList_some, Option.toList_none, ex, catS, vC, isMk, sym, popN, goC, callOK, swL, List.map_cons, List.map_nil, List.replicate_zero, List.replicate_succ, List.append_nil, List.nil_append, List.cons_append, List.getElem?_cons_zero, List.getElem?_cons_succ, List.set_cons_zero, List.set_cons_succ, List.length_cons, List.length_nil, List.head?_cons, Nat.reduceAdd, Nat.reduceLT, Nat.reduceLeDiff, Nat.reduceBEq, Nat.reduceEqDiff, Nat.succ_ne_zero, Nat.zero_lt_succ, Nat.le_refl, sc_rows, kc_lit, nc_lit, wlk_rows, uR_s, uR_uR, true_and, and_true, true_or, or_true, false_or, or_false, and_false, false_and, or_self, and_self, if_true, if_false, Bool.false_eq_true, Bool.or_false, Bool.or_true, Bool.false_or, Bool.true_or, not_true_eq_false, not_false_eq_true, forall_const, true_implies, false_implies, implies_true, reduceIte, reduceCtorEq, vn, e10, show ((119 : Int32) = 99) = False by decide]
          refine c_note hQ (a0 s') h20 (by decide) _ _ ?_
          refine wk ((fn0_ok l)) ok_6 20 (fun pc => false) ?_
          simp only [fn0, kk_6, Option.toList_some, Option.toList_none, ex, catS, vC, isMk, sym, popN, goC, callOK, swL, List.map_cons, List.map_nil, List.replicate_zero, List.replicate_succ, List.append_nil, List.nil_append, List.cons_append, List.getElem?_cons_zero, List.getElem?_cons_succ, List.set_cons_zero, List.set_cons_succ, List.length_cons, List.length_nil, List.head?_cons, Nat.reduceAdd, Nat.reduceLT, Nat.reduceLeDiff, Nat.reduceBEq, Nat.reduceEqDiff, Nat.succ_ne_zero, Nat.zero_lt_succ, Nat.le_refl, sc_rows, kc_lit, nc_lit, wlk_rows, uR_s, uR_uR, true_and, and_true, true_or, or_true, false_or, or_false, and_false, false_and, or_self, and_self, if_true, if_false, Bool.false_eq_true, Bool.or_false, Bool.or_true, Bool.false_or, Bool.true_or, not_true_eq_false, not_false_eq_true, forall_const, true_implies, false_implies, implies_true, reduceIte, reduceCtorEq]
          have := fin1 _ eo (by dsimp only; rw [decide_eq_false gd, decide_eq_true (show _ ≠ _ from g10)]; rfl)
          dsimp only at this
          rw [if_neg (by decide)] at this
          exact this
  · by_cases w2 : c s = 99
    · rw [w2]
      have eo : ordN c s = match num0 c 0 20 (s + 1) with
        | none => (false, s + 1, 99, 0, 0)
        | some (v, s1) => if c s1 = 62 then match num0 c 0 20 (s1 + 1) with
            | none => (false, s1 + 1, 99, v, 0)
            | some (u, s2) => (decide (u ≠ v), s2, 99, v, u)
          else (false, s1, 99, v, 0) := by unfold ordN; rw [if_neg w, if_pos w2]
      refine wk ((fn0_ok l)) ok_6 20 (fun pc => pc == 23 || pc == 25) ?_
      simp only [fn0, kk_6, Option.toList_some, Option.toList_none, ex, catS, vC, isMk, sym, popN, goC, callOK, swL, List.map_cons, List.map_nil, List.replicate_zero, List.replicate_succ, List.append_nil, List.nil_append, List.cons_append, List.getElem?_cons_zero, List.getElem?_cons_succ, List.set_cons_zero, List.set_cons_succ, List.length_cons, List.length_nil, List.head?_cons, Nat.reduceAdd, Nat.reduceLT, Nat.reduceLeDiff, Nat.reduceBEq, Nat.reduceEqDiff, Nat.succ_ne_zero, Nat.zero_lt_succ, Nat.le_refl, sc_rows, kc_lit, nc_lit, wlk_rows, uR_s, uR_uR, true_and, and_true, true_or, or_true, false_or, or_false, and_false, false_and, or_self, and_self, if_true, if_false, Bool.false_eq_true, Bool.or_false, Bool.or_true, Bool.false_or, Bool.true_or, not_true_eq_false, not_false_eq_true, forall_const, true_implies, false_implies, implies_true, reduceIte, reduceCtorEq, show ((99 : Int32) = 119) = False by decide]
      refine wk ((fn0_ok l)) ok_6 40 (fun pc => pc == 41 || pc == 86) ?_
      simp only [fn0, kk_6, Option.toList_some, Option.toList_none, ex, catS, vC, isMk, sym, popN, goC, callOK, swL, List.map_cons, List.map_nil, List.replicate_zero, List.replicate_succ, List.append_nil, List.nil_append, List.cons_append, List.getElem?_cons_zero, List.getElem?_cons_succ, List.set_cons_zero, List.set_cons_succ, List.length_cons, List.length_nil, List.head?_cons, Nat.reduceAdd, Nat.reduceLT, Nat.reduceLeDiff, Nat.reduceBEq, Nat.reduceEqDiff, Nat.succ_ne_zero, Nat.zero_lt_succ, Nat.le_refl, sc_rows, kc_lit, nc_lit, wlk_rows, uR_s, uR_uR, true_and, and_true, true_or, or_true, false_or, or_false, and_false, false_and, or_self, and_self, if_true, if_false, Bool.false_eq_true, Bool.or_false, Bool.or_true, Bool.false_or, Bool.true_or, not_true_eq_false, not_false_eq_true, forall_const, true_implies, false_implies, implies_true, reduceIte, reduceCtorEq, kO L, h.2.1, nI_up, fold, show ((99 : Int32) = 46) = False by decide]
      refine c_num (lo := 0) (H := 20) oc (by omega) (by omega) (by omega) (fun hn => ?_) (fun v s' hn hv => ?_)
      · rw [at6_143, hc] at hn
        rw [hn] at eo
        refine wk ((fn0_ok l)) ok_6 20 (fun pc => pc == 86 || pc == 72) ?_
        simp only [fn0, kk_6, Option.toList_some, Option.toList_none, ex, catS, vC, isMk, sym, popN, goC, callOK, swL, List.map_cons, List.map_nil, List.replicate_zero, List.replicate_succ, List.append_nil, List.nil_append, List.cons_append, List.getElem?_cons_zero, List.getElem?_cons_succ, List.set_cons_zero, List.set_cons_succ, List.length_cons, List.length_nil, List.head?_cons, Nat.reduceAdd, Nat.reduceLT, Nat.reduceLeDiff, Nat.reduceBEq, Nat.reduceEqDiff, Nat.succ_ne_zero, Nat.zero_lt_succ, Nat.le_refl, sc_rows, kc_lit, nc_lit, wlk_rows, uR_s, uR_uR, true_and, and_true, true_or, or_true, false_or, or_false, and_false, false_and, or_self, and_self, if_true, if_false, Bool.false_eq_true, Bool.or_false, Bool.or_true, Bool.false_or, Bool.true_or, not_true_eq_false, not_false_eq_true, forall_const, true_implies, false_implies, implies_true, reduceIte, reduceCtorEq]
        exact fin0 _ eo rfl
      · rw [at6_143, hc] at hn
        rw [at6_143, hc, at6_at6]
        rw [hn] at eo
        dsimp only at eo
        have vn : (nI v = -1) = False := eq_false (fun q => by have := nI_pos (n := v) (by omega); rw [q] at this; exact this (by decide))
        have su := num0_u hn
        have oc1 := h.at (s' := s') (by omega)
        by_cases gd : 48 ≤ c s' ∧ c s' ≤ 57
        · have n62 : ¬ c s' = 62 := fun q => by rw [q] at gd; exact absurd gd.2 (by decide)
          rw [if_neg n62] at eo
          rw [if_pos gd]
          refine wk ((fn0_ok l)) ok_6 20 (fun pc => pc == 86 || pc == 72) ?_
          simp only [fn0, kk_6, Option.toList_some, Option.toList_none, ex, catS, vC, isMk, sym, popN, goC, callOK, swL, List.map_cons, List.map_nil, List.replicate_zero, List.replicate_succ, List.append_nil, List.nil_append, List.cons_append, List.getElem?_cons_zero, List.getElem?_cons_succ, List.set_cons_zero, List.set_cons_succ, List.length_cons, List.length_nil, List.head?_cons, Nat.reduceAdd, Nat.reduceLT, Nat.reduceLeDiff, Nat.reduceBEq, Nat.reduceEqDiff, Nat.succ_ne_zero, Nat.zero_lt_succ, Nat.le_refl, sc_rows, kc_lit, nc_lit, wlk_rows, uR_s, uR_uR, true_and, and_true, true_or, or_true, false_or, or_false, and_false, false_and, or_self, and_self, if_true, if_false, Bool.false_eq_true, Bool.or_false, Bool.or_true, Bool.false_or, Bool.true_or, not_true_eq_false, not_false_eq_true, forall_const, true_implies, false_implies, implies_true, reduceIte, reduceCtorEq]
          exact fin0 _ eo rfl
        · rw [if_neg gd]
          refine wk ((fn0_ok l)) ok_6 20 (fun pc => pc == 84 || pc == 78 || pc == 139) ?_
          simp only [fn0, kk_6, Option.toList_some, Option.toList_none, ex, catS, vC, isMk, sym, popN, goC, callOK, swL, List.map_cons, List.map_nil, List.replicate_zero, List.replicate_succ, List.append_nil, List.nil_append, List.cons_append, List.getElem?_cons_zero, List.getElem?_cons_succ, List.set_cons_zero, List.set_cons_succ, List.length_cons, List.length_nil, List.head?_cons, Nat.reduceAdd, Nat.reduceLT, Nat.reduceLeDiff, Nat.reduceBEq, Nat.reduceEqDiff, Nat.succ_ne_zero, Nat.zero_lt_succ, Nat.le_refl, sc_rows, kc_lit, nc_lit, wlk_rows, uR_s, uR_uR, true_and, and_true, true_or, or_true, false_or, or_false, and_false, false_and, or_self, and_self, if_true, if_false, Bool.false_eq_true, Bool.or_false, Bool.or_true, Bool.false_or, Bool.true_or, not_true_eq_false, not_false_eq_true, forall_const, true_implies, false_implies, implies_true, reduceIte, reduceCtorEq, vn, show ((99 : Int32) = 119) = False by decide]
          refine c_here oc1 ?_
          rw [at6_143, hc]
          by_cases g62 : c s' = 62
          · rw [if_pos g62] at eo
            have oc2 := h.at (s' := s' + 1) (by omega)
            have fold2 : uR (at6 I s') 144 (upd (at6 I s' 144) 6 (nI (s' + 1))) = at6 I (s' + 1) := at6_at6 I s' (s' + 1)
            refine wk ((fn0_ok l)) ok_6 20 (fun pc => pc == 104) ?_
            simp only [fn0, kk_6, Option.toList_some, Option.toList_none, ex, catS, vC, isMk, sym, popN, goC, callOK, swL, List.map_cons, List.map_nil, List.replicate_zero, List.replicate_succ, List.append_nil, List.nil_append, List.cons_append, List.getElem?_cons_zero, List.getElem?_cons_succ, List.set_cons_zero, List.set_cons_succ, List.length_cons, List.length_nil, List.head?_cons, Nat.reduceAdd, Nat.reduceLT, Nat.reduceLeDiff, Nat.reduceBEq, Nat.reduceEqDiff, Nat.succ_ne_zero, Nat.zero_lt_succ, Nat.le_refl, sc_rows, kc_lit, nc_lit, wlk_rows, uR_s, uR_uR, true_and, and_true, true_or, or_true, false_or, or_false, and_false, false_and, or_self, and_self, if_true, if_false, Bool.false_eq_true, Bool.or_false, Bool.or_true, Bool.false_or, Bool.true_or, not_true_eq_false, not_false_eq_true, forall_const, true_implies, false_implies, implies_true, reduceIte, reduceCtorEq, kO L, g62, u6, nI_up, fold2]
            refine c_num (lo := 0) (H := 20) oc2 (by omega) (by omega) (by omega) (fun hn2 => ?_) (fun u s2 hn2 hu => ?_)
            · rw [at6_143, hc] at hn2
              rw [hn2] at eo
              refine wk ((fn0_ok l)) ok_6 20 (fun pc => pc == 139 || pc == 131) ?_
              simp only [fn0, kk_6, Option.toList_some, Option.toList_none, ex, catS, vC, isMk, sym, popN, goC, callOK, swL, List.map_cons, List.map_nil, List.replicate_zero, List.replicate_succ, List.append_nil, List.nil_append, List.cons_append, List.getElem?_cons_zero, List.getElem?_cons_succ, List.set_cons_zero, List.set_cons_succ, List.length_cons, List.length_nil, List.head?_cons, Nat.reduceAdd, Nat.reduceLT, Nat.reduceLeDiff, Nat.reduceBEq, Nat.reduceEqDiff, Nat.succ_ne_zero, Nat.zero_lt_succ, Nat.le_refl, sc_rows, kc_lit, nc_lit, wlk_rows, uR_s, uR_uR, true_and, and_true, true_or, or_true, false_or, or_false, and_false, false_and, or_self, and_self, if_true, if_false, Bool.false_eq_true, Bool.or_false, Bool.or_true, Bool.false_or, Bool.true_or, not_true_eq_false, not_false_eq_true, forall_const, true_implies, false_implies, implies_true, reduceIte, reduceCtorEq]
              exact fin0 _ eo rfl
            · rw [at6_143, hc] at hn2
              rw [at6_143, hc, at6_at6]
              rw [hn2] at eo
              dsimp only at eo
              have un : (nI u = -1) = False := eq_false (fun q => by have := nI_pos (n := u) (by omega); rw [q] at this; exact this (by decide))
              by_cases gd2 : 48 ≤ c s2 ∧ c s2 ≤ 57
              · rw [if_pos gd2]
                refine wk ((fn0_ok l)) ok_6 20 (fun pc => pc == 139 || pc == 131) ?_
                simp only [fn0, kk_6, Option.toList_some, Option.toList_none, ex, catS, vC, isMk, sym, popN, goC, callOK, swL, List.map_cons, List.map_nil, List.replicate_zero, List.replicate_succ, List.append_nil, List.nil_append, List.cons_append, List.getElem?_cons_zero, List.getElem?_cons_succ, List.set_cons_zero, List.set_cons_succ, List.length_cons, List.length_nil, List.head?_cons, Nat.reduceAdd, Nat.reduceLT, Nat.reduceLeDiff, Nat.reduceBEq, Nat.reduceEqDiff, Nat.succ_ne_zero, Nat.zero_lt_succ, Nat.le_refl, sc_rows, kc_lit, nc_lit, wlk_rows, uR_s, uR_uR, true_and, and_true, true_or, or_true, false_or, or_false, and_false, false_and, or_self, and_self, if_true, if_false, Bool.false_eq_true, Bool.or_false, Bool.or_true, Bool.false_or, Bool.true_or, not_true_eq_false, not_false_eq_true, forall_const, true_implies, false_implies, implies_true, reduceIte, reduceCtorEq]
                exact fin0 _ eo (by dsimp only; rw [decide_eq_true gd2]; simp)
              · rw [if_neg gd2]
                by_cases guv : u = v
                · subst guv
                  refine wk ((fn0_ok l)) ok_6 20 (fun pc => pc == 139) ?_
                  simp only [fn0, kk_6, Option.toList_some, Option.toList_none, ex, catS, vC, isMk, sym, popN, goC, callOK, swL, List.map_cons, List.map_nil, List.replicate_zero, List.replicate_succ, List.append_nil, List.nil_append, List.cons_append, List.getElem?_cons_zero, List.getElem?_cons_succ, List.set_cons_zero, List.set_cons_succ, List.length_cons, List.length_nil, List.head?_cons, Nat.reduceAdd, Nat.reduceLT, Nat.reduceLeDiff, Nat.reduceBEq, Nat.reduceEqDiff, Nat.succ_ne_zero, Nat.zero_lt_succ, Nat.le_refl, sc_rows, kc_lit, nc_lit, wlk_rows, uR_s, uR_uR, true_and, and_true, true_or, or_true, false_or, or_false, and_false, false_and, or_self, and_self, if_true, if_false, Bool.false_eq_true, Bool.or_false, Bool.or_true, Bool.false_or, Bool.true_or, not_true_eq_false, not_false_eq_true, forall_const, true_implies, false_implies, implies_true, reduceIte, reduceCtorEq, un]
                  exact fin0 _ eo (by dsimp only; simp)
                · have e2 : (nI u = nI v) = False := eqF guv (by omega) (by omega)
                  refine wk ((fn0_ok l)) ok_6 20 (fun pc => pc == 137) ?_
                  simp only [fn0, kk_6, Option.toList_some, Option.toList_none, ex, catS, vC, isMk, sym, popN, goC, callOK, swL, List.map_cons, List.map_nil, List.replicate_zero, List.replicate_succ, List.append_nil, List.nil_append, List.cons_append, List.getElem?_cons_zero, List.getElem?_cons_succ, List.set_cons_zero, List.set_cons_succ, List.length_cons, List.length_nil, List.head?_cons, Nat.reduceAdd, Nat.reduceLT, Nat.reduceLeDiff, Nat.reduceBEq, Nat.reduceEqDiff, Nat.succ_ne_zero, Nat.zero_lt_succ, Nat.le_refl, sc_rows, kc_lit, nc_lit, wlk_rows, uR_s, uR_uR, true_and, and_true, true_or, or_true, false_or, or_false, and_false, false_and, or_self, and_self, if_true, if_false, Bool.false_eq_true, Bool.or_false, Bool.or_true, Bool.false_or, Bool.true_or, not_true_eq_false, not_false_eq_true, forall_const, true_implies, false_implies, implies_true, reduceIte, reduceCtorEq, un, e2]
                  refine c_note hQ (a0 s2) h20 (by decide) _ _ ?_
                  refine wk ((fn0_ok l)) ok_6 20 (fun pc => false) ?_
                  simp only [fn0, kk_6, Option.toList_some, Option.toList_none, ex, catS, vC, isMk, sym, popN, goC, callOK, swL, List.map_cons, List.map_nil, List.replicate_zero, List.replicate_succ, List.append_nil, List.nil_append, List.cons_append, List.getElem?_cons_zero, List.getElem?_cons_succ, List.set_cons_zero, List.set_cons_succ, List.length_cons, List.length_nil, List.head?_cons, Nat.reduceAdd, Nat.reduceLT, Nat.reduceLeDiff, Nat.reduceBEq, Nat.reduceEqDiff, Nat.succ_ne_zero, Nat.zero_lt_succ, Nat.le_refl, sc_rows, kc_lit, nc_lit, wlk_rows, uR_s, uR_uR, true_and, and_true, true_or, or_true, false_or, or_false, and_false, false_and, or_self, and_self, if_true, if_false, Bool.false_eq_true, Bool.or_false, Bool.or_true, Bool.false_or, Bool.true_or, not_true_eq_false, not_false_eq_true, forall_const, true_implies, false_implies, implies_true, reduceIte, reduceCtorEq]
                  have := fin1 _ eo (by dsimp only; rw [decide_eq_false gd2, decide_eq_true (show _ ≠ _ from guv)]; rfl)
                  rw [if_pos rfl] at this
                  exact this
          · rw [if_neg g62] at eo
            refine wk ((fn0_ok l)) ok_6 20 (fun pc => pc == 106) ?_
            simp only [fn0, kk_6, Option.toList_some, Option.toList_none, ex, catS, vC, isMk, sym, popN, goC, callOK, swL, List.map_cons, List.map_nil, List.replicate_zero, List.replicate_succ, List.append_nil, List.nil_append, List.cons_append, List.getElem?_cons_zero, List.getElem?_cons_succ, List.set_cons_zero, List.set_cons_succ, List.length_cons, List.length_nil, List.head?_cons, Nat.reduceAdd, Nat.reduceLT, Nat.reduceLeDiff, Nat.reduceBEq, Nat.reduceEqDiff, Nat.succ_ne_zero, Nat.zero_lt_succ, Nat.le_refl, sc_rows, kc_lit, nc_lit, wlk_rows, uR_s, uR_uR, true_and, and_true, true_or, or_true, false_or, or_false, and_false, false_and, or_self, and_self, if_true, if_false, Bool.false_eq_true, Bool.or_false, Bool.or_true, Bool.false_or, Bool.true_or, not_true_eq_false, not_false_eq_true, forall_const, true_implies, false_implies, implies_true, reduceIte, reduceCtorEq, eq_false g62]
            exact fin0 _ eo rfl
    · by_cases w3 : c s = 46
      · rw [w3]
        have eo : ordN c s = match num0 c 1 999 (s + 1) with
          | none => (false, s + 1, 46, 0, 0)
          | some (v, s1) => (true, s1, 46, v, 0) := by unfold ordN; rw [if_neg w, if_neg w2, if_pos w3]
        refine wk ((fn0_ok l)) ok_6 20 (fun pc => pc == 23 || pc == 25) ?_
        simp only [fn0, kk_6, Option.toList_some, Option.toList_none, ex, catS, vC, isMk, sym, popN, goC, callOK, swL, List.map_cons, List.map_nil, List.replicate_zero, List.replicate_succ, List.append_nil, List.nil_append, List.cons_append, List.getElem?_cons_zero, List.getElem?_cons_succ, List.set_cons_zero, List.set_cons_succ, List.length_cons, List.length_nil, List.head?_cons, Nat.reduceAdd, Nat.reduceLT, Nat.reduceLeDiff, Nat.reduceBEq, Nat.reduceEqDiff, Nat.succ_ne_zero, Nat.zero_lt_succ, Nat.le_refl, sc_rows, kc_lit, nc_lit, wlk_rows, uR_s, uR_uR, true_and, and_true, true_or, or_true, false_or, or_false, and_false, false_and, or_self, and_self, if_true, if_false, Bool.false_eq_true, Bool.or_false, Bool.or_true, Bool.false_or, Bool.true_or, not_true_eq_false, not_false_eq_true, forall_const, true_implies, false_implies, implies_true, reduceIte, reduceCtorEq, show ((46 : Int32) = 119) = False by decide, show ((46 : Int32) = 99) = False by decide]
        refine wk ((fn0_ok l)) ok_6 40 (fun pc => pc == 45 || pc == 61 || pc == 86) ?_
        simp only [fn0, kk_6, Option.toList_some, Option.toList_none, ex, catS, vC, isMk, sym, popN, goC, callOK, swL, List.map_cons, List.map_nil, List.replicate_zero, List.replicate_succ, List.append_nil, List.nil_append, List.cons_append, List.getElem?_cons_zero, List.getElem?_cons_succ, List.set_cons_zero, List.set_cons_succ, List.length_cons, List.length_nil, List.head?_cons, Nat.reduceAdd, Nat.reduceLT, Nat.reduceLeDiff, Nat.reduceBEq, Nat.reduceEqDiff, Nat.succ_ne_zero, Nat.zero_lt_succ, Nat.le_refl, sc_rows, kc_lit, nc_lit, wlk_rows, uR_s, uR_uR, true_and, and_true, true_or, or_true, false_or, or_false, and_false, false_and, or_self, and_self, if_true, if_false, Bool.false_eq_true, Bool.or_false, Bool.or_true, Bool.false_or, Bool.true_or, not_true_eq_false, not_false_eq_true, forall_const, true_implies, false_implies, implies_true, reduceIte, reduceCtorEq, kO L, h.2.1, nI_up, fold]
        refine c_num (lo := 1) (H := 999) oc (by omega) (by omega) (by omega) (fun hn => ?_) (fun v s' hn hv => ?_)
        · rw [at6_143, hc] at hn
          rw [hn] at eo
          refine wk ((fn0_ok l)) ok_6 20 (fun pc => pc == 86 || pc == 72) ?_
          simp only [fn0, kk_6, Option.toList_some, Option.toList_none, ex, catS, vC, isMk, sym, popN, goC, callOK, swL, List.map_cons, List.map_nil, List.replicate_zero, List.replicate_succ, List.append_nil, List.nil_append, List.cons_append, List.getElem?_cons_zero, List.getElem?_cons_succ, List.set_cons_zero, List.set_cons_succ, List.length_cons, List.length_nil, List.head?_cons, Nat.reduceAdd, Nat.reduceLT, Nat.reduceLeDiff, Nat.reduceBEq, Nat.reduceEqDiff, Nat.succ_ne_zero, Nat.zero_lt_succ, Nat.le_refl, sc_rows, kc_lit, nc_lit, wlk_rows, uR_s, uR_uR, true_and, and_true, true_or, or_true, false_or, or_false, and_false, false_and, or_self, and_self, if_true, if_false, Bool.false_eq_true, Bool.or_false, Bool.or_true, Bool.false_or, Bool.true_or, not_true_eq_false, not_false_eq_true, forall_const, true_implies, false_implies, implies_true, reduceIte, reduceCtorEq]
          exact fin0 _ eo rfl
        · rw [at6_143, hc] at hn
          rw [at6_143, hc, at6_at6]
          rw [hn] at eo
          dsimp only at eo
          have vn : (nI v = -1) = False := eq_false (fun q => by have := nI_pos (n := v) (by omega); rw [q] at this; exact this (by decide))
          by_cases gd : 48 ≤ c s' ∧ c s' ≤ 57
          · rw [if_pos gd]
            refine wk ((fn0_ok l)) ok_6 20 (fun pc => pc == 86 || pc == 72) ?_
            simp only [fn0, kk_6, Option.toList_some, Option.toList_none, ex, catS, vC, isMk, sym, popN, goC, callOK, swL, List.map_cons, List.map_nil, List.replicate_zero, List.replicate_succ, List.append_nil, List.nil_append, List.cons_append, List.getElem?_cons_zero, List.getElem?_cons_succ, List.set_cons_zero, List.set_cons_succ, List.length_cons, List.length_nil, List.head?_cons, Nat.reduceAdd, Nat.reduceLT, Nat.reduceLeDiff, Nat.reduceBEq, Nat.reduceEqDiff, Nat.succ_ne_zero, Nat.zero_lt_succ, Nat.le_refl, sc_rows, kc_lit, nc_lit, wlk_rows, uR_s, uR_uR, true_and, and_true, true_or, or_true, false_or, or_false, and_false, false_and, or_self, and_self, if_true, if_false, Bool.false_eq_true, Bool.or_false, Bool.or_true, Bool.false_or, Bool.true_or, not_true_eq_false, not_false_eq_true, forall_const, true_implies, false_implies, implies_true, reduceIte, reduceCtorEq]
            exact fin0 _ eo (by dsimp only; rw [decide_eq_true gd]; simp)
          · rw [if_neg gd]
            refine wk ((fn0_ok l)) ok_6 20 (fun pc => pc == 84 || pc == 78 || pc == 95) ?_
            simp only [fn0, kk_6, Option.toList_some, Option.toList_none, ex, catS, vC, isMk, sym, popN, goC, callOK, swL, List.map_cons, List.map_nil, List.replicate_zero, List.replicate_succ, List.append_nil, List.nil_append, List.cons_append, List.getElem?_cons_zero, List.getElem?_cons_succ, List.set_cons_zero, List.set_cons_succ, List.length_cons, List.length_nil, List.head?_cons, Nat.reduceAdd, Nat.reduceLT, Nat.reduceLeDiff, Nat.reduceBEq, Nat.reduceEqDiff, Nat.succ_ne_zero, Nat.zero_lt_succ, Nat.le_refl, sc_rows, kc_lit, nc_lit, wlk_rows, uR_s, uR_uR, true_and, and_true, true_or, or_true, false_or, or_false, and_false, false_and, or_self, and_self, if_true, if_false, Bool.false_eq_true, Bool.or_false, Bool.or_true, Bool.false_or, Bool.true_or, not_true_eq_false, not_false_eq_true, forall_const, true_implies, false_implies, implies_true, reduceIte, reduceCtorEq, vn, show ((46 : Int32) = 119) = False by decide, show ((46 : Int32) = 99) = False by decide]
            refine c_note hQ (a0 s') h20 (by decide) _ _ ?_
            refine wk ((fn0_ok l)) ok_6 20 (fun pc => false) ?_
            simp only [fn0, kk_6, Option.toList_some, Option.toList_none, ex, catS, vC, isMk, sym, popN, goC, callOK, swL, List.map_cons, List.map_nil, List.replicate_zero, List.replicate_succ, List.append_nil, List.nil_append, List.cons_append, List.getElem?_cons_zero, List.getElem?_cons_succ, List.set_cons_zero, List.set_cons_succ, List.length_cons, List.length_nil, List.head?_cons, Nat.reduceAdd, Nat.reduceLT, Nat.reduceLeDiff, Nat.reduceBEq, Nat.reduceEqDiff, Nat.succ_ne_zero, Nat.zero_lt_succ, Nat.le_refl, sc_rows, kc_lit, nc_lit, wlk_rows, uR_s, uR_uR, true_and, and_true, true_or, or_true, false_or, or_false, and_false, false_and, or_self, and_self, if_true, if_false, Bool.false_eq_true, Bool.or_false, Bool.or_true, Bool.false_or, Bool.true_or, not_true_eq_false, not_false_eq_true, forall_const, true_implies, false_implies, implies_true, reduceIte, reduceCtorEq]
            have := fin1 _ eo (by dsimp only; rw [decide_eq_false gd]; rfl)
            dsimp only at this
            rw [if_neg (by decide)] at this
            exact this
      · have eo : ordN c s = (false, s, 0, 0, 0) := by unfold ordN; rw [if_neg w, if_neg w2, if_neg w3]
        have := fin0 _ eo rfl
        dsimp only at this
        rw [at6_self h.2.1] at this
        refine wk ((fn0_ok l)) ok_6 20 (fun pc => pc == 25) ?_
        simp only [fn0, kk_6, Option.toList_some, Option.toList_none, ex, catS, vC, isMk, sym, popN, goC, callOK, swL, List.map_cons, List.map_nil, List.replicate_zero, List.replicate_succ, List.append_nil, List.nil_append, List.cons_append, List.getElem?_cons_zero, List.getElem?_cons_succ, List.set_cons_zero, List.set_cons_succ, List.length_cons, List.length_nil, List.head?_cons, Nat.reduceAdd, Nat.reduceLT, Nat.reduceLeDiff, Nat.reduceBEq, Nat.reduceEqDiff, Nat.succ_ne_zero, Nat.zero_lt_succ, Nat.le_refl, sc_rows, kc_lit, nc_lit, wlk_rows, uR_s, uR_uR, true_and, and_true, true_or, or_true, false_or, or_false, and_false, false_and, or_self, and_self, if_true, if_false, Bool.false_eq_true, Bool.or_false, Bool.or_true, Bool.false_or, Bool.true_or, not_true_eq_false, not_false_eq_true, forall_const, true_implies, false_implies, implies_true, reduceIte, reduceCtorEq, eq_false w, eq_false w2, eq_false w3]
        exact this
end H2

