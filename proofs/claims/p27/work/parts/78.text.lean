/-! the text: the class reads all orders -/
def tRN (c : Nat → Int32) (ln : Nat) : Nat → Nat → Nat → Option Nat × Nat
  | 0, j, s => (some s, j)
  | f + 1, j, s => if (ordN c s).1 = false then (some (ordN c s).2.1, j) else if ln ≤ (ordN c s).2.1 then (none, j + 1) else if c (ordN c s).2.1 = 59 then tRN c ln f (j + 1) ((ordN c s).2.1 + 1) else (some (ordN c s).2.1, j + 1)
/-- where each order begins -/
def stO (c : Nat → Int32) : Nat → Nat
  | 0 => 0
  | j + 1 => (ordN c (stO c j)).2.1 + 1
theorem tRN_b (c : Nat → Int32) (ln : Nat) : ∀ f j s, (tRN c ln f j s).1 = none → j < (tRN c ln f j s).2 ∧ (tRN c ln f j s).2 ≤ j + f := by
  intro f
  induction f with
  | zero => intro j s h; cases h
  | succ f ih =>
    intro j s h
    simp only [tRN] at h ⊢
    split at h
    · cases h
    · next g1 =>
      rw [if_neg g1]
      split at h
      · next g2 => rw [if_pos g2]; simp
      · next g2 =>
        rw [if_neg g2]
        split at h
        · next g3 =>
          rw [if_pos g3]
          have := ih (j + 1) _ h
          omega
        · cases h
theorem numN_last (c : Nat → Int32) (H : Nat) : ∀ f x s, (48 ≤ c (s - 1) ∧ c (s - 1) ≤ 57) → 48 ≤ c ((numN c H f x s).2 - 1) ∧ c ((numN c H f x s).2 - 1) ≤ 57 := by
  intro f
  induction f with
  | zero => intro x s h; exact h
  | succ f ih =>
    intro x s h
    simp only [numN]
    split
    · next g => exact ih _ (s + 1) g.2.1
    · exact h
theorem num0_last {c : Nat → Int32} {lo H s v s' : Nat} (h : num0 c lo H s = some (v, s')) : 48 ≤ c (s' - 1) ∧ c (s' - 1) ≤ 57 := by
  unfold num0 at h
  split at h
  · next g =>
    have := numN_last c H 3 (dgt (c s)) (s + 1) g.1
    rw [Option.some.inj h] at this
    exact this
  · cases h
theorem ordN_last (c : Nat → Int32) (s : Nat) : (ordN c s).1 = true → 48 ≤ c ((ordN c s).2.1 - 1) ∧ c ((ordN c s).2.1 - 1) ≤ 57 := by
  unfold ordN
  split
  · cases h : num0 c 0 20 (s + 1) with
    | none => exact fun q => by cases q
    | some r =>
      obtain ⟨v, s1⟩ := r
      exact fun _ => num0_last h
  · split
    · cases h : num0 c 0 20 (s + 1) with
      | none => exact fun q => by cases q
      | some r =>
        obtain ⟨v, s1⟩ := r
        dsimp only
        split
        · cases h2 : num0 c 0 20 (s1 + 1) with
          | none => exact fun q => by cases q
          | some r2 =>
            obtain ⟨u, s2⟩ := r2
            exact fun _ => num0_last h2
        · exact fun q => by cases q
    · split
      · cases h : num0 c 1 999 (s + 1) with
        | none => exact fun q => by cases q
        | some r =>
          obtain ⟨v, s1⟩ := r
          exact fun _ => num0_last h
      · exact fun q => by cases q
theorem chx_0 (f : Nat → Int32) {ln s : Nat} (h : ln ≤ s) : chx f ln s = 0 := by unfold chx; rw [if_neg (by omega)]
def fltI (r : Option Nat × Nat) : Int32 := match r.1 with
  | none => -1
  | some x => nI x
section H3
variable {l : Launch} {L : Nat} {I : Nat → Nat → Int32} {Q : Nat → Nat → Option Nat} {P : Option Value → PH → Prop} {ln s : Nat}
/-- the orders that the class has noted -/
def ON (I : Nat → Nat → Int32) (c : Nat → Int32) (j : Nat) : Prop := I 144 0 = nI j ∧ ∀ i, i < j → I 145 i = (ordN c (stO c i)).2.2.1 ∧ I 146 i = nI (ordN c (stO c i)).2.2.2.1 ∧ ((ordN c (stO c i)).2.2.1 = 99 → I 147 i = nI (ordN c (stO c i)).2.2.2.2)
theorem ON.at {c : Nat → Int32} {j : Nat} (h : ON I c j) (t : Nat) : ON (at6 I t) c j := by
  unfold ON at6
  rw [uR_s, upd_n _ _ (by omega), uR_n _ _ (by omega), uR_n _ _ (by omega), uR_n _ _ (by omega)]
  exact h
theorem ON.nte {c : Nat → Int32} {j : Nat} (h : ON I c j) : ON (NTE I j (ordN c (stO c j)).2.2.1 (nI (ordN c (stO c j)).2.2.2.1) (if (ordN c (stO c j)).2.2.1 = 99 then nI (ordN c (stO c j)).2.2.2.2 else -1)) c (j + 1) := by
  unfold ON NTE
  refine ⟨by rw [uR_s, upd_e], fun i hi => ?_⟩
  rw [uR_n _ _ (by omega), uR_n _ _ (by omega), uR_n _ _ (by omega), uR_s, uR_n _ _ (by omega), uR_n _ _ (by omega), uR_s, uR_n _ _ (by omega), uR_s]
  by_cases q : i = j
  · subst q
    rw [upd_e, upd_e, upd_e]
    exact ⟨rfl, rfl, fun q => if_pos q⟩
  · rw [upd_n _ _ q, upd_n _ _ q, upd_n _ _ q]
    exact h.2 i (by omega)
/-- nothing but the reader's own has changed -/
def FO (I I' : Nat → Nat → Int32) : Prop := ∀ p, (p < 144 ∨ 147 < p) → I' p = I p
theorem FO.tr {I I' I'' : Nat → Nat → Int32} (h : FO I I') (h' : FO I' I'') : FO I I'' := fun p hp => (h' p hp).trans (h p hp)
theorem FO.at (I : Nat → Nat → Int32) (t : Nat) : FO I (at6 I t) := fun p hp => uR_n _ _ (by omega)
theorem FO.nte (I : Nat → Nat → Int32) (am : Nat) (a b c : Int32) : FO I (NTE I am a b c) := fun p hp => by
  unfold NTE
  rw [uR_n _ _ (by omega), uR_n _ _ (by omega), uR_n _ _ (by omega), uR_n _ _ (by omega)]
theorem OC.nte {t am : Nat} {a b c : Int32} (h : OC I Q ln t) : OC (NTE I am a b c) Q ln t := by
  obtain ⟨h1, h2, h3, h4, h5, h6⟩ := h
  unfold OC NTE
  rw [uR_s, upd_n _ _ (by omega), upd_n _ _ (by omega), uR_n _ _ (by omega), uR_n _ _ (by omega), uR_n _ _ (by omega), uR_n _ _ (by omega)]
  exact ⟨h1, h2, h3, h4, h5, h6⟩
set_option maxRecDepth 100000 in
theorem c_readLoop {a1 a2 : Option Value} {c : Nat → Int32} {R : Option Nat × Nat} (hQ : QO Q) (h1 : ∀ I', FO I I' → (R.1 = none → ON I' c R.2 ∧ R.2 ≤ 20) → P (some (.int (fltI R))) (SC L, I', Q)) (hc : chx (I 143) ln = c) (hl : ln ≤ 60) : ∀ f j I0, f + j = 21 → OC I0 Q ln (stO c j) → ON I0 c j → FO I I0 → stO c j ≤ ln → 3 * j ≤ stO c j → tRN c ln f j (stO c j) = R → Sy l 5 (149, 1788) 22 [some (.ref 144), a1, a2, some (.int (nI j))] [] (SC L, I0, Q) P := by
  have hz : ∀ t, ln ≤ t → c t = 0 := fun t ht => by rw [← hc]; exact chx_0 _ ht
  intro f
  induction f with
  | zero => intro j I0 hj _ _ _ h1 h2 _; omega
  | succ f ih =>
    intro j I0 hj oc on fo hs h3 hR
    have e143 : chx (I0 143) ln = c := by rw [fo 143 (by omega)]; exact hc
    by_cases j20 : j = 20
    · subst j20
      have es : stO c 20 = ln := by omega
      have l60 : ln = 60 := by omega
      have f0 : f = 0 := by omega
      subst f0
      have c0 : c ln = 0 := hz ln (Nat.le_refl ln)
      have eo : ordN c ln = (false, ln, 0, 0, 0) := by unfold ordN; rw [c0, if_neg (by decide), if_neg (by decide), if_neg (by decide)]
      rw [es] at hR oc
      simp only [tRN, eo, if_true] at hR
      have := h1 I0 fo (fun q => by rw [← hR] at q; cases q)
      rw [← hR] at this
      refine wk ((fn0_ok l)) ok_5 20 (fun pc => pc == 28) ?_
      simp only [fn0, kk_5, Option.toList_some, Option.toList_none, ex, catS, vC, isMk, sym, popN, goC, callOK, swL, List.map_cons, List.map_nil, List.replicate_zero, List.replicate_succ, List.append_nil, List.nil_append, List.cons_append, List.getElem?_cons_zero, List.getElem?_cons_succ, List.set_cons_zero, List.set_cons_succ, List.length_cons, List.length_nil, List.head?_cons, Nat.reduceAdd, Nat.reduceLT, Nat.reduceLeDiff, Nat.reduceBEq, Nat.reduceEqDiff, Nat.succ_ne_zero, Nat.zero_lt_succ, Nat.le_refl, sc_rows, kc_lit, nc_lit, wlk_rows, uR_s, uR_uR, true_and, and_true, true_or, or_true, false_or, or_false, and_false, false_and, or_self, and_self, if_true, if_false, Bool.false_eq_true, Bool.or_false, Bool.or_true, Bool.false_or, Bool.true_or, not_true_eq_false, not_false_eq_true, forall_const, true_implies, false_implies, implies_true, reduceIte, reduceCtorEq, kO L, show ((20 : Int32) ≤ nI 20) = True by decide, oc.2.1]
      exact this
    · have lj : ((20 : Int32) ≤ nI j) = False := by rw [show (20 : Int32) = nI 20 from rfl]; exact leF (by omega) (by omega)
      have ob := ordN_b c (stO c j)
      simp only [tRN] at hR
      refine wk ((fn0_ok l)) ok_5 20 (fun pc => pc == 83) ?_
      simp only [fn0, kk_5, Option.toList_some, Option.toList_none, ex, catS, vC, isMk, sym, popN, goC, callOK, swL, List.map_cons, List.map_nil, List.replicate_zero, List.replicate_succ, List.append_nil, List.nil_append, List.cons_append, List.getElem?_cons_zero, List.getElem?_cons_succ, List.set_cons_zero, List.set_cons_succ, List.length_cons, List.length_nil, List.head?_cons, Nat.reduceAdd, Nat.reduceLT, Nat.reduceLeDiff, Nat.reduceBEq, Nat.reduceEqDiff, Nat.succ_ne_zero, Nat.zero_lt_succ, Nat.le_refl, sc_rows, kc_lit, nc_lit, wlk_rows, uR_s, uR_uR, true_and, and_true, true_or, or_true, false_or, or_false, and_false, false_and, or_self, and_self, if_true, if_false, Bool.false_eq_true, Bool.or_false, Bool.or_true, Bool.false_or, Bool.true_or, not_true_eq_false, not_false_eq_true, forall_const, true_implies, false_implies, implies_true, reduceIte, reduceCtorEq, kO L, lj]
      refine c_order oc hQ (by omega) on.1 (by omega) (fun hk => ?_) (fun hk => ?_)
      · rw [e143] at hk ⊢
        have e6 : at6 I0 (ordN c (stO c j)).2.1 144 6 = nI (ordN c (stO c j)).2.1 := by unfold at6; rw [uR_s, upd_e]
        have hF : R.1 = some (ordN c (stO c j)).2.1 := by
          unfold okC at hk
          by_cases g1 : (ordN c (stO c j)).1 = false
          · rw [if_pos g1] at hR
            rw [← hR]
          · rw [if_neg g1] at hR
            have g1' : (ordN c (stO c j)).1 = true := by simpa using g1
            rw [g1'] at hk
            have hd : 48 ≤ c (ordN c (stO c j)).2.1 ∧ c (ordN c (stO c j)).2.1 ≤ 57 := by simpa using hk
            have hlt : ¬ ln ≤ (ordN c (stO c j)).2.1 := fun q => by
              have : c (ordN c (stO c j)).2.1 = 0 := hz _ q
              rw [this] at hd
              exact absurd hd.1 (by decide)
            rw [if_neg hlt, if_neg (fun q => by rw [q] at hd; exact absurd hd.2 (by decide))] at hR
            rw [← hR]
        have := h1 (at6 I0 (ordN c (stO c j)).2.1) (fo.tr (FO.at _ _)) (fun q => by rw [hF] at q; cases q)
        unfold fltI at this
        rw [hF] at this
        refine wk ((fn0_ok l)) ok_5 20 (fun pc => pc == 40) ?_
        simp only [fn0, kk_5, Option.toList_some, Option.toList_none, ex, catS, vC, isMk, sym, popN, goC, callOK, swL, List.map_cons, List.map_nil, List.replicate_zero, List.replicate_succ, List.append_nil, List.nil_append, List.cons_append, List.getElem?_cons_zero, List.getElem?_cons_succ, List.set_cons_zero, List.set_cons_succ, List.length_cons, List.length_nil, List.head?_cons, Nat.reduceAdd, Nat.reduceLT, Nat.reduceLeDiff, Nat.reduceBEq, Nat.reduceEqDiff, Nat.succ_ne_zero, Nat.zero_lt_succ, Nat.le_refl, sc_rows, kc_lit, nc_lit, wlk_rows, uR_s, uR_uR, true_and, and_true, true_or, or_true, false_or, or_false, and_false, false_and, or_self, and_self, if_true, if_false, Bool.false_eq_true, Bool.or_false, Bool.or_true, Bool.false_or, Bool.true_or, not_true_eq_false, not_false_eq_true, forall_const, true_implies, false_implies, implies_true, reduceIte, reduceCtorEq, kO L, e6]
        exact this
      · rw [e143] at hk ⊢
        have hk2 : (ordN c (stO c j)).1 = true ∧ ¬ (48 ≤ c (ordN c (stO c j)).2.1 ∧ c (ordN c (stO c j)).2.1 ≤ 57) := by
          unfold okC at hk
          rw [Bool.and_eq_true] at hk
          refine ⟨hk.1, fun q => ?_⟩
          have := hk.2
          rw [decide_eq_true q] at this
          cases this
        have ob3 := ob.2.2 hk2.1
        rw [if_neg (by rw [hk2.1]; decide)] at hR
        have fo2 := fo.tr ((FO.at I0 (ordN c (stO c j)).2.1).tr (FO.nte _ j (ordN c (stO c j)).2.2.1 (nI (ordN c (stO c j)).2.2.2.1) (if (ordN c (stO c j)).2.2.1 = 99 then nI (ordN c (stO c j)).2.2.2.2 else -1)))
        have on2 := (on.at (ordN c (stO c j)).2.1).nte
        have oc2 : OC (NTE (at6 I0 (ordN c (stO c j)).2.1) j (ordN c (stO c j)).2.2.1 (nI (ordN c (stO c j)).2.2.2.1) (if (ordN c (stO c j)).2.2.1 = 99 then nI (ordN c (stO c j)).2.2.2.2 else -1)) Q ln (ordN c (stO c j)).2.1 := (oc.at (by omega)).nte
        generalize hI2 : NTE (at6 I0 (ordN c (stO c j)).2.1) j (ordN c (stO c j)).2.2.1 (nI (ordN c (stO c j)).2.2.2.1) (if (ordN c (stO c j)).2.2.1 = 99 then nI (ordN c (stO c j)).2.2.2.2 else -1) = I2 at fo2 on2 oc2
        have e6 := oc2.2.1
        have e5 := oc2.1
        by_cases g2 : (ordN c (stO c j)).2.1 = ln
        · rw [if_pos (by omega)] at hR
          have := h1 I2 fo2 (fun _ => by rw [← hR]; exact ⟨on2, by show j + 1 ≤ 20; omega⟩)
          rw [← hR] at this
          refine wk ((fn0_ok l)) ok_5 20 (fun pc => pc == 35 || pc == 53) ?_
          simp only [fn0, kk_5, Option.toList_some, Option.toList_none, ex, catS, vC, isMk, sym, popN, goC, callOK, swL, List.map_cons, List.map_nil, List.replicate_zero, List.replicate_succ, List.append_nil, List.nil_append, List.cons_append, List.getElem?_cons_zero, List.getElem?_cons_succ, List.set_cons_zero, List.set_cons_succ, List.length_cons, List.length_nil, List.head?_cons, Nat.reduceAdd, Nat.reduceLT, Nat.reduceLeDiff, Nat.reduceBEq, Nat.reduceEqDiff, Nat.succ_ne_zero, Nat.zero_lt_succ, Nat.le_refl, sc_rows, kc_lit, nc_lit, wlk_rows, uR_s, uR_uR, true_and, and_true, true_or, or_true, false_or, or_false, and_false, false_and, or_self, and_self, if_true, if_false, Bool.false_eq_true, Bool.or_false, Bool.or_true, Bool.false_or, Bool.true_or, not_true_eq_false, not_false_eq_true, forall_const, true_implies, false_implies, implies_true, reduceIte, reduceCtorEq, kO L, nz_lit, e6, e5, g2]
          exact this
        · by_cases g4 : ln ≤ (ordN c (stO c j)).2.1
          · exfalso
            -- beyond the end: there is no character ahead
            have hlast : c ((ordN c (stO c j)).2.1 - 1) = 0 := hz _ (by omega)
            have := ordN_last c (stO c j) hk2.1
            rw [hlast] at this
            exact absurd this.1 (by decide)
          · rw [if_neg g4] at hR
            have e143' : chx (I2 143) ln = c := by rw [fo2 143 (by omega)]; exact hc
            have ne : (nI (ordN c (stO c j)).2.1 = nI ln) = False := eqF g2 (by omega) (by omega)
            refine wk ((fn0_ok l)) ok_5 20 (fun pc => pc == 35 || pc == 51) ?_
            simp only [fn0, kk_5, Option.toList_some, Option.toList_none, ex, catS, vC, isMk, sym, popN, goC, callOK, swL, List.map_cons, List.map_nil, List.replicate_zero, List.replicate_succ, List.append_nil, List.nil_append, List.cons_append, List.getElem?_cons_zero, List.getElem?_cons_succ, List.set_cons_zero, List.set_cons_succ, List.length_cons, List.length_nil, List.head?_cons, Nat.reduceAdd, Nat.reduceLT, Nat.reduceLeDiff, Nat.reduceBEq, Nat.reduceEqDiff, Nat.succ_ne_zero, Nat.zero_lt_succ, Nat.le_refl, sc_rows, kc_lit, nc_lit, wlk_rows, uR_s, uR_uR, true_and, and_true, true_or, or_true, false_or, or_false, and_false, false_and, or_self, and_self, if_true, if_false, Bool.false_eq_true, Bool.or_false, Bool.or_true, Bool.false_or, Bool.true_or, not_true_eq_false, not_false_eq_true, forall_const, true_implies, false_implies, implies_true, reduceIte, reduceCtorEq, kO L, nz_lit, e6, e5, ne]
            refine c_here oc2 ?_
            rw [e143']
            by_cases g5 : c (ordN c (stO c j)).2.1 = 59
            · rw [if_pos g5] at hR
              have fold2 : uR I2 144 (upd (I2 144) 6 (nI ((ordN c (stO c j)).2.1 + 1))) = at6 I2 (stO c (j + 1)) := rfl
              refine wk ((fn0_ok l)) ok_5 20 (fun pc => pc == 62 || pc == 22) ?_
              simp only [fn0, kk_5, Option.toList_some, Option.toList_none, ex, catS, vC, isMk, sym, popN, goC, callOK, swL, List.map_cons, List.map_nil, List.replicate_zero, List.replicate_succ, List.append_nil, List.nil_append, List.cons_append, List.getElem?_cons_zero, List.getElem?_cons_succ, List.set_cons_zero, List.set_cons_succ, List.length_cons, List.length_nil, List.head?_cons, Nat.reduceAdd, Nat.reduceLT, Nat.reduceLeDiff, Nat.reduceBEq, Nat.reduceEqDiff, Nat.succ_ne_zero, Nat.zero_lt_succ, Nat.le_refl, sc_rows, kc_lit, nc_lit, wlk_rows, uR_s, uR_uR, true_and, and_true, true_or, or_true, false_or, or_false, and_false, false_and, or_self, and_self, if_true, if_false, Bool.false_eq_true, Bool.or_false, Bool.or_true, Bool.false_or, Bool.true_or, not_true_eq_false, not_false_eq_true, forall_const, true_implies, false_implies, implies_true, reduceIte, reduceCtorEq, kO L, g5, e6, nI_up, fold2]
              refine ih (j + 1) (at6 I2 (stO c (j + 1))) (by omega) (oc2.at (by show (ordN c (stO c j)).2.1 + 1 ≤ 100; omega)) (on2.at _) (fo2.tr (FO.at _ _)) (by show (ordN c (stO c j)).2.1 + 1 ≤ ln; omega) (by show 3 * (j + 1) ≤ (ordN c (stO c j)).2.1 + 1; omega) hR
            · rw [if_neg g5] at hR
              have := h1 I2 fo2 (fun q => by rw [← hR] at q; cases q)
              rw [← hR] at this
              refine wk ((fn0_ok l)) ok_5 20 (fun pc => pc == 67) ?_
              simp only [fn0, kk_5, Option.toList_some, Option.toList_none, ex, catS, vC, isMk, sym, popN, goC, callOK, swL, List.map_cons, List.map_nil, List.replicate_zero, List.replicate_succ, List.append_nil, List.nil_append, List.cons_append, List.getElem?_cons_zero, List.getElem?_cons_succ, List.set_cons_zero, List.set_cons_succ, List.length_cons, List.length_nil, List.head?_cons, Nat.reduceAdd, Nat.reduceLT, Nat.reduceLeDiff, Nat.reduceBEq, Nat.reduceEqDiff, Nat.succ_ne_zero, Nat.zero_lt_succ, Nat.le_refl, sc_rows, kc_lit, nc_lit, wlk_rows, uR_s, uR_uR, true_and, and_true, true_or, or_true, false_or, or_false, and_false, false_and, or_self, and_self, if_true, if_false, Bool.false_eq_true, Bool.or_false, Bool.or_true, Bool.false_or, Bool.true_or, not_true_eq_false, not_false_eq_true, forall_const, true_implies, false_implies, implies_true, reduceIte, reduceCtorEq, kO L, eq_false g5, e6]
              exact this
set_option maxRecDepth 100000 in
theorem c_read (hQ : QO Q) (hl : ln ≤ 60) (hch : ∀ j, vp_nar .char (I 143 j) = I 143 j) (h1 : ∀ I', FO I I' → ((tRN (chx (I 143) ln) ln 21 0 0).1 = none → ON I' (chx (I 143) ln) (tRN (chx (I 143) ln) ln 21 0 0).2 ∧ (tRN (chx (I 143) ln) ln 21 0 0).2 ≤ 20) → P (some (.int (fltI (tRN (chx (I 143) ln) ln 21 0 0)))) (SC L, I', uR Q 144 (va_up (Q 144) 4 (some 143)))) : Runs l 5 [.ref 144, .ref 143, .int (nI ln)] (SC L, I, Q) P := by
  refine run0 (n := 1) mok_5 ⟨rfl, rfl⟩ rfl ?_
  refine wk ((fn0_ok l)) ok_5 40 (fun pc => pc == 22) ?_
  simp only [fn0, kk_5, Option.toList_some, Option.toList_none, ex, catS, vC, isMk, sym, popN, goC, callOK, swL, List.map_cons, List.map_nil, List.replicate_zero, List.replicate_succ, List.append_nil, List.nil_append, List.cons_append, List.getElem?_cons_zero, List.getElem?_cons_succ, List.set_cons_zero, List.set_cons_succ, List.length_cons, List.length_nil, List.head?_cons, Nat.reduceAdd, Nat.reduceLT, Nat.reduceLeDiff, Nat.reduceBEq, Nat.reduceEqDiff, Nat.succ_ne_zero, Nat.zero_lt_succ, Nat.le_refl, sc_rows, kc_lit, nc_lit, wlk_rows, uR_s, uR_uR, true_and, and_true, true_or, or_true, false_or, or_false, and_false, false_and, or_self, and_self, if_true, if_false, Bool.false_eq_true, Bool.or_false, Bool.or_true, Bool.false_or, Bool.true_or, not_true_eq_false, not_false_eq_true, forall_const, true_implies, false_implies, implies_true, reduceIte, reduceCtorEq, kO L]
  have hQ' : QO (uR Q 144 (va_up (Q 144) 4 (some 143))) := by
    unfold QO
    rw [uR_s, vup_n _ _ (by omega), vup_n _ _ (by omega), vup_n _ _ (by omega)]
    exact hQ
  generalize hR : tRN (chx (I 143) ln) ln 21 0 0 = R at h1
  refine c_readLoop (I := I) (c := chx (I 143) ln) (R := R) hQ' (fun I' a b => h1 I' a b) rfl hl 21 0 _ (by omega) ⟨?_, ?_, ?_, hl, by show 0 ≤ 100; omega, ?_⟩ ⟨?_, fun i hi => absurd hi (by omega)⟩ (fun p hp => uR_n _ _ (by omega)) (by show 0 ≤ ln; omega) (by show 3 * 0 ≤ 0; omega) hR
  · rw [uR_s, upd_n _ _ (by omega), upd_n _ _ (by omega), upd_e]
  · rw [uR_s, upd_e]; rfl
  · rw [uR_s]; simp [va_up]
  · rw [uR_n _ _ (by omega)]; exact hch
  · rw [uR_s, upd_n _ _ (by omega), upd_e]; rfl
end H3

