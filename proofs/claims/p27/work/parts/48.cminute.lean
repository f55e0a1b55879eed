/-! the class: a minute's taxis, the impatient, the seats -/
section C9
variable {l : Launch} {L : Nat} {I : Nat → Nat → Int32} {Q : Nat → Nat → Option Nat} {P : Option Value → PH → Prop} {B : Nat} {σ : Nat → Nat} {z : Nat → Int32} {n m k : Nat}
theorem zTick_12 {z : Nat → Int32} {n k i m' : Nat} (h : MV (zTick z i) n k) (h2 : zTick z i 12 = nI m') (hm : m' ≤ 12) : Ln (zTick z i) n m' := by
  obtain ⟨⟨m, hl⟩, -⟩ := h
  have e : nI m = nI m' := hl.2.2.1.symm.trans h2
  have : m = m' := (nI_eq (by have := hl.2.2.2.2.2.2.2; omega) (by omega)).mp e
  subst this
  exact hl
set_option maxRecDepth 100000 in
theorem c_ticks (hB : TB B) (hQ : QT0 Q B) (hS : QS Q B σ) {k0 : Nat} (hk : k ≤ 15) (h1 : ∀ I' m', m' ≤ 12 → CA I' B σ (zTs z n) n m' k → Ln (zTs z n) n m' → Fr I I' B → ∀ a2, Sy l 43 (149, 1788) 53 [some (.ref B), some (.int (nI n)), a2] [] (SC L, I', Q) P) (hn : n ≤ 12) (hnz : ∀ i, i ≤ n → MV (zTs z i) n k0 ∧ zTs z i 11 = nI n) : ∀ d i, i + d = n → ∀ I0 m0, CA I0 B σ (zTs z i) n m0 k → Ln (zTs z i) n m0 → Fr I I0 B → ∀ a2, Sy l 43 (149, 1788) 12 [some (.ref B), some (.int (nI i)), a2] [] (SC L, I0, Q) P := by
  intro d
  induction d with
  | zero =>
    intro i hi I0 m0 hC hL hF a2
    have : i = n := by omega
    subst this
    have e1 : I0 B 1 = nI i := hC.tw.1.trans (hnz i (Nat.le_refl i)).2
    refine wk ((fn0_ok l)) ok_43 30 (fun pc => pc == 53) ?_
    simp only [fn0, kk_43, Option.toList_some, Option.toList_none, ex, catS, vC, isMk, sym, popN, goC, callOK, swL, List.map_cons, List.map_nil, List.replicate_zero, List.replicate_succ, List.append_nil, List.nil_append, List.cons_append, List.getElem?_cons_zero, List.getElem?_cons_succ, List.set_cons_zero, List.set_cons_succ, List.length_cons, List.length_nil, List.head?_cons, Nat.reduceAdd, Nat.reduceLT, Nat.reduceLeDiff, Nat.reduceBEq, Nat.reduceEqDiff, Nat.succ_ne_zero, Nat.zero_lt_succ, Nat.le_refl, sc_rows, kc_lit, nc_lit, wlk_rows, uR_s, uR_uR, true_and, and_true, true_or, or_true, false_or, or_false, and_false, false_and, or_self, and_self, if_true, if_false, Bool.false_eq_true, Bool.or_false, Bool.or_true, Bool.false_or, Bool.true_or, not_true_eq_false, not_false_eq_true, forall_const, true_implies, false_implies, implies_true, reduceIte, reduceCtorEq, tbk hB, tbx hB, e1, leT (Nat.le_refl i) (show i < 2147483648 by omega)]
    exact h1 I0 m0 hL.2.2.2.2.2.2.2 hC hL hF a2
  | succ d ih =>
    intro i hi I0 m0 hC hL hF a2
    have e1 : I0 B 1 = nI n := hC.tw.1.trans (hnz i (by omega)).2
    have t := hC.tx (show i < n by omega)
    have w1 := ((hnz i (by omega)).1.2.1 i (by omega)).1.1
    have hs := hS.2.1 i (by omega)
    have step : zTs z (i + 1) = zTick (zTs z i) i := rfl
    refine wk ((fn0_ok l)) ok_43 40 (fun pc => pc == 12) ?_
    simp only [fn0, kk_43, Option.toList_some, Option.toList_none, ex, catS, vC, isMk, sym, popN, goC, callOK, swL, List.map_cons, List.map_nil, List.replicate_zero, List.replicate_succ, List.append_nil, List.nil_append, List.cons_append, List.getElem?_cons_zero, List.getElem?_cons_succ, List.set_cons_zero, List.set_cons_succ, List.length_cons, List.length_nil, List.head?_cons, Nat.reduceAdd, Nat.reduceLT, Nat.reduceLeDiff, Nat.reduceBEq, Nat.reduceEqDiff, Nat.succ_ne_zero, Nat.zero_lt_succ, Nat.le_refl, sc_rows, kc_lit, nc_lit, wlk_rows, uR_s, uR_uR, true_and, and_true, true_or, or_true, false_or, or_false, and_false, false_and, or_self, and_self, if_true, if_false, Bool.false_eq_true, Bool.or_false, Bool.or_true, Bool.false_or, Bool.true_or, not_true_eq_false, not_false_eq_true, forall_const, true_implies, false_implies, implies_true, reduceIte, reduceCtorEq, e1, tbk hB, tbx hB, tbn L hB, qt hQ, leF (show i < n by omega) (show n < 2147483648 by omega), ixp (show i < 12 by omega) (by omega), hS.1 i (by omega), tbt hB hs, t, nI_up]
    have skip : ¬ (1 ≤ zTs z i (tp i 1) ∧ zTs z i (tp i 1) ≤ 4) → ∀ a2, Sy l 43 (149, 1788) 12 [some (.ref B), some (.int (nI (i + 1))), a2] [] (SC L, I0, Q) P := by
      intro hne a2
      have e : zTs z (i + 1) = zTs z i := by rw [step]; unfold zTick; rw [if_neg hne]
      exact ih (i + 1) (by omega) I0 m0 (by rw [e]; exact hC) (by rw [e]; exact hL) hF a2
    refine ⟨fun g => ?_, fun g => ⟨fun g2 => ?_, fun g2 => ?_⟩⟩
    · exact skip (fun c => by rw [g] at c; exact absurd c.1 (by decide)) _
    · exact skip (fun c => by rw [g2] at c; exact absurd c.2 (by decide)) _
    · refine c_goOn hB hQ hS hC (hnz i (by omega)).1 hL hk (by omega) (by
        rcases w1 with e | e | e | e | e | e
        · exact absurd e g
        · exact Or.inl e
        · exact Or.inr (Or.inl e)
        · exact Or.inr (Or.inr (Or.inl e))
        · exact Or.inr (Or.inr (Or.inr e))
        · exact absurd e g2) (fun I' m' a b c f => ?_)
      refine wk ((fn0_ok l)) ok_43 40 (fun pc => pc == 12) ?_
      simp only [fn0, kk_43, Option.toList_some, Option.toList_none, ex, catS, vC, isMk, sym, popN, goC, callOK, swL, List.map_cons, List.map_nil, List.replicate_zero, List.replicate_succ, List.append_nil, List.nil_append, List.cons_append, List.getElem?_cons_zero, List.getElem?_cons_succ, List.set_cons_zero, List.set_cons_succ, List.length_cons, List.length_nil, List.head?_cons, Nat.reduceAdd, Nat.reduceLT, Nat.reduceLeDiff, Nat.reduceBEq, Nat.reduceEqDiff, Nat.succ_ne_zero, Nat.zero_lt_succ, Nat.le_refl, sc_rows, kc_lit, nc_lit, wlk_rows, uR_s, uR_uR, true_and, and_true, true_or, or_true, false_or, or_false, and_false, false_and, or_self, and_self, if_true, if_false, Bool.false_eq_true, Bool.or_false, Bool.or_true, Bool.false_or, Bool.true_or, not_true_eq_false, not_false_eq_true, forall_const, true_implies, false_implies, implies_true, reduceIte, reduceCtorEq, nI_up]
      have hM := (hnz (i + 1) (by omega)).1
      rw [step] at hM
      exact ih (i + 1) (by omega) I' m' c (zTick_12 hM b a) (hF.tr f) _
set_option maxRecDepth 100000 in
theorem c_disLoop (hB : TB B) (hQ : QT0 Q B) (hS : QS Q B σ) (hm : m ≤ 12) : ∀ r (z : Nat → Int32) k I, MV z n k → r ≤ k → CA I B σ z n m k → (∀ I' k', MV (zDis z r) n k' → CA I' B σ (zDis z r) n m k' → Fr I I' B → P none (SC L, I', Q)) → Sy l 45 (149, 1788) 10 [some (.ref B), some (.int (nI r + -1))] [] (SC L, I, Q) P := by
  intro r
  induction r with
  | zero =>
    intro z k I hM hr hC h1
    refine wk ((fn0_ok l)) ok_45 30 (fun pc => false) ?_
    simp only [fn0, kk_45, Option.toList_some, Option.toList_none, ex, catS, vC, isMk, sym, popN, goC, callOK, swL, List.map_cons, List.map_nil, List.replicate_zero, List.replicate_succ, List.append_nil, List.nil_append, List.cons_append, List.getElem?_cons_zero, List.getElem?_cons_succ, List.set_cons_zero, List.set_cons_succ, List.length_cons, List.length_nil, List.head?_cons, Nat.reduceAdd, Nat.reduceLT, Nat.reduceLeDiff, Nat.reduceBEq, Nat.reduceEqDiff, Nat.succ_ne_zero, Nat.zero_lt_succ, Nat.le_refl, sc_rows, kc_lit, nc_lit, wlk_rows, uR_s, uR_uR, true_and, and_true, true_or, or_true, false_or, or_false, and_false, false_and, or_self, and_self, if_true, if_false, Bool.false_eq_true, Bool.or_false, Bool.or_true, Bool.false_or, Bool.true_or, not_true_eq_false, not_false_eq_true, forall_const, true_implies, false_implies, implies_true, reduceIte, reduceCtorEq, show nI 0 + -1 = (-1 : Int32) from rfl, show ((-1 : Int32) < 0) = True by decide]
    exact h1 I k hM hC (Fr.rf I B)
  | succ r ih =>
    intro z k I hM hr hC h1
    have hkz := hM.2.2.2.1
    have hk := hM.2.2.2.2.1
    have hn := hM.n.2
    have w := hC.tw
    have wr := (hC.2.2.2.2.2.2 r (by omega)).2.1
    have e0 : (nI r < 0) = False := by rw [show (0 : Int32) = nI 0 from rfl]; exact ltF (by omega) (by omega)
    have e13 : ix (z 13) = k := by rw [hkz]; exact ix_nI (by omega)
    refine wk ((fn0_ok l)) ok_45 60 (fun pc => pc == 10) ?_
    simp only [fn0, kk_45, Option.toList_some, Option.toList_none, ex, catS, vC, isMk, sym, popN, goC, callOK, swL, List.map_cons, List.map_nil, List.replicate_zero, List.replicate_succ, List.append_nil, List.nil_append, List.cons_append, List.getElem?_cons_zero, List.getElem?_cons_succ, List.set_cons_zero, List.set_cons_succ, List.length_cons, List.length_nil, List.head?_cons, Nat.reduceAdd, Nat.reduceLT, Nat.reduceLeDiff, Nat.reduceBEq, Nat.reduceEqDiff, Nat.succ_ne_zero, Nat.zero_lt_succ, Nat.le_refl, sc_rows, kc_lit, nc_lit, wlk_rows, uR_s, uR_uR, true_and, and_true, true_or, or_true, false_or, or_false, and_false, false_and, or_self, and_self, if_true, if_false, Bool.false_eq_true, Bool.or_false, Bool.or_true, Bool.false_or, Bool.true_or, not_true_eq_false, not_false_eq_true, forall_const, true_implies, false_implies, implies_true, reduceIte, reduceCtorEq, (nI_dn (show 0 < r + 1 by omega)).1, Nat.add_sub_cancel, e0, tbk hB, tbx hB, tbn L hB, qt hQ, in5, cl_lit, w, wr, ixp (show r < 15 by omega) (by omega)]
    refine ⟨fun g => ?_, fun g => ?_⟩
    · have e : zDs z r = z := by unfold zDs; rw [if_neg (Int32.not_le.mpr g)]
      have e2 : zDis z (r + 1) = zDis z r := by show zDis (zDs z r) r = _; rw [e]
      rw [e2] at h1
      exact ih z k I hM (by omega) hC h1
    · have e : zDs z r = upd (zGoes z r k) 7 (z 7 + 1) := by unfold zDs; rw [if_pos (Int32.not_lt.mp g), e13]
      have e2 : zDis z (r + 1) = zDis (upd (zGoes z r k) 7 (z 7 + 1)) r := by show zDis (zDs z r) r = _; rw [e]
      rw [e2] at h1
      refine c_removeAt hB hQ hS hC hkz hn hm hk (by omega) (fun I' hC' hF => ?_)
      have w' := hC'.tw
      have e7 : zGoes z r k 7 = z 7 := zGoes_o z hk (by omega)
      refine wk ((fn0_ok l)) ok_45 40 (fun pc => pc == 10) ?_
      simp only [fn0, kk_45, Option.toList_some, Option.toList_none, ex, catS, vC, isMk, sym, popN, goC, callOK, swL, List.map_cons, List.map_nil, List.replicate_zero, List.replicate_succ, List.append_nil, List.nil_append, List.cons_append, List.getElem?_cons_zero, List.getElem?_cons_succ, List.set_cons_zero, List.set_cons_succ, List.length_cons, List.length_nil, List.head?_cons, Nat.reduceAdd, Nat.reduceLT, Nat.reduceLeDiff, Nat.reduceBEq, Nat.reduceEqDiff, Nat.succ_ne_zero, Nat.zero_lt_succ, Nat.le_refl, sc_rows, kc_lit, nc_lit, wlk_rows, uR_s, uR_uR, true_and, and_true, true_or, or_true, false_or, or_false, and_false, false_and, or_self, and_self, if_true, if_false, Bool.false_eq_true, Bool.or_false, Bool.or_true, Bool.false_or, Bool.true_or, not_true_eq_false, not_false_eq_true, forall_const, true_implies, false_implies, implies_true, reduceIte, reduceCtorEq, tbk hB, tbx hB, w', e7]
      have c2 := hC'.cnt hm (by omega) hS.2.1 hn 8 (by omega) (z 7 + 1)
      exact ih _ (k - 1) _ ((hM.goes (by omega)).cnt 7 (by omega) _) (by omega) c2 (fun I2 k2 a b f => h1 I2 k2 a b ((hF.tr (Fr.up _ _ (by omega))).tr f))
set_option maxRecDepth 100000 in
theorem c_dismiss (hB : TB B) (hQ : QT0 Q B) (hS : QS Q B σ) (hm : m ≤ 12) (hM : MV z n k) (hC : CA I B σ z n m k) (h1 : ∀ I' k', MV (zDis z k) n k' → CA I' B σ (zDis z k) n m k' → Fr I I' B → P none (SC L, I', Q)) : Runs l 45 [.ref B] (SC L, I, Q) P := by
  refine run0 (n := 1) mok_45 ⟨rfl, rfl⟩ rfl ?_
  have e1 : I (B + 15) 0 = nI k := hC.2.2.2.2.2.1.1.trans hM.2.2.2.1
  refine wk ((fn0_ok l)) ok_45 30 (fun pc => pc == 10) ?_
  simp only [fn0, kk_45, Option.toList_some, Option.toList_none, ex, catS, vC, isMk, sym, popN, goC, callOK, swL, List.map_cons, List.map_nil, List.replicate_zero, List.replicate_succ, List.append_nil, List.nil_append, List.cons_append, List.getElem?_cons_zero, List.getElem?_cons_succ, List.set_cons_zero, List.set_cons_succ, List.length_cons, List.length_nil, List.head?_cons, Nat.reduceAdd, Nat.reduceLT, Nat.reduceLeDiff, Nat.reduceBEq, Nat.reduceEqDiff, Nat.succ_ne_zero, Nat.zero_lt_succ, Nat.le_refl, sc_rows, kc_lit, nc_lit, wlk_rows, uR_s, uR_uR, true_and, and_true, true_or, or_true, false_or, or_false, and_false, false_and, or_self, and_self, if_true, if_false, Bool.false_eq_true, Bool.or_false, Bool.or_true, Bool.false_or, Bool.true_or, not_true_eq_false, not_false_eq_true, forall_const, true_implies, false_implies, implies_true, reduceIte, reduceCtorEq, qt hQ, tbk hB, tbx hB, e1]
  rw [Int32.sub_eq_add_neg]
  exact c_disLoop hB hQ hS hm k z k I hM (Nat.le_refl k) hC h1
end C9

