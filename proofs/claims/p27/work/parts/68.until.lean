/-! until a passenger rides, until a taxi is in the line: the class, the reference -/
def hasN (z : Nat → Int32) (s : Int32) : Nat → Bool
  | 0 => false
  | k + 1 => hasN z s k || decide (z (27 + 3 * k + 2) = s)
theorem hasN_t {z : Nat → Int32} {s : Int32} : ∀ {k : Nat}, hasN z s k = true ↔ ∃ r, r < k ∧ z (27 + 3 * r + 2) = s := by
  intro k
  induction k with
  | zero => exact ⟨fun h => (by cases h), fun h => (by obtain ⟨r, h, _⟩ := h; omega)⟩
  | succ k ih =>
    simp only [hasN, Bool.or_eq_true, decide_eq_true_eq]
    constructor
    · rintro (h | h)
      · obtain ⟨r, a, b⟩ := ih.mp h
        exact ⟨r, by omega, b⟩
      · exact ⟨k, by omega, h⟩
    · rintro ⟨r, a, b⟩
      by_cases q : r = k
      · subst q; exact Or.inr b
      · exact Or.inl (ih.mpr ⟨r, by omega, b⟩)
theorem hasN_f {z : Nat → Int32} {s : Int32} {k : Nat} (h : NT z k s) : hasN z s k = false := by
  cases e : hasN z s k with
  | false => rfl
  | true =>
    obtain ⟨r, a, b⟩ := hasN_t.mp e
    exact absurd b (h r a)
def RA (s t : Int32) : Nat → (Nat → Int32) → Nat → Int32
  | 0, _, _ => -5
  | d + 1, z, n => if hasN (zMn z) s (ix (zMn z 13)) = true then RA s t d (zMn z) (n + 1) else if zMn z 1 ≤ zMn z 5 - t then -5 else nI (n + 1)
def LA (i : Nat) : Nat → (Nat → Int32) → Nat → Int32
  | 0, _, _ => -5
  | d + 1, z, n => if z (tp i 1) = 0 then nI n else LA i d (zMn z) (n + 1)
theorem b2_T [d : Decidable True] : b2 True = 1 := b2_t trivial
theorem b2_F [d : Decidable False] : b2 False = 0 := b2_f not_false
theorem nI_sub {a b : Nat} (h : b ≤ a) : nI a - nI b = nI (a - b) := by
  have : nI (a - b) + nI b = nI a := by rw [nI_add]; congr 1; omega
  rw [← this, Int32.add_sub_cancel]
section F3
variable {l : Launch} {L : Nat} {I : Nat → Nat → Int32} {Q : Nat → Nat → Option Nat} {P : Option Value → PH → Prop} {B : Nat} {σ : Nat → Nat} {z : Nat → Int32} {n m k : Nat}
set_option maxRecDepth 100000 in
theorem c_holds (hB : TB B) (hQ : QT0 Q B) (hC : CA I B σ z n m k) (hkz : z 13 = nI k) (hk : k ≤ 15) (s : Int32) (h1 : hasN z s k = true → P (some (.int 1)) (SC L, I, Q)) (h2 : hasN z s k = false → P (some (.int 0)) (SC L, I, Q)) : Runs l 15 [.ref (B + 15), .int s] (SC L, I, Q) P := by
  have e0 : I (B + 15) 0 = nI k := hC.2.2.2.2.2.1.1.trans hkz
  have loop : ∀ d j, j + d = k → hasN z s j = false → Sy l 15 (149, 1788) 2 [some (.ref (B + 15)), some (.int s), some (.int (nI j))] [] (SC L, I, Q) P := by
    intro d
    induction d with
    | zero =>
      intro j hj hn
      have : j = k := by omega
      subst this
      refine wk ((fn0_ok l)) ok_15 30 (fun pc => false) ?_
      simp only [fn0, kk_15, Option.toList_some, Option.toList_none, ex, catS, vC, isMk, sym, popN, goC, callOK, swL, List.map_cons, List.map_nil, List.replicate_zero, List.replicate_succ, List.append_nil, List.nil_append, List.cons_append, List.getElem?_cons_zero, List.getElem?_cons_succ, List.set_cons_zero, List.set_cons_succ, List.length_cons, List.length_nil, List.head?_cons, Nat.reduceAdd, Nat.reduceLT, Nat.reduceLeDiff, Nat.reduceBEq, Nat.reduceEqDiff, Nat.succ_ne_zero, Nat.zero_lt_succ, Nat.le_refl, sc_rows, kc_lit, nc_lit, wlk_rows, uR_s, uR_uR, true_and, and_true, true_or, or_true, false_or, or_false, and_false, false_and, or_self, and_self, if_true, if_false, Bool.false_eq_true, Bool.or_false, Bool.or_true, Bool.false_or, Bool.true_or, not_true_eq_false, not_false_eq_true, forall_const, true_implies, false_implies, implies_true, reduceIte, reduceCtorEq, tbk hB, tbx hB, e0, leT (Nat.le_refl j) (show j < 2147483648 by omega)]
      exact h2 hn
    | succ d ih =>
      intro j hj hn
      have w := (hC.2.2.2.2.2.2 j (by omega)).2.2
      by_cases g : z (27 + 3 * j + 2) = s
      · refine wk ((fn0_ok l)) ok_15 30 (fun pc => pc == 2) ?_
        simp only [fn0, kk_15, Option.toList_some, Option.toList_none, ex, catS, vC, isMk, sym, popN, goC, callOK, swL, List.map_cons, List.map_nil, List.replicate_zero, List.replicate_succ, List.append_nil, List.nil_append, List.cons_append, List.getElem?_cons_zero, List.getElem?_cons_succ, List.set_cons_zero, List.set_cons_succ, List.length_cons, List.length_nil, List.head?_cons, Nat.reduceAdd, Nat.reduceLT, Nat.reduceLeDiff, Nat.reduceBEq, Nat.reduceEqDiff, Nat.succ_ne_zero, Nat.zero_lt_succ, Nat.le_refl, sc_rows, kc_lit, nc_lit, wlk_rows, uR_s, uR_uR, true_and, and_true, true_or, or_true, false_or, or_false, and_false, false_and, or_self, and_self, if_true, if_false, Bool.false_eq_true, Bool.or_false, Bool.or_true, Bool.false_or, Bool.true_or, not_true_eq_false, not_false_eq_true, forall_const, true_implies, false_implies, implies_true, reduceIte, reduceCtorEq, tbk hB, tbx hB, tbn L hB, qt hQ, e0, leF (show j < k by omega) (show k < 2147483648 by omega), ixp (show j < 15 by omega) (by omega), w, g]
        exact h1 (hasN_t.mpr ⟨j, by omega, g⟩)
      · refine wk ((fn0_ok l)) ok_15 30 (fun pc => pc == 2) ?_
        simp only [fn0, kk_15, Option.toList_some, Option.toList_none, ex, catS, vC, isMk, sym, popN, goC, callOK, swL, List.map_cons, List.map_nil, List.replicate_zero, List.replicate_succ, List.append_nil, List.nil_append, List.cons_append, List.getElem?_cons_zero, List.getElem?_cons_succ, List.set_cons_zero, List.set_cons_succ, List.length_cons, List.length_nil, List.head?_cons, Nat.reduceAdd, Nat.reduceLT, Nat.reduceLeDiff, Nat.reduceBEq, Nat.reduceEqDiff, Nat.succ_ne_zero, Nat.zero_lt_succ, Nat.le_refl, sc_rows, kc_lit, nc_lit, wlk_rows, uR_s, uR_uR, true_and, and_true, true_or, or_true, false_or, or_false, and_false, false_and, or_self, and_self, if_true, if_false, Bool.false_eq_true, Bool.or_false, Bool.or_true, Bool.false_or, Bool.true_or, not_true_eq_false, not_false_eq_true, forall_const, true_implies, false_implies, implies_true, reduceIte, reduceCtorEq, tbk hB, tbx hB, tbn L hB, qt hQ, e0, leF (show j < k by omega) (show k < 2147483648 by omega), ixp (show j < 15 by omega) (by omega), w, eq_false g, nI_up]
        exact ih (j + 1) (by omega) (by simp only [hasN, hn, decide_eq_false g, Bool.or_false])
  refine run0 (n := 1) mok_15 ⟨rfl, rfl⟩ rfl ?_
  refine wk ((fn0_ok l)) ok_15 30 (fun pc => pc == 2) ?_
  simp only [fn0, kk_15, Option.toList_some, Option.toList_none, ex, catS, vC, isMk, sym, popN, goC, callOK, swL, List.map_cons, List.map_nil, List.replicate_zero, List.replicate_succ, List.append_nil, List.nil_append, List.cons_append, List.getElem?_cons_zero, List.getElem?_cons_succ, List.set_cons_zero, List.set_cons_succ, List.length_cons, List.length_nil, List.head?_cons, Nat.reduceAdd, Nat.reduceLT, Nat.reduceLeDiff, Nat.reduceBEq, Nat.reduceEqDiff, Nat.succ_ne_zero, Nat.zero_lt_succ, Nat.le_refl, sc_rows, kc_lit, nc_lit, wlk_rows, uR_s, uR_uR, true_and, and_true, true_or, or_true, false_or, or_false, and_false, false_and, or_self, and_self, if_true, if_false, Bool.false_eq_true, Bool.or_false, Bool.or_true, Bool.false_or, Bool.true_or, not_true_eq_false, not_false_eq_true, forall_const, true_implies, false_implies, implies_true, reduceIte, reduceCtorEq]
  exact loop k 0 (by omega) rfl
set_option maxRecDepth 100000 in
theorem c_until (hB : TB B) (hQ : QT0 Q B) (hS : QS Q B σ) (hM : MV z n k) (hL : Ln z n m) (hC : CA I B σ z n m k) {r : Nat} (hr : r < k) (h1 : ∀ I', Fr I I' B → P (some (.int (RA (z (27 + 3 * r + 2)) (z (27 + 3 * r + 1)) 240 z 0))) (SC L, I', Q)) : Runs l 41 [.ref B, .int (nI r)] (SC L, I, Q) P := by
  have hk := hM.2.2.2.2.1
  have hkz := hM.2.2.2.1
  obtain ⟨w1, w2, w3⟩ := hC.2.2.2.2.2.2 r hr
  generalize hs : z (27 + 3 * r + 2) = s at h1 w3
  generalize ht : z (27 + 3 * r + 1) = t at h1 w2
  generalize hV : RA s t 240 z 0 = V at h1
  have e0 : I (B + 15) 0 = nI k := hC.2.2.2.2.2.1.1.trans hkz
  have loop : ∀ d j z0 k0 m0 I0, j + d = 240 → MV z0 n k0 → Ln z0 n m0 → CA I0 B σ z0 n m0 k0 → Fr I I0 B → RA s t d z0 j = V → Sy l 41 (149, 1788) 41 [some (.ref B), some (.int (nI r)), some (.int s), some (.int t), some (.int (nI (j + 1)))] [] (SC L, I0, Q) P := by
    intro d
    induction d with
    | zero =>
      intro j z0 k0 m0 I0 hj hM0 hL0 hC0 hF he
      have : j = 240 := by omega
      subst this
      simp only [RA] at he
      rw [← he] at h1
      refine wk ((fn0_ok l)) ok_41 30 (fun pc => false) ?_
      simp only [fn0, kk_41, Option.toList_some, Option.toList_none, ex, catS, vC, isMk, sym, popN, goC, callOK, swL, List.map_cons, List.map_nil, List.replicate_zero, List.replicate_succ, List.append_nil, List.nil_append, List.cons_append, List.getElem?_cons_zero, List.getElem?_cons_succ, List.set_cons_zero, List.set_cons_succ, List.length_cons, List.length_nil, List.head?_cons, Nat.reduceAdd, Nat.reduceLT, Nat.reduceLeDiff, Nat.reduceBEq, Nat.reduceEqDiff, Nat.succ_ne_zero, Nat.zero_lt_succ, Nat.le_refl, sc_rows, kc_lit, nc_lit, wlk_rows, uR_s, uR_uR, true_and, and_true, true_or, or_true, false_or, or_false, and_false, false_and, or_self, and_self, if_true, if_false, Bool.false_eq_true, Bool.or_false, Bool.or_true, Bool.false_or, Bool.true_or, not_true_eq_false, not_false_eq_true, forall_const, true_implies, false_implies, implies_true, reduceIte, reduceCtorEq, show ((240 : Int32) < nI 241) = True by decide, show (nI 241 ≤ (240 : Int32)) = False by decide]
      exact h1 I0 hF
    | succ d ih =>
      intro j z0 k0 m0 I0 hj hM0 hL0 hC0 hF he
      have l1 : (nI (j + 1) ≤ (240 : Int32)) = True := by rw [show (240 : Int32) = nI 240 from rfl]; exact leT (by omega) (by omega)
      have l2 : ((240 : Int32) < nI (j + 1)) = False := by rw [show (240 : Int32) = nI 240 from rfl]; exact ltF (by omega) (by omega)
      refine wk ((fn0_ok l)) ok_41 30 (fun pc => pc == 87) ?_
      simp only [fn0, kk_41, Option.toList_some, Option.toList_none, ex, catS, vC, isMk, sym, popN, goC, callOK, swL, List.map_cons, List.map_nil, List.replicate_zero, List.replicate_succ, List.append_nil, List.nil_append, List.cons_append, List.getElem?_cons_zero, List.getElem?_cons_succ, List.set_cons_zero, List.set_cons_succ, List.length_cons, List.length_nil, List.head?_cons, Nat.reduceAdd, Nat.reduceLT, Nat.reduceLeDiff, Nat.reduceBEq, Nat.reduceEqDiff, Nat.succ_ne_zero, Nat.zero_lt_succ, Nat.le_refl, sc_rows, kc_lit, nc_lit, wlk_rows, uR_s, uR_uR, true_and, and_true, true_or, or_true, false_or, or_false, and_false, false_and, or_self, and_self, if_true, if_false, Bool.false_eq_true, Bool.or_false, Bool.or_true, Bool.false_or, Bool.true_or, not_true_eq_false, not_false_eq_true, forall_const, true_implies, false_implies, implies_true, reduceIte, reduceCtorEq, l1, l2, tbk hB, tbx hB]
      refine c_mn hB hQ hS hM0 hL0 hC0 (fun I1 k1 m1 a b c f => ?_)
      have hk1 := a.2.2.2.2.1
      have e13 : ix (zMn z0 13) = k1 := by rw [a.2.2.2.1]; exact ix_nI (by omega)
      simp only [RA, e13] at he
      refine wk ((fn0_ok l)) ok_41 30 (fun pc => pc == 87) ?_
      simp only [fn0, kk_41, Option.toList_some, Option.toList_none, ex, catS, vC, isMk, sym, popN, goC, callOK, swL, List.map_cons, List.map_nil, List.replicate_zero, List.replicate_succ, List.append_nil, List.nil_append, List.cons_append, List.getElem?_cons_zero, List.getElem?_cons_succ, List.set_cons_zero, List.set_cons_succ, List.length_cons, List.length_nil, List.head?_cons, Nat.reduceAdd, Nat.reduceLT, Nat.reduceLeDiff, Nat.reduceBEq, Nat.reduceEqDiff, Nat.succ_ne_zero, Nat.zero_lt_succ, Nat.le_refl, sc_rows, kc_lit, nc_lit, wlk_rows, uR_s, uR_uR, true_and, and_true, true_or, or_true, false_or, or_false, and_false, false_and, or_self, and_self, if_true, if_false, Bool.false_eq_true, Bool.or_false, Bool.or_true, Bool.false_or, Bool.true_or, not_true_eq_false, not_false_eq_true, forall_const, true_implies, false_implies, implies_true, reduceIte, reduceCtorEq, tbk hB, tbx hB, qt hQ]
      refine c_holds hB hQ c a.2.2.2.1 hk1 s (fun hh => ?_) (fun hh => ?_)
      · rw [if_pos hh] at he
        refine wk ((fn0_ok l)) ok_41 30 (fun pc => pc == 41) ?_
        simp only [fn0, kk_41, Option.toList_some, Option.toList_none, ex, catS, vC, isMk, sym, popN, goC, callOK, swL, List.map_cons, List.map_nil, List.replicate_zero, List.replicate_succ, List.append_nil, List.nil_append, List.cons_append, List.getElem?_cons_zero, List.getElem?_cons_succ, List.set_cons_zero, List.set_cons_succ, List.length_cons, List.length_nil, List.head?_cons, Nat.reduceAdd, Nat.reduceLT, Nat.reduceLeDiff, Nat.reduceBEq, Nat.reduceEqDiff, Nat.succ_ne_zero, Nat.zero_lt_succ, Nat.le_refl, sc_rows, kc_lit, nc_lit, wlk_rows, uR_s, uR_uR, true_and, and_true, true_or, or_true, false_or, or_false, and_false, false_and, or_self, and_self, if_true, if_false, Bool.false_eq_true, Bool.or_false, Bool.or_true, Bool.false_or, Bool.true_or, not_true_eq_false, not_false_eq_true, forall_const, true_implies, false_implies, implies_true, reduceIte, reduceCtorEq, nz_lit, nI_up]
        exact ih (j + 1) _ k1 m1 I1 (by omega) a b c (hF.tr f) he
      · rw [if_neg (by rw [hh]; decide)] at he
        have w := c.tw
        by_cases g : zMn z0 1 ≤ zMn z0 5 - t
        · rw [if_pos g] at he
          rw [← he] at h1
          refine wk ((fn0_ok l)) ok_41 30 (fun pc => pc == 41) ?_
          simp only [fn0, kk_41, Option.toList_some, Option.toList_none, ex, catS, vC, isMk, sym, popN, goC, callOK, swL, List.map_cons, List.map_nil, List.replicate_zero, List.replicate_succ, List.append_nil, List.nil_append, List.cons_append, List.getElem?_cons_zero, List.getElem?_cons_succ, List.set_cons_zero, List.set_cons_succ, List.length_cons, List.length_nil, List.head?_cons, Nat.reduceAdd, Nat.reduceLT, Nat.reduceLeDiff, Nat.reduceBEq, Nat.reduceEqDiff, Nat.succ_ne_zero, Nat.zero_lt_succ, Nat.le_refl, sc_rows, kc_lit, nc_lit, wlk_rows, uR_s, uR_uR, true_and, and_true, true_or, or_true, false_or, or_false, and_false, false_and, or_self, and_self, if_true, if_false, Bool.false_eq_true, Bool.or_false, Bool.or_true, Bool.false_or, Bool.true_or, not_true_eq_false, not_false_eq_true, forall_const, true_implies, false_implies, implies_true, reduceIte, reduceCtorEq, tbk hB, tbx hB, tbn L hB, qt hQ, in5, cl_lit, w, eq_false (Int32.not_lt.mpr g)]
          exact h1 I1 (hF.tr f)
        · rw [if_neg g] at he
          rw [← he] at h1
          refine wk ((fn0_ok l)) ok_41 30 (fun pc => pc == 41) ?_
          simp only [fn0, kk_41, Option.toList_some, Option.toList_none, ex, catS, vC, isMk, sym, popN, goC, callOK, swL, List.map_cons, List.map_nil, List.replicate_zero, List.replicate_succ, List.append_nil, List.nil_append, List.cons_append, List.getElem?_cons_zero, List.getElem?_cons_succ, List.set_cons_zero, List.set_cons_succ, List.length_cons, List.length_nil, List.head?_cons, Nat.reduceAdd, Nat.reduceLT, Nat.reduceLeDiff, Nat.reduceBEq, Nat.reduceEqDiff, Nat.succ_ne_zero, Nat.zero_lt_succ, Nat.le_refl, sc_rows, kc_lit, nc_lit, wlk_rows, uR_s, uR_uR, true_and, and_true, true_or, or_true, false_or, or_false, and_false, false_and, or_self, and_self, if_true, if_false, Bool.false_eq_true, Bool.or_false, Bool.or_true, Bool.false_or, Bool.true_or, not_true_eq_false, not_false_eq_true, forall_const, true_implies, false_implies, implies_true, reduceIte, reduceCtorEq, tbk hB, tbx hB, tbn L hB, qt hQ, in5, cl_lit, w, Int32.not_le.mp g]
          exact h1 I1 (hF.tr f)
  refine run0 (n := 3) mok_41 ⟨rfl, rfl⟩ rfl ?_
  refine wk ((fn0_ok l)) ok_41 40 (fun pc => pc == 41) ?_
  simp only [fn0, kk_41, Option.toList_some, Option.toList_none, ex, catS, vC, isMk, sym, popN, goC, callOK, swL, List.map_cons, List.map_nil, List.replicate_zero, List.replicate_succ, List.append_nil, List.nil_append, List.cons_append, List.getElem?_cons_zero, List.getElem?_cons_succ, List.set_cons_zero, List.set_cons_succ, List.length_cons, List.length_nil, List.head?_cons, Nat.reduceAdd, Nat.reduceLT, Nat.reduceLeDiff, Nat.reduceBEq, Nat.reduceEqDiff, Nat.succ_ne_zero, Nat.zero_lt_succ, Nat.le_refl, sc_rows, kc_lit, nc_lit, wlk_rows, uR_s, uR_uR, true_and, and_true, true_or, or_true, false_or, or_false, and_false, false_and, or_self, and_self, if_true, if_false, Bool.false_eq_true, Bool.or_false, Bool.or_true, Bool.false_or, Bool.true_or, not_true_eq_false, not_false_eq_true, forall_const, true_implies, false_implies, implies_true, reduceIte, reduceCtorEq, tbk hB, tbx hB, tbn L hB, qt hQ, e0, w2, w3, smI (show r < 2147483648 by omega), ltT hr (show k < 2147483648 by omega), ixp (show r < 15 by omega) (by omega)]
  exact loop 240 0 z k m I (by omega) hM hL hC (Fr.rf I B) hV
set_option maxRecDepth 100000 in
theorem c_inLine (hB : TB B) (hQ : QT0 Q B) (hS : QS Q B σ) (hM : MV z n k) (hL : Ln z n m) (hC : CA I B σ z n m k) {i : Nat} (hi : i < n) (h1 : z (tp i 1) = 5 → P (some (.int (-5))) (SC L, I, Q)) (h2 : z (tp i 1) ≠ 5 → ∀ I', Fr I I' B → P (some (.int (LA i 1001 z 0))) (SC L, I', Q)) : Runs l 42 [.ref B, .ref (B + 2 + σ i)] (SC L, I, Q) P := by
  have hn := hM.n.2
  have hs := hS.2.1 i (by omega)
  refine run0 (n := 1) mok_42 ⟨rfl, rfl⟩ rfl ?_
  by_cases g : z (tp i 1) = 5
  · refine wk ((fn0_ok l)) ok_42 30 (fun pc => pc == 13) ?_
    simp only [fn0, kk_42, Option.toList_some, Option.toList_none, ex, catS, vC, isMk, sym, popN, goC, callOK, swL, List.map_cons, List.map_nil, List.replicate_zero, List.replicate_succ, List.append_nil, List.nil_append, List.cons_append, List.getElem?_cons_zero, List.getElem?_cons_succ, List.set_cons_zero, List.set_cons_succ, List.length_cons, List.length_nil, List.head?_cons, Nat.reduceAdd, Nat.reduceLT, Nat.reduceLeDiff, Nat.reduceBEq, Nat.reduceEqDiff, Nat.succ_ne_zero, Nat.zero_lt_succ, Nat.le_refl, sc_rows, kc_lit, nc_lit, wlk_rows, uR_s, uR_uR, true_and, and_true, true_or, or_true, false_or, or_false, and_false, false_and, or_self, and_self, if_true, if_false, Bool.false_eq_true, Bool.or_false, Bool.or_true, Bool.false_or, Bool.true_or, not_true_eq_false, not_false_eq_true, forall_const, true_implies, false_implies, implies_true, reduceIte, reduceCtorEq, tbt hB hs, hC.tx hi, g]
    exact h1 g
  · have h2 := h2 g
    generalize hV : LA i 1001 z 0 = V at h2
    have loop : ∀ d j z0 k0 m0 I0, j + d = 1001 → MV z0 n k0 → Ln z0 n m0 → CA I0 B σ z0 n m0 k0 → Fr I I0 B → LA i d z0 j = V → Sy l 42 (149, 1788) 13 [some (.ref B), some (.ref (B + 2 + σ i)), some (.int (nI j))] [] (SC L, I0, Q) P := by
      intro d
      induction d with
      | zero =>
        intro j z0 k0 m0 I0 hj hM0 hL0 hC0 hF he
        have : j = 1001 := by omega
        subst this
        simp only [LA] at he
        rw [← he] at h2
        refine wk ((fn0_ok l)) ok_42 30 (fun pc => false) ?_
        simp only [fn0, kk_42, Option.toList_some, Option.toList_none, ex, catS, vC, isMk, sym, popN, goC, callOK, swL, List.map_cons, List.map_nil, List.replicate_zero, List.replicate_succ, List.append_nil, List.nil_append, List.cons_append, List.getElem?_cons_zero, List.getElem?_cons_succ, List.set_cons_zero, List.set_cons_succ, List.length_cons, List.length_nil, List.head?_cons, Nat.reduceAdd, Nat.reduceLT, Nat.reduceLeDiff, Nat.reduceBEq, Nat.reduceEqDiff, Nat.succ_ne_zero, Nat.zero_lt_succ, Nat.le_refl, sc_rows, kc_lit, nc_lit, wlk_rows, uR_s, uR_uR, true_and, and_true, true_or, or_true, false_or, or_false, and_false, false_and, or_self, and_self, if_true, if_false, Bool.false_eq_true, Bool.or_false, Bool.or_true, Bool.false_or, Bool.true_or, not_true_eq_false, not_false_eq_true, forall_const, true_implies, false_implies, implies_true, reduceIte, reduceCtorEq, show ((1000 : Int32) < nI 1001) = True by decide, show (nI 1001 ≤ (1000 : Int32)) = False by decide]
        exact h2 I0 hF
      | succ d ih =>
        intro j z0 k0 m0 I0 hj hM0 hL0 hC0 hF he
        have l1 : (nI j ≤ (1000 : Int32)) = True := by rw [show (1000 : Int32) = nI 1000 from rfl]; exact leT (by omega) (by omega)
        have l2 : ((1000 : Int32) < nI j) = False := by rw [show (1000 : Int32) = nI 1000 from rfl]; exact ltF (by omega) (by omega)
        simp only [LA] at he
        by_cases g0 : z0 (tp i 1) = 0
        · rw [if_pos g0] at he
          rw [← he] at h2
          refine wk ((fn0_ok l)) ok_42 30 (fun pc => pc == 13) ?_
          simp only [fn0, kk_42, Option.toList_some, Option.toList_none, ex, catS, vC, isMk, sym, popN, goC, callOK, swL, List.map_cons, List.map_nil, List.replicate_zero, List.replicate_succ, List.append_nil, List.nil_append, List.cons_append, List.getElem?_cons_zero, List.getElem?_cons_succ, List.set_cons_zero, List.set_cons_succ, List.length_cons, List.length_nil, List.head?_cons, Nat.reduceAdd, Nat.reduceLT, Nat.reduceLeDiff, Nat.reduceBEq, Nat.reduceEqDiff, Nat.succ_ne_zero, Nat.zero_lt_succ, Nat.le_refl, sc_rows, kc_lit, nc_lit, wlk_rows, uR_s, uR_uR, true_and, and_true, true_or, or_true, false_or, or_false, and_false, false_and, or_self, and_self, if_true, if_false, Bool.false_eq_true, Bool.or_false, Bool.or_true, Bool.false_or, Bool.true_or, not_true_eq_false, not_false_eq_true, forall_const, true_implies, false_implies, implies_true, reduceIte, reduceCtorEq, l1, l2, tbt hB hs, hC0.tx hi, g0]
          exact h2 I0 hF
        · rw [if_neg g0] at he
          refine wk ((fn0_ok l)) ok_42 30 (fun pc => pc == 13) ?_
          simp only [fn0, kk_42, Option.toList_some, Option.toList_none, ex, catS, vC, isMk, sym, popN, goC, callOK, swL, List.map_cons, List.map_nil, List.replicate_zero, List.replicate_succ, List.append_nil, List.nil_append, List.cons_append, List.getElem?_cons_zero, List.getElem?_cons_succ, List.set_cons_zero, List.set_cons_succ, List.length_cons, List.length_nil, List.head?_cons, Nat.reduceAdd, Nat.reduceLT, Nat.reduceLeDiff, Nat.reduceBEq, Nat.reduceEqDiff, Nat.succ_ne_zero, Nat.zero_lt_succ, Nat.le_refl, sc_rows, kc_lit, nc_lit, wlk_rows, uR_s, uR_uR, true_and, and_true, true_or, or_true, false_or, or_false, and_false, false_and, or_self, and_self, if_true, if_false, Bool.false_eq_true, Bool.or_false, Bool.or_true, Bool.false_or, Bool.true_or, not_true_eq_false, not_false_eq_true, forall_const, true_implies, false_implies, implies_true, reduceIte, reduceCtorEq, l1, l2, tbk hB, tbx hB, tbt hB hs, hC0.tx hi, eq_false g0]
          refine c_mn hB hQ hS hM0 hL0 hC0 (fun I1 k1 m1 a b c f => ?_)
          refine wk ((fn0_ok l)) ok_42 30 (fun pc => pc == 13) ?_
          simp only [fn0, kk_42, Option.toList_some, Option.toList_none, ex, catS, vC, isMk, sym, popN, goC, callOK, swL, List.map_cons, List.map_nil, List.replicate_zero, List.replicate_succ, List.append_nil, List.nil_append, List.cons_append, List.getElem?_cons_zero, List.getElem?_cons_succ, List.set_cons_zero, List.set_cons_succ, List.length_cons, List.length_nil, List.head?_cons, Nat.reduceAdd, Nat.reduceLT, Nat.reduceLeDiff, Nat.reduceBEq, Nat.reduceEqDiff, Nat.succ_ne_zero, Nat.zero_lt_succ, Nat.le_refl, sc_rows, kc_lit, nc_lit, wlk_rows, uR_s, uR_uR, true_and, and_true, true_or, or_true, false_or, or_false, and_false, false_and, or_self, and_self, if_true, if_false, Bool.false_eq_true, Bool.or_false, Bool.or_true, Bool.false_or, Bool.true_or, not_true_eq_false, not_false_eq_true, forall_const, true_implies, false_implies, implies_true, reduceIte, reduceCtorEq, nI_up]
          exact ih (j + 1) _ k1 m1 I1 (by omega) a b c (hF.tr f) he
    refine wk ((fn0_ok l)) ok_42 30 (fun pc => pc == 13) ?_
    simp only [fn0, kk_42, Option.toList_some, Option.toList_none, ex, catS, vC, isMk, sym, popN, goC, callOK, swL, List.map_cons, List.map_nil, List.replicate_zero, List.replicate_succ, List.append_nil, List.nil_append, List.cons_append, List.getElem?_cons_zero, List.getElem?_cons_succ, List.set_cons_zero, List.set_cons_succ, List.length_cons, List.length_nil, List.head?_cons, Nat.reduceAdd, Nat.reduceLT, Nat.reduceLeDiff, Nat.reduceBEq, Nat.reduceEqDiff, Nat.succ_ne_zero, Nat.zero_lt_succ, Nat.le_refl, sc_rows, kc_lit, nc_lit, wlk_rows, uR_s, uR_uR, true_and, and_true, true_or, or_true, false_or, or_false, and_false, false_and, or_self, and_self, if_true, if_false, Bool.false_eq_true, Bool.or_false, Bool.or_true, Bool.false_or, Bool.true_or, not_true_eq_false, not_false_eq_true, forall_const, true_implies, false_implies, implies_true, reduceIte, reduceCtorEq, tbt hB hs, hC.tx hi, eq_false g]
    exact loop 1001 0 z k m I (by omega) hM hL hC (Fr.rf I B) hV
/-- the reference has only asked -/
def RQ (I I' : Nat → Nat → Int32) : Prop := Eq228 (I 150) (I' 150) ∧ (∀ j, j ≠ 10 → j ≠ 11 → j ≠ 13 → j ≠ 14 → I' 149 j = I 149 j) ∧ ∀ p, (p < 149 ∨ p = 152 ∨ p = 153 ∨ p = 154 ∨ 155 < p) → I' p = I p
theorem RQ.rf (I : Nat → Nat → Int32) : RQ I I := ⟨Eq228.rf _, fun _ _ _ _ _ => rfl, fun _ _ => rfl⟩
variable {y : Nat → Int32}
end F3

