/-! states that agree at their 228 places; the reference's past -/
def Eq228 (z z' : Nat → Int32) : Prop := ∀ j, j < 228 → z' j = z j
theorem tp_lt {i u : Nat} (hi : i < 12) (hu : u < 13) : tp i u < 228 := by simp only [tp]; omega
theorem Eq228.rf (z : Nat → Int32) : Eq228 z z := fun _ _ => rfl
theorem Eq228.sy {z z' : Nat → Int32} (h : Eq228 z z') : Eq228 z' z := fun j hj => (h j hj).symm
theorem Eq228.tr {z z' z'' : Nat → Int32} (h : Eq228 z z') (h' : Eq228 z' z'') : Eq228 z z'' := fun j hj => (h' j hj).trans (h j hj)
theorem LnX.cg {z z' : Nat → Int32} {n m x : Nat} (h : LnX z n m x) (e : Eq228 z z') : LnX z' n m x := by
  obtain ⟨a, b, c, d, e1, f, g, i⟩ := h
  have t : ∀ j u, j < n → u < 13 → z' (tp j u) = z (tp j u) := fun j u hj hu => e _ (tp_lt (by omega) hu)
  have ln : ∀ k, k < m → z' (15 + k) = z (15 + k) := fun k hk => e _ (by omega)
  refine ⟨by rw [e 11 (by omega)]; exact a, b, by rw [e 12 (by omega)]; exact c, fun p q hp hq => by rw [t p 0 hp (by omega), t q 0 hq (by omega)]; exact d p q hp hq, fun k hk => ?_, fun p hp hpx hz => ?_, fun k k' hk hk' => by rw [ln k hk, ln k' hk']; exact g k k' hk hk', i⟩
  · obtain ⟨p, p1, p2, p3, p4⟩ := e1 k hk
    exact ⟨p, p1, p2, by rw [t p 0 p1 (by omega), ln k hk]; exact p3, by rw [t p 1 p1 (by omega)]; exact p4⟩
  · rw [t p 1 hp (by omega)] at hz
    obtain ⟨k, k1, k2⟩ := f p hp hpx hz
    exact ⟨k, k1, by rw [t p 0 hp (by omega), ln k k1]; exact k2⟩
theorem MV.cg {z z' : Nat → Int32} {n k : Nat} (h : MV z n k) (e : Eq228 z z') : MV z' n k := by
  obtain ⟨⟨m, hl⟩, ht, hs, hk, hk2, hw⟩ := h
  have hn := hl.2.1
  exact ⟨⟨m, hl.cg e⟩, fun i hi => (ht i hi).same (fun u hu => e _ (tp_lt (by omega) hu)), hs.same (fun k hk => e k (by omega)), by rw [e 13 (by omega)]; exact hk, hk2, fun r hr => by rw [e _ (by omega)]; exact hw r hr⟩
theorem CA.cg {I : Nat → Nat → Int32} {B : Nat} {σ : Nat → Nat} {z z' : Nat → Int32} {n m k : Nat} (h : CA I B σ z n m k) (hn : n ≤ 12) (hm : m ≤ 12) (hk : k ≤ 15) (e : Eq228 z z') : CA I B σ z' n m k :=
  h.same hm hk (fun j u hj hu _ => e _ (tp_lt (by omega) hu)) (fun q hq => e q (by omega))
theorem TH.cg {I : Nat → Nat → Int32} {B : Nat} {σ : Nat → Nat} {z z' : Nat → Int32} (h : TH I B σ z) (e : Eq228 z z') : TH I B σ z' := by
  obtain ⟨n, m, k, a, b, c⟩ := h
  exact ⟨n, m, k, a.cg b.n.2 c.2.2.2.2.2.2.2 b.2.2.2.2.1 e, b.cg e, c.cg e⟩
/-- what else holds of a state: minutes, the clock (c), passengers' numbers (below b) -/
def ML (z : Nat → Int32) (i : Nat) : Prop := z (tp i 2) ≤ 1000 ∧ (z (tp i 1) = 3 → z (tp i 2) ≤ 200)
def EX (z : Nat → Int32) (n k b c : Nat) : Prop := (∀ i, i < n → ML z i) ∧ z 5 = nI c ∧ (∃ a, z 14 = nI a ∧ a ≤ b ∧ ∀ r, r < k → ∃ t q, z (27 + 3 * r + 1) = nI t ∧ t ≤ c ∧ z (27 + 3 * r + 2) = nI q ∧ q < a) ∧ ∀ r r', r < k → r' < k → z (27 + 3 * r + 2) = z (27 + 3 * r' + 2) → r = r'
theorem EX.cg {z z' : Nat → Int32} {n k b c : Nat} (h : EX z n k b c) (hn : n ≤ 12) (hk : k ≤ 15) (e : Eq228 z z') : EX z' n k b c := by
  obtain ⟨h1, h2, ⟨a, a1, a2, a3⟩, h4⟩ := h
  refine ⟨fun i hi => by unfold ML; rw [e _ (tp_lt (i := i) (u := 2) (by omega) (by omega)), e _ (tp_lt (i := i) (u := 1) (by omega) (by omega))]; exact h1 i hi, by rw [e 5 (by omega)]; exact h2, ⟨a, by rw [e 14 (by omega)]; exact a1, a2, fun r hr => ?_⟩, fun r r' hr hr' => by rw [e _ (by omega), e _ (by omega)]; exact h4 r r' hr hr'⟩
  rw [e _ (by omega), e _ (by omega)]
  exact a3 r hr
theorem EX.mono {z : Nat → Int32} {n k b b' c : Nat} (h : EX z n k b c) (hb : b ≤ b') : EX z n k b' c := by
  obtain ⟨h1, h2, ⟨a, a1, a2, a3⟩, h4⟩ := h
  exact ⟨h1, h2, ⟨a, a1, by omega, a3⟩, h4⟩
def XV (z : Nat → Int32) (b : Nat) : Prop := ∃ n k c, MV z n k ∧ EX z n k b c ∧ c ≤ 99999
theorem XV.cg {z z' : Nat → Int32} {b : Nat} (h : XV z b) (e : Eq228 z z') : XV z' b := by
  obtain ⟨n, k, c, a, x, y⟩ := h
  exact ⟨n, k, c, a.cg e, x.cg a.n.2 a.2.2.2.2.1 e, y⟩
theorem XV.mono {z : Nat → Int32} {b b' : Nat} (h : XV z b) (hb : b ≤ b') : XV z b' := by
  obtain ⟨n, k, c, a, x, y⟩ := h
  exact ⟨n, k, c, a, x.mono hb, y⟩
/-- a state of the past -/
def pw (f : Nat → Int32) (i : Nat) : Nat → Int32 := fun j => f (228 * i + j)
theorem pw_rec (f row : Nat → Int32) {a : Nat} (ha : a ≤ 4) : ∀ i, i < aSt a → Eq228 (wSt (pw f) a row i) (pw (recP f row a) i) := by
  intro i hi j hj
  unfold aSt at hi
  unfold wSt recP pw
  by_cases g : a = 4
  · subst g
    simp only [if_true] at hi ⊢
    by_cases q : i = 3
    · subst q
      rw [if_pos rfl]
      simp only [va_cpy]
      rw [if_pos (by omega)]
      exact congrArg row (by omega)
    · rw [if_neg q]
      simp only [va_cpy, shP]
      rw [if_neg (by omega), if_pos (by omega)]
      exact congrArg f (by omega)
  · rw [if_neg g] at hi
    simp only [if_neg g]
    by_cases q : i = a
    · subst q
      rw [if_pos rfl]
      simp only [va_cpy]
      rw [if_pos (by omega)]
      exact congrArg row (by omega)
    · rw [if_neg q]
      have : 228 * i + 228 ≤ 228 * a := by
        have : i + 1 ≤ a := by omega
        omega
      simp only [va_cpy]
      rw [if_neg (by omega)]
theorem cpy_to (f g : Nat → Int32) (s : Nat) : Eq228 (fun j => f (s + j)) (va_cpy f g s 0 228) := by
  intro j hj
  simp only [va_cpy]
  rw [if_pos (by omega)]
  rfl
section D8
variable {l : Launch} {L : Nat} {I : Nat → Nat → Int32} {Q : Nat → Nat → Option Nat} {P : Option Value → PH → Prop}
set_option maxRecDepth 100000 in
theorem r_record (hQ : QM Q) {a : Nat} (ha : a ≤ 4) (e1 : I 149 3 = nI a) (h1 : ∀ I', I' 152 = recP (I 152) (I 150) a → I' 149 = upd (I 149) 3 (nI (aSt a)) → (∀ p, p ≠ 152 → p ≠ 149 → I' p = I p) → P none (SC L, I', Q)) : Runs l 92 [.ref 149] (SC L, I, Q) P := by
  refine run0 (n := 0) mok_92 ⟨rfl, rfl⟩ rfl ?_
  refine wk ((fn0_ok l)) ok_92 10 (fun pc => false) ?_
  simp only [fn0, kk_92, Option.toList_some, Option.toList_none, ex, sym, popN, goC, callOK, swL, List.map_cons, List.map_nil, List.replicate_zero, List.replicate_succ, List.append_nil, List.nil_append, List.cons_append, List.getElem?_cons_zero, List.getElem?_cons_succ, List.set_cons_zero, List.set_cons_succ, List.length_cons, List.length_nil, List.head?_cons, Nat.reduceAdd, Nat.reduceLT, Nat.reduceLeDiff, Nat.reduceBEq, Nat.reduceEqDiff, Nat.succ_ne_zero, Nat.zero_lt_succ, Nat.le_refl, sc_rows, kc_lit, nc_lit, wlk_rows, uR_s, uR_uR, true_and, and_true, true_or, or_true, false_or, or_false, and_false, false_and, or_self, and_self, if_true, if_false, Bool.false_eq_true, Bool.or_false, Bool.or_true, Bool.false_or, Bool.true_or, not_true_eq_false, not_false_eq_true, forall_const, true_implies, false_implies, implies_true, reduceIte, reduceCtorEq, rq L, hQ.1]
  refine r_recordRow hQ (Or.inl rfl) ha e1 (fun I' a1 a2 a3 => ?_)
  refine wk ((fn0_ok l)) ok_92 10 (fun pc => false) ?_
  simp only [fn0, kk_92, Option.toList_some, Option.toList_none, ex, sym, popN, goC, callOK, swL, List.map_cons, List.map_nil, List.replicate_zero, List.replicate_succ, List.append_nil, List.nil_append, List.cons_append, List.getElem?_cons_zero, List.getElem?_cons_succ, List.set_cons_zero, List.set_cons_succ, List.length_cons, List.length_nil, List.head?_cons, Nat.reduceAdd, Nat.reduceLT, Nat.reduceLeDiff, Nat.reduceBEq, Nat.reduceEqDiff, Nat.succ_ne_zero, Nat.zero_lt_succ, Nat.le_refl, sc_rows, kc_lit, nc_lit, wlk_rows, uR_s, uR_uR, true_and, and_true, true_or, or_true, false_or, or_false, and_false, false_and, or_self, and_self, if_true, if_false, Bool.false_eq_true, Bool.or_false, Bool.or_true, Bool.false_or, Bool.true_or, not_true_eq_false, not_false_eq_true, forall_const, true_implies, false_implies, implies_true, reduceIte, reduceCtorEq]
  exact h1 I' a1 a2 a3
set_option maxRecDepth 100000 in
theorem r_undo (hQ : QM Q) {a : Nat} (ha : a ≤ 4) (e1 : I 149 3 = nI a) (h1 : a = 0 → P (some (.int (-5))) (SC L, I, Q)) (h2 : ∀ b, a = b + 1 → P (some (.int (nI b))) (SC L, uR (uR I 149 (upd (I 149) 3 (nI b))) 150 (va_cpy (I 152) (I 150) (228 * b) 0 228), Q)) : Runs l 93 [.ref 149] (SC L, I, Q) P := by
  refine run0 (n := 0) mok_93 ⟨rfl, rfl⟩ rfl ?_
  by_cases g : a = 0
  · subst g
    have e0 : I 149 3 = 0 := e1
    refine wk ((fn0_ok l)) ok_93 10 (fun pc => false) ?_
    simp only [fn0, kk_93, Option.toList_some, Option.toList_none, ex, sym, popN, goC, callOK, swL, List.map_cons, List.map_nil, List.replicate_zero, List.replicate_succ, List.append_nil, List.nil_append, List.cons_append, List.getElem?_cons_zero, List.getElem?_cons_succ, List.set_cons_zero, List.set_cons_succ, List.length_cons, List.length_nil, List.head?_cons, Nat.reduceAdd, Nat.reduceLT, Nat.reduceLeDiff, Nat.reduceBEq, Nat.reduceEqDiff, Nat.succ_ne_zero, Nat.zero_lt_succ, Nat.le_refl, sc_rows, kc_lit, nc_lit, wlk_rows, uR_s, uR_uR, true_and, and_true, true_or, or_true, false_or, or_false, and_false, false_and, or_self, and_self, if_true, if_false, Bool.false_eq_true, Bool.or_false, Bool.or_true, Bool.false_or, Bool.true_or, not_true_eq_false, not_false_eq_true, forall_const, true_implies, false_implies, implies_true, reduceIte, reduceCtorEq, rq L, e0]
    exact h1 rfl
  · obtain ⟨b, rfl⟩ : ∃ b, a = b + 1 := ⟨a - 1, by omega⟩
    have e0 : (nI (b + 1) = 0) = False := by rw [show (0 : Int32) = nI 0 from rfl]; exact eqF (by omega) (by omega) (by omega)
    have u9 : ∀ (f : Nat → Nat → Int32) (g : Nat → Int32), uR f 149 g 152 = f 152 := fun f g => uR_n _ _ (by omega)
    have u8 : ∀ (f : Nat → Nat → Int32) (g : Nat → Int32), uR f 149 g 150 = f 150 := fun f g => uR_n _ _ (by omega)
    have u7 : ∀ (f : Nat → Nat → Int32) (g : Nat → Int32), uR f 150 g 149 = f 149 := fun f g => uR_n _ _ (by omega)
    refine wk ((fn0_ok l)) ok_93 40 (fun pc => false) ?_
    simp only [fn0, kk_93, Option.toList_some, Option.toList_none, ex, sym, popN, goC, callOK, swL, List.map_cons, List.map_nil, List.replicate_zero, List.replicate_succ, List.append_nil, List.nil_append, List.cons_append, List.getElem?_cons_zero, List.getElem?_cons_succ, List.set_cons_zero, List.set_cons_succ, List.length_cons, List.length_nil, List.head?_cons, Nat.reduceAdd, Nat.reduceLT, Nat.reduceLeDiff, Nat.reduceBEq, Nat.reduceEqDiff, Nat.succ_ne_zero, Nat.zero_lt_succ, Nat.le_refl, sc_rows, kc_lit, nc_lit, wlk_rows, uR_s, uR_uR, true_and, and_true, true_or, or_true, false_or, or_false, and_false, false_and, or_self, and_self, if_true, if_false, Bool.false_eq_true, Bool.or_false, Bool.or_true, Bool.false_or, Bool.true_or, not_true_eq_false, not_false_eq_true, forall_const, true_implies, false_implies, implies_true, reduceIte, reduceCtorEq, rq L, hQ.1, hQ.2.2.1, e1, e0, (nI_dn (show 0 < b + 1 by omega)).2, Nat.add_sub_cancel, upd_e, nI_m228]
    refine r_copyState (p := 152) (q := 150) (s := 228 * b) (d := 0) ⟨rfl, by omega⟩ ⟨rfl, by omega⟩ (by omega) (by rw [(rq L).2.2.2.2.2.2.2.1]; omega) (by rw [(rq L).2.2.2.2.2.1]; omega) (by rw [(rq L).2.2.2.2.2.2.2.1]; omega) (by rw [(rq L).2.2.2.2.2.1]; omega) ?_
    refine wk ((fn0_ok l)) ok_93 40 (fun pc => false) ?_
    simp only [fn0, kk_93, Option.toList_some, Option.toList_none, ex, sym, popN, goC, callOK, swL, List.map_cons, List.map_nil, List.replicate_zero, List.replicate_succ, List.append_nil, List.nil_append, List.cons_append, List.getElem?_cons_zero, List.getElem?_cons_succ, List.set_cons_zero, List.set_cons_succ, List.length_cons, List.length_nil, List.head?_cons, Nat.reduceAdd, Nat.reduceLT, Nat.reduceLeDiff, Nat.reduceBEq, Nat.reduceEqDiff, Nat.succ_ne_zero, Nat.zero_lt_succ, Nat.le_refl, sc_rows, kc_lit, nc_lit, wlk_rows, uR_s, uR_uR, true_and, and_true, true_or, or_true, false_or, or_false, and_false, false_and, or_self, and_self, if_true, if_false, Bool.false_eq_true, Bool.or_false, Bool.or_true, Bool.false_or, Bool.true_or, not_true_eq_false, not_false_eq_true, forall_const, true_implies, false_implies, implies_true, reduceIte, reduceCtorEq, rq L, u9, u8, u7, upd_e]
    exact h2 b rfl
set_option maxRecDepth 100000 in
theorem r_keep (hQ : QM Q) (h1 : P (some (.int (I 150 5))) (SC L, uR (uR I 153 (va_cpy (I 150) (I 153) 0 0 228)) 149 (upd (I 149) 5 1), Q)) : Runs l 94 [.ref 149] (SC L, I, Q) P := by
  refine run0 (n := 0) mok_94 ⟨rfl, rfl⟩ rfl ?_
  have u9 : ∀ (f : Nat → Nat → Int32) (g : Nat → Int32), uR f 153 g 149 = f 149 := fun f g => uR_n _ _ (by omega)
  have u8 : ∀ (f : Nat → Nat → Int32) (g : Nat → Int32), uR f 153 g 150 = f 150 := fun f g => uR_n _ _ (by omega)
  have u7 : ∀ (f : Nat → Nat → Int32) (g : Nat → Int32), uR f 149 g 150 = f 150 := fun f g => uR_n _ _ (by omega)
  refine wk ((fn0_ok l)) ok_94 40 (fun pc => false) ?_
  simp only [fn0, kk_94, Option.toList_some, Option.toList_none, ex, sym, popN, goC, callOK, swL, List.map_cons, List.map_nil, List.replicate_zero, List.replicate_succ, List.append_nil, List.nil_append, List.cons_append, List.getElem?_cons_zero, List.getElem?_cons_succ, List.set_cons_zero, List.set_cons_succ, List.length_cons, List.length_nil, List.head?_cons, Nat.reduceAdd, Nat.reduceLT, Nat.reduceLeDiff, Nat.reduceBEq, Nat.reduceEqDiff, Nat.succ_ne_zero, Nat.zero_lt_succ, Nat.le_refl, sc_rows, kc_lit, nc_lit, wlk_rows, uR_s, uR_uR, true_and, and_true, true_or, or_true, false_or, or_false, and_false, false_and, or_self, and_self, if_true, if_false, Bool.false_eq_true, Bool.or_false, Bool.or_true, Bool.false_or, Bool.true_or, not_true_eq_false, not_false_eq_true, forall_const, true_implies, false_implies, implies_true, reduceIte, reduceCtorEq, rq L, hQ.1, hQ.2.2.2.1]
  refine r_copyState (p := 150) (q := 153) (s := 0) (d := 0) ⟨rfl, by omega⟩ ⟨rfl, by omega⟩ (by omega) (by rw [(rq L).2.2.2.2.2.1]; omega) (by rw [(rq L).2.2.2.2.2.2.2.2]; omega) (by rw [(rq L).2.2.2.2.2.1]; omega) (by rw [(rq L).2.2.2.2.2.2.2.2]; omega) ?_
  refine wk ((fn0_ok l)) ok_94 40 (fun pc => false) ?_
  simp only [fn0, kk_94, Option.toList_some, Option.toList_none, ex, sym, popN, goC, callOK, swL, List.map_cons, List.map_nil, List.replicate_zero, List.replicate_succ, List.append_nil, List.nil_append, List.cons_append, List.getElem?_cons_zero, List.getElem?_cons_succ, List.set_cons_zero, List.set_cons_succ, List.length_cons, List.length_nil, List.head?_cons, Nat.reduceAdd, Nat.reduceLT, Nat.reduceLeDiff, Nat.reduceBEq, Nat.reduceEqDiff, Nat.succ_ne_zero, Nat.zero_lt_succ, Nat.le_refl, sc_rows, kc_lit, nc_lit, wlk_rows, uR_s, uR_uR, true_and, and_true, true_or, or_true, false_or, or_false, and_false, false_and, or_self, and_self, if_true, if_false, Bool.false_eq_true, Bool.or_false, Bool.or_true, Bool.false_or, Bool.true_or, not_true_eq_false, not_false_eq_true, forall_const, true_implies, false_implies, implies_true, reduceIte, reduceCtorEq, rq L, hQ.1, u9, u8, u7, in_lit, cl_lit, or_true]
  exact h1
set_option maxRecDepth 100000 in
theorem r_restore (hQ : QM Q) {a : Nat} (ha : a ≤ 4) (e1 : I 149 3 = nI a) (h1 : I 149 5 = 0 → P (some (.int (-5))) (SC L, I, Q)) (h2 : I 149 5 ≠ 0 → ∀ I', I' 152 = recP (I 152) (I 150) a → I' 149 = upd (I 149) 3 (nI (aSt a)) → I' 150 = va_cpy (I 153) (I 150) 0 0 228 → (∀ p, p ≠ 150 → p ≠ 152 → p ≠ 149 → I' p = I p) → P (some (.int (I 153 5))) (SC L, I', Q)) : Runs l 95 [.ref 149] (SC L, I, Q) P := by
  refine run0 (n := 0) mok_95 ⟨rfl, rfl⟩ rfl ?_
  by_cases g : I 149 5 = 0
  · refine wk ((fn0_ok l)) ok_95 10 (fun pc => false) ?_
    simp only [fn0, kk_95, Option.toList_some, Option.toList_none, ex, sym, popN, goC, callOK, swL, List.map_cons, List.map_nil, List.replicate_zero, List.replicate_succ, List.append_nil, List.nil_append, List.cons_append, List.getElem?_cons_zero, List.getElem?_cons_succ, List.set_cons_zero, List.set_cons_succ, List.length_cons, List.length_nil, List.head?_cons, Nat.reduceAdd, Nat.reduceLT, Nat.reduceLeDiff, Nat.reduceBEq, Nat.reduceEqDiff, Nat.succ_ne_zero, Nat.zero_lt_succ, Nat.le_refl, sc_rows, kc_lit, nc_lit, wlk_rows, uR_s, uR_uR, true_and, and_true, true_or, or_true, false_or, or_false, and_false, false_and, or_self, and_self, if_true, if_false, Bool.false_eq_true, Bool.or_false, Bool.or_true, Bool.false_or, Bool.true_or, not_true_eq_false, not_false_eq_true, forall_const, true_implies, false_implies, implies_true, reduceIte, reduceCtorEq, rq L, g]
    exact h1 g
  · refine wk ((fn0_ok l)) ok_95 40 (fun pc => false) ?_
    simp only [fn0, kk_95, Option.toList_some, Option.toList_none, ex, sym, popN, goC, callOK, swL, List.map_cons, List.map_nil, List.replicate_zero, List.replicate_succ, List.append_nil, List.nil_append, List.cons_append, List.getElem?_cons_zero, List.getElem?_cons_succ, List.set_cons_zero, List.set_cons_succ, List.length_cons, List.length_nil, List.head?_cons, Nat.reduceAdd, Nat.reduceLT, Nat.reduceLeDiff, Nat.reduceBEq, Nat.reduceEqDiff, Nat.succ_ne_zero, Nat.zero_lt_succ, Nat.le_refl, sc_rows, kc_lit, nc_lit, wlk_rows, uR_s, uR_uR, true_and, and_true, true_or, or_true, false_or, or_false, and_false, false_and, or_self, and_self, if_true, if_false, Bool.false_eq_true, Bool.or_false, Bool.or_true, Bool.false_or, Bool.true_or, not_true_eq_false, not_false_eq_true, forall_const, true_implies, false_implies, implies_true, reduceIte, reduceCtorEq, rq L, g]
    refine r_record hQ ha e1 (fun I' a1 a2 a3 => ?_)
    refine wk ((fn0_ok l)) ok_95 40 (fun pc => false) ?_
    simp only [fn0, kk_95, Option.toList_some, Option.toList_none, ex, sym, popN, goC, callOK, swL, List.map_cons, List.map_nil, List.replicate_zero, List.replicate_succ, List.append_nil, List.nil_append, List.cons_append, List.getElem?_cons_zero, List.getElem?_cons_succ, List.set_cons_zero, List.set_cons_succ, List.length_cons, List.length_nil, List.head?_cons, Nat.reduceAdd, Nat.reduceLT, Nat.reduceLeDiff, Nat.reduceBEq, Nat.reduceEqDiff, Nat.succ_ne_zero, Nat.zero_lt_succ, Nat.le_refl, sc_rows, kc_lit, nc_lit, wlk_rows, uR_s, uR_uR, true_and, and_true, true_or, or_true, false_or, or_false, and_false, false_and, or_self, and_self, if_true, if_false, Bool.false_eq_true, Bool.or_false, Bool.or_true, Bool.false_or, Bool.true_or, not_true_eq_false, not_false_eq_true, forall_const, true_implies, false_implies, implies_true, reduceIte, reduceCtorEq, rq L, hQ.1, hQ.2.2.2.1]
    refine r_copyState (p := 153) (q := 150) (s := 0) (d := 0) ⟨rfl, by omega⟩ ⟨rfl, by omega⟩ (by omega) (by rw [(rq L).2.2.2.2.2.2.2.2]; omega) (by rw [(rq L).2.2.2.2.2.1]; omega) (by rw [(rq L).2.2.2.2.2.2.2.2]; omega) (by rw [(rq L).2.2.2.2.2.1]; omega) ?_
    have e5 : va_cpy (I 153) (I 150) 0 0 228 5 = I 153 5 := rfl
    refine wk ((fn0_ok l)) ok_95 40 (fun pc => false) ?_
    simp only [fn0, kk_95, Option.toList_some, Option.toList_none, ex, sym, popN, goC, callOK, swL, List.map_cons, List.map_nil, List.replicate_zero, List.replicate_succ, List.append_nil, List.nil_append, List.cons_append, List.getElem?_cons_zero, List.getElem?_cons_succ, List.set_cons_zero, List.set_cons_succ, List.length_cons, List.length_nil, List.head?_cons, Nat.reduceAdd, Nat.reduceLT, Nat.reduceLeDiff, Nat.reduceBEq, Nat.reduceEqDiff, Nat.succ_ne_zero, Nat.zero_lt_succ, Nat.le_refl, sc_rows, kc_lit, nc_lit, wlk_rows, uR_s, uR_uR, true_and, and_true, true_or, or_true, false_or, or_false, and_false, false_and, or_self, and_self, if_true, if_false, Bool.false_eq_true, Bool.or_false, Bool.or_true, Bool.false_or, Bool.true_or, not_true_eq_false, not_false_eq_true, forall_const, true_implies, false_implies, implies_true, reduceIte, reduceCtorEq, rq L, hQ.1, in_lit, cl_lit, a3 153 (by omega) (by omega), a3 150 (by omega) (by omega), e5]
    refine h2 g _ ?_ ?_ ?_ (fun p q1 q2 q3 => ?_)
    · rw [uR_n _ _ (by omega)]; exact a1
    · rw [uR_n _ _ (by omega)]; exact a2
    · rw [uR_s]
    · rw [uR_n _ _ q1]; exact a3 p q2 q3
end D8
