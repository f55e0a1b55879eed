/-! p27: the law's loop -/
theorem wSt_top (w : Nat → Nat → Int32) {a a' : Nat} (z : Nat → Int32) (ha : a ≤ 4) (e : aSt a = a' + 1) : wSt w a z a' = z := by
  unfold aSt at e
  unfold wSt
  by_cases g : a = 4
  · rw [if_pos g] at e ⊢
    show (if a' = 3 then z else w (a' + 1)) = z
    rw [if_pos (by omega)]
  · rw [if_neg g] at e ⊢
    show (if a' = a then z else w a') = z
    rw [if_pos (by omega)]
/-- the snapshot -/
def SNP (I : Nat → Nat → Int32) (τ : Nat → Nat → Nat) (zk : Nat → Int32) (n1 m1 k1 N : Nat) : Prop := I 0 3 = 1 ∧ CA I 41 (τ 41) zk n1 m1 k1 ∧ MV zk n1 k1 ∧ Ln zk n1 m1 ∧ XZ zk n1 k1 N
theorem SNP.fl {I I' : Nat → Nat → Int32} {τ τ' : Nat → Nat → Nat} {zk : Nat → Int32} {n1 m1 k1 N N' : Nat} (h : SNP I τ zk n1 m1 k1 N) (hs : ∀ i, i < 12 → τ 41 i < 12) (f : FL I I') (ft : τ' 41 = τ 41) (hN : N ≤ N') : SNP I' τ' zk n1 m1 k1 N' := by
  obtain ⟨a, b, c, d, e⟩ := h
  exact ⟨by rw [f.1]; exact a, by rw [ft]; exact b.fr hs c.n.2 (fun p p1 p2 => f.2 p (by omega)), c, d, e.mono hN⟩
section LLW
variable {l : Launch} {L : Nat} {I : Nat → Nat → Int32} {Q : Nat → Nat → Option Nat} {P : Option Value → PH → Prop} {τ : Nat → Nat → Nat} {b : Nat → Nat} {z : Nat → Int32} {w : Nat → Nat → Int32} {a n m k i : Nat} {zk : Nat → Int32} {n1 m1 k1 : Nat}
theorem CT.s41 (h : CT I Q τ b z w a n m k) : ∀ i, i < 12 → τ 41 i < 12 := (h.1.1 41 tb1.2.2).2.2.1
theorem and31 (x : Int32) : ∃ j : Nat, j < 2147483648 ∧ x &&& 2147483647 = nI j := pk_andE x 31 (by decide)
theorem kS' (L : Nat) : KC 1003 = 11 ∧ NC L 1003 = L := ⟨rfl, rfl⟩
set_option maxRecDepth 100000 in
/-- a number of the script, or one made up behind its end -/
theorem l_cell (hL : L ≤ 260) (hi : i < 1000) (h1 : ∀ x, x < 2147483648 → P (some (.int (nI x))) (SC L, I, Q)) : Runs l 81 [.ref 1003, .int (nI i)] (SC L, I, Q) P := by
  refine run0 (n := 0) mok_81 ⟨rfl, rfl⟩ rfl ?_
  have el : Int32.ofNat L = nI L := rfl
  by_cases g : i < L
  · have e1 := leF g (show L < 2147483648 by omega)
    obtain ⟨j, hj, ej⟩ := and31 (I 1003 i)
    refine wk2 (fn0_ok l) ok_81 40 (fun pc => false) ?_
    simp only [kk_81, Option.toList_some, Option.toList_none, ex2, ex, catS, vC, isMk, sym2, popN, goC, callOK, swL, List.map_cons, List.map_nil, List.replicate_zero, List.replicate_succ, List.append_nil, List.nil_append, List.cons_append, List.getElem?_cons_zero, List.getElem?_cons_succ, List.set_cons_zero, List.set_cons_succ, List.length_cons, List.length_nil, List.head?_cons, Nat.reduceAdd, Nat.reduceLT, Nat.reduceLeDiff, Nat.reduceBEq, Nat.reduceEqDiff, Nat.succ_ne_zero, Nat.zero_lt_succ, Nat.le_refl, sc_rows, kc_lit, nc_lit, wlk_rows, uR_s, uR_uR, true_and, and_true, true_or, or_true, false_or, or_false, and_false, false_and, or_self, and_self, if_true, if_false, Bool.false_eq_true, Bool.or_false, Bool.or_true, Bool.false_or, Bool.true_or, not_true_eq_false, not_false_eq_true, forall_const, true_implies, false_implies, implies_true, ↓reduceIte, reduceCtorEq, fn0, eq_self, kS' L, el, e1, ixp g (show L < 2147483648 by omega), ej]
    exact h1 j hj
  · have e1 := leT (show L ≤ i by omega) (show i < 2147483648 by omega)
    obtain ⟨j, hj, ej⟩ := and31 (843314857 * (nI i + 79) + 17011)
    refine wk2 (fn0_ok l) ok_81 40 (fun pc => false) ?_
    simp only [kk_81, Option.toList_some, Option.toList_none, ex2, ex, catS, vC, isMk, sym2, popN, goC, callOK, swL, List.map_cons, List.map_nil, List.replicate_zero, List.replicate_succ, List.append_nil, List.nil_append, List.cons_append, List.getElem?_cons_zero, List.getElem?_cons_succ, List.set_cons_zero, List.set_cons_succ, List.length_cons, List.length_nil, List.head?_cons, Nat.reduceAdd, Nat.reduceLT, Nat.reduceLeDiff, Nat.reduceBEq, Nat.reduceEqDiff, Nat.succ_ne_zero, Nat.zero_lt_succ, Nat.le_refl, sc_rows, kc_lit, nc_lit, wlk_rows, uR_s, uR_uR, true_and, and_true, true_or, or_true, false_or, or_false, and_false, false_and, or_self, and_self, if_true, if_false, Bool.false_eq_true, Bool.or_false, Bool.or_true, Bool.false_or, Bool.true_or, not_true_eq_false, not_false_eq_true, forall_const, true_implies, false_implies, implies_true, ↓reduceIte, reduceCtorEq, fn0, eq_self, kS' L, el, e1, ej]
    exact h1 j hj
/-- the loop's head at i -/
def LH (l : Launch) (L i : Nat) (P : Option Value → PH → Prop) : Prop := ∀ (I : Nat → Nat → Int32) (Q : Nat → Nat → Option Nat) (τ : Nat → Nat → Nat) (b : Nat → Nat) (z : Nat → Int32) (w : Nat → Nat → Int32) (a n m k : Nat) (zk : Nat → Int32) (n1 m1 k1 : Nat) (g7 g8 g9 g10 g11 g12 g13 g14 g15 : Option Value), CT I Q τ b z w a n m k → TXI I → XZ z n k i → SNP I τ zk n1 m1 k1 i → Sy l 91 (149, 1788) 121 [some (.ref 1003), some (.ref 0), some (.int 1), some (.long (sv zk n1 m1 k1)), some (.double 0), some (.int (zk 5)), some (.int (nI i)), g7, g8, g9, g10, g11, g12, g13, g14, g15] [] (SC L, I, Q) P
set_option maxHeartbeats 1000000 in
set_option maxRecDepth 100000 in
/-- every fourteenth time the snapshot comes back, is undone, and is taken anew -/
theorem l_lawD (hn : LH l L (i + 1) P) (hi : i < 70) (h : CT I Q τ b z w a n m k) (hT : TXI I) (hX : XZ z n k (i + 1)) (hS : SNP I τ zk n1 m1 k1 (i + 1)) (g7 g8 g9 g10 g11 g12 g13 g14 g15 : Option Value) : Sy l 91 (149, 1788) 310 [some (.ref 1003), some (.ref 0), some (.int 1), some (.long (sv zk n1 m1 k1)), some (.double 0), some (.int (zk 5)), some (.int (nI i)), g7, g8, g9, g10, g11, g12, g13, g14, g15] [] (SC L, I, Q) P := by
  have e14 : nI i - nI i / 14 * 14 = nI (i % 14) := rem_nI (d := 14) (by omega) (by omega) (by omega)
  have n14 : ((14 : Int32) = 0) = False := by decide
  by_cases g : i % 14 = 13
  · have e13 : (nI (i % 14) = 13) = True := by rw [g]; decide
    obtain ⟨s1, s2, s3, s4, s5⟩ := id hS
    have hR := fR_ok (l := l) (L := L) h hT.1
    have ha := h.2.2.2.1
    obtain ⟨c, hE, hcb, -⟩ := id s5
    obtain ⟨a', ea⟩ : ∃ a', aSt a = a' + 1 := by
      unfold aSt
      by_cases q : a = 4
      · exact ⟨3, by rw [if_pos q]⟩
      · exact ⟨a, by rw [if_neg q]⟩
    refine wk2 (fn0_ok l) ok_91 20 (fun pc => false) ?_
    simp only [kk_91, Option.toList_some, Option.toList_none, ex2, ex, catS, vC, isMk, sym2, popN, goC, callOK, swL, List.map_cons, List.map_nil, List.replicate_zero, List.replicate_succ, List.append_nil, List.nil_append, List.cons_append, List.getElem?_cons_zero, List.getElem?_cons_succ, List.set_cons_zero, List.set_cons_succ, List.length_cons, List.length_nil, List.head?_cons, Nat.reduceAdd, Nat.reduceLT, Nat.reduceLeDiff, Nat.reduceBEq, Nat.reduceEqDiff, Nat.succ_ne_zero, Nat.zero_lt_succ, Nat.le_refl, sc_rows, kc_lit, nc_lit, wlk_rows, uR_s, uR_uR, true_and, and_true, true_or, or_true, false_or, or_false, and_false, false_and, or_self, and_self, if_true, if_false, Bool.false_eq_true, Bool.or_false, Bool.or_true, Bool.false_or, Bool.true_or, not_true_eq_false, not_false_eq_true, forall_const, true_implies, false_implies, implies_true, ↓reduceIte, reduceCtorEq, fn0, eq_self, e14, e13, n14, nz_lit, k0 L]
    refine l_seen h hT.1 ?_
    refine wk2 hR ok_91 20 (fun pc => false) ?_
    simp only [kk_91, Option.toList_some, Option.toList_none, ex2, ex, catS, vC, isMk, sym2, popN, goC, callOK, swL, List.map_cons, List.map_nil, List.replicate_zero, List.replicate_succ, List.append_nil, List.nil_append, List.cons_append, List.getElem?_cons_zero, List.getElem?_cons_succ, List.set_cons_zero, List.set_cons_succ, List.length_cons, List.length_nil, List.head?_cons, Nat.reduceAdd, Nat.reduceLT, Nat.reduceLeDiff, Nat.reduceBEq, Nat.reduceEqDiff, Nat.succ_ne_zero, Nat.zero_lt_succ, Nat.le_refl, sc_rows, kc_lit, nc_lit, wlk_rows, uR_s, uR_uR, true_and, and_true, true_or, or_true, false_or, or_false, and_false, false_and, or_self, and_self, if_true, if_false, Bool.false_eq_true, Bool.or_false, Bool.or_true, Bool.false_or, Bool.true_or, not_true_eq_false, not_false_eq_true, forall_const, true_implies, false_implies, implies_true, ↓reduceIte, reduceCtorEq, fR, rd1, rd2, rd3, eq_self, ansCo_s, k0 L]
    refine m_restore h (fun _ => ⟨s2, s3, s4, by rw [hE.2.1]; exact nI_pos (by omega)⟩) (fun q => absurd q (by rw [s1]; decide)) (fun _ J Q2 b2' n2 m2 k2 g1 q1 => ?_)
    obtain ⟨x1, x2, x3⟩ := g1.nm s3 s4
    subst x1 x2 x3
    have t1 := hT.fl (FL.of q1)
    have u1 := hS.fl (τ' := τ) h.s41 (FL.of q1) rfl (Nat.le_refl _)
    refine wk2 (fn0_ok l) ok_91 20 (fun pc => false) ?_
    simp only [kk_91, Option.toList_some, Option.toList_none, ex2, ex, catS, vC, isMk, sym2, popN, goC, callOK, swL, List.map_cons, List.map_nil, List.replicate_zero, List.replicate_succ, List.append_nil, List.nil_append, List.cons_append, List.getElem?_cons_zero, List.getElem?_cons_succ, List.set_cons_zero, List.set_cons_succ, List.length_cons, List.length_nil, List.head?_cons, Nat.reduceAdd, Nat.reduceLT, Nat.reduceLeDiff, Nat.reduceBEq, Nat.reduceEqDiff, Nat.succ_ne_zero, Nat.zero_lt_succ, Nat.le_refl, sc_rows, kc_lit, nc_lit, wlk_rows, uR_s, uR_uR, true_and, and_true, true_or, or_true, false_or, or_false, and_false, false_and, or_self, and_self, if_true, if_false, Bool.false_eq_true, Bool.or_false, Bool.or_true, Bool.false_or, Bool.true_or, not_true_eq_false, not_false_eq_true, forall_const, true_implies, false_implies, implies_true, ↓reduceIte, reduceCtorEq, fn0, eq_self, k0 L]
    refine l_seen g1 t1.1 ?_
    refine wk2 (fn0_ok l) ok_91 20 (fun pc => false) ?_
    simp only [kk_91, Option.toList_some, Option.toList_none, ex2, ex, catS, vC, isMk, sym2, popN, goC, callOK, swL, List.map_cons, List.map_nil, List.replicate_zero, List.replicate_succ, List.append_nil, List.nil_append, List.cons_append, List.getElem?_cons_zero, List.getElem?_cons_succ, List.set_cons_zero, List.set_cons_succ, List.length_cons, List.length_nil, List.head?_cons, Nat.reduceAdd, Nat.reduceLT, Nat.reduceLeDiff, Nat.reduceBEq, Nat.reduceEqDiff, Nat.succ_ne_zero, Nat.zero_lt_succ, Nat.le_refl, sc_rows, kc_lit, nc_lit, wlk_rows, uR_s, uR_uR, true_and, and_true, true_or, or_true, false_or, or_false, and_false, false_and, or_self, and_self, if_true, if_false, Bool.false_eq_true, Bool.or_false, Bool.or_true, Bool.false_or, Bool.true_or, not_true_eq_false, not_false_eq_true, forall_const, true_implies, false_implies, implies_true, ↓reduceIte, reduceCtorEq, fn0, eq_self, lg_rf, k0 L]
    refine m_undo g1 (fun q => absurd q (by rw [ea]; omega)) (fun a2 e2 J2 n3 m3 k3 g2 q2 => ?_)
    rw [wSt_top w z ha e2] at g2
    obtain ⟨x1, x2, x3⟩ := g2.nm h.2.1.2.1 h.2.1.2.2
    subst x1 x2 x3
    have t2 := t1.fl (FL.of q2)
    have nn := nI_lt0 (show a2 < 2147483648 by unfold aSt at e2; split at e2 <;> omega)
    refine wk2 (fn0_ok l) ok_91 20 (fun pc => false) ?_
    simp only [kk_91, Option.toList_some, Option.toList_none, ex2, ex, catS, vC, isMk, sym2, popN, goC, callOK, swL, List.map_cons, List.map_nil, List.replicate_zero, List.replicate_succ, List.append_nil, List.nil_append, List.cons_append, List.getElem?_cons_zero, List.getElem?_cons_succ, List.set_cons_zero, List.set_cons_succ, List.length_cons, List.length_nil, List.head?_cons, Nat.reduceAdd, Nat.reduceLT, Nat.reduceLeDiff, Nat.reduceBEq, Nat.reduceEqDiff, Nat.succ_ne_zero, Nat.zero_lt_succ, Nat.le_refl, sc_rows, kc_lit, nc_lit, wlk_rows, uR_s, uR_uR, true_and, and_true, true_or, or_true, false_or, or_false, and_false, false_and, or_self, and_self, if_true, if_false, Bool.false_eq_true, Bool.or_false, Bool.or_true, Bool.false_or, Bool.true_or, not_true_eq_false, not_false_eq_true, forall_const, true_implies, false_implies, implies_true, ↓reduceIte, reduceCtorEq, fn0, eq_self, nn, k0 L]
    refine l_seen g2 t2.1 ?_
    refine wk2 (fn0_ok l) ok_91 20 (fun pc => false) ?_
    simp only [kk_91, Option.toList_some, Option.toList_none, ex2, ex, catS, vC, isMk, sym2, popN, goC, callOK, swL, List.map_cons, List.map_nil, List.replicate_zero, List.replicate_succ, List.append_nil, List.nil_append, List.cons_append, List.getElem?_cons_zero, List.getElem?_cons_succ, List.set_cons_zero, List.set_cons_succ, List.length_cons, List.length_nil, List.head?_cons, Nat.reduceAdd, Nat.reduceLT, Nat.reduceLeDiff, Nat.reduceBEq, Nat.reduceEqDiff, Nat.succ_ne_zero, Nat.zero_lt_succ, Nat.le_refl, sc_rows, kc_lit, nc_lit, wlk_rows, uR_s, uR_uR, true_and, and_true, true_or, or_true, false_or, or_false, and_false, false_and, or_self, and_self, if_true, if_false, Bool.false_eq_true, Bool.or_false, Bool.or_true, Bool.false_or, Bool.true_or, not_true_eq_false, not_false_eq_true, forall_const, true_implies, false_implies, implies_true, ↓reduceIte, reduceCtorEq, fn0, eq_self, lg_rf, k0 L]
    refine m_keep g2 (fun J3 g3 g4 g5 g6 => ?_)
    have t3 : TXI J3 := ⟨by rw [g5, upd_n _ _ (by omega)]; exact t2.1, fun j => by rw [g6 143 (by omega)]; exact t2.2.1 j, fun j hj => by rw [g6 1000 (by omega), g6 1001 (by omega)]; exact t2.2.2 j hj⟩
    refine wk2 (fn0_ok l) ok_91 30 (fun pc => pc == 121) ?_
    simp only [kk_91, Option.toList_some, Option.toList_none, ex2, ex, catS, vC, isMk, sym2, popN, goC, callOK, swL, List.map_cons, List.map_nil, List.replicate_zero, List.replicate_succ, List.append_nil, List.nil_append, List.cons_append, List.getElem?_cons_zero, List.getElem?_cons_succ, List.set_cons_zero, List.set_cons_succ, List.length_cons, List.length_nil, List.head?_cons, Nat.reduceAdd, Nat.reduceLT, Nat.reduceLeDiff, Nat.reduceBEq, Nat.reduceEqDiff, Nat.succ_ne_zero, Nat.zero_lt_succ, Nat.le_refl, sc_rows, kc_lit, nc_lit, wlk_rows, uR_s, uR_uR, true_and, and_true, true_or, or_true, false_or, or_false, and_false, false_and, or_self, and_self, if_true, if_false, Bool.false_eq_true, Bool.or_false, Bool.or_true, Bool.false_or, Bool.true_or, not_true_eq_false, not_false_eq_true, forall_const, true_implies, false_implies, implies_true, ↓reduceIte, reduceCtorEq, fn0, eq_self, nI_up, nz_lit, k0 L]
    exact hn J3 Q2 τ b2' z (wSt w a z) a2 n3 m3 k3 z n3 m3 k3 _ _ _ _ _ _ _ _ _ g3 t3 hX ⟨by rw [g5, upd_e], g4, h.2.1.2.1, h.2.1.2.2, hX⟩
  · have e13 : (nI (i % 14) = 13) = False := eqF (b := 13) g (by omega) (by omega)
    refine wk2 (fn0_ok l) ok_91 30 (fun pc => pc == 121) ?_
    simp only [kk_91, Option.toList_some, Option.toList_none, ex2, ex, catS, vC, isMk, sym2, popN, goC, callOK, swL, List.map_cons, List.map_nil, List.replicate_zero, List.replicate_succ, List.append_nil, List.nil_append, List.cons_append, List.getElem?_cons_zero, List.getElem?_cons_succ, List.set_cons_zero, List.set_cons_succ, List.length_cons, List.length_nil, List.head?_cons, Nat.reduceAdd, Nat.reduceLT, Nat.reduceLeDiff, Nat.reduceBEq, Nat.reduceEqDiff, Nat.succ_ne_zero, Nat.zero_lt_succ, Nat.le_refl, sc_rows, kc_lit, nc_lit, wlk_rows, uR_s, uR_uR, true_and, and_true, true_or, or_true, false_or, or_false, and_false, false_and, or_self, and_self, if_true, if_false, Bool.false_eq_true, Bool.or_false, Bool.or_true, Bool.false_or, Bool.true_or, not_true_eq_false, not_false_eq_true, forall_const, true_implies, false_implies, implies_true, ↓reduceIte, reduceCtorEq, fn0, eq_self, e14, e13, n14, nI_up, nz_lit, k0 L]
    exact hn I Q τ b z w a n m k zk n1 m1 k1 _ _ _ _ _ _ _ _ _ h hT hX hS
set_option maxHeartbeats 1000000 in
set_option maxRecDepth 100000 in
/-- behind an act: the sums, and now and then what is refused -/
theorem l_lawB {x : Nat} (hx : x < 2147483648) (hi : i < 70) (h : CT I Q τ b z w a n m k) (hT : TXI I) (hX : XZ z n k (i + 1)) (v3 v4 v5 v8 v9 v10 v11 v12 v13 v14 v15 : Option Value) (h1 : ∀ I' Q', CT I' Q' τ b z w a n m k → FL I I' → Sy l 91 (149, 1788) 256 [some (.ref 1003), some (.ref 0), some (.int 1), v3, v4, v5, some (.int (nI i)), some (.int (nI x)), v8, v9, v10, v11, v12, v13, v14, v15] [] (SC L, I', Q') P) : Sy l 91 (149, 1788) 221 [some (.ref 1003), some (.ref 0), some (.int 1), v3, v4, v5, some (.int (nI i)), some (.int (nI x)), v8, v9, v10, v11, v12, v13, v14, v15] [] (SC L, I, Q) P := by
  obtain ⟨c, hE, hc, hW, hC⟩ := id hX
  have e7 : nI i - nI i / 7 * 7 = nI (i % 7) := rem_nI (d := 7) (by omega) (by omega) (by omega)
  have d7 : nI x / 7 = nI (x / 7) := div_nI (d := 7) hx (by omega) (by omega)
  refine wk2 (fn0_ok l) ok_91 5 (fun pc => false) ?_
  simp only [kk_91, Option.toList_some, Option.toList_none, ex2, ex, catS, vC, isMk, sym2, popN, goC, callOK, swL, List.map_cons, List.map_nil, List.replicate_zero, List.replicate_succ, List.append_nil, List.nil_append, List.cons_append, List.getElem?_cons_zero, List.getElem?_cons_succ, List.set_cons_zero, List.set_cons_succ, List.length_cons, List.length_nil, List.head?_cons, Nat.reduceAdd, Nat.reduceLT, Nat.reduceLeDiff, Nat.reduceBEq, Nat.reduceEqDiff, Nat.succ_ne_zero, Nat.zero_lt_succ, Nat.le_refl, sc_rows, kc_lit, nc_lit, wlk_rows, uR_s, uR_uR, true_and, and_true, true_or, or_true, false_or, or_false, and_false, false_and, or_self, and_self, if_true, if_false, Bool.false_eq_true, Bool.or_false, Bool.or_true, Bool.false_or, Bool.true_or, not_true_eq_false, not_false_eq_true, forall_const, true_implies, false_implies, implies_true, ↓reduceIte, reduceCtorEq, fn0, eq_self, k0 L]
  refine l_whole h hT.1 (by omega) hW hE (by omega) hC (fun J g1 q1 => ?_)
  by_cases g : i % 7 = 6
  · have e6 : (nI (i % 7) = 6) = True := by rw [g]; decide
    refine wk2 (fn0_ok l) ok_91 30 (fun pc => false) ?_
    simp only [kk_91, Option.toList_some, Option.toList_none, ex2, ex, catS, vC, isMk, sym2, popN, goC, callOK, swL, List.map_cons, List.map_nil, List.replicate_zero, List.replicate_succ, List.append_nil, List.nil_append, List.cons_append, List.getElem?_cons_zero, List.getElem?_cons_succ, List.set_cons_zero, List.set_cons_succ, List.length_cons, List.length_nil, List.head?_cons, Nat.reduceAdd, Nat.reduceLT, Nat.reduceLeDiff, Nat.reduceBEq, Nat.reduceEqDiff, Nat.succ_ne_zero, Nat.zero_lt_succ, Nat.le_refl, sc_rows, kc_lit, nc_lit, wlk_rows, uR_s, uR_uR, true_and, and_true, true_or, or_true, false_or, or_false, and_false, false_and, or_self, and_self, if_true, if_false, Bool.false_eq_true, Bool.or_false, Bool.or_true, Bool.false_or, Bool.true_or, not_true_eq_false, not_false_eq_true, forall_const, true_implies, false_implies, implies_true, ↓reduceIte, reduceCtorEq, fn0, eq_self, e7, e6, d7, nzL, k0 L]
    refine l_refuses g1 (hT.fl q1) hW.2.2.2 hE (by omega) (by omega) (show x / 7 < 2147483648 by omega) (fun J2 Q2 g2 q2 => ?_)
    refine wk2 (fn0_ok l) ok_91 20 (fun pc => pc == 256) ?_
    simp only [kk_91, Option.toList_some, Option.toList_none, ex2, ex, catS, vC, isMk, sym2, popN, goC, callOK, swL, List.map_cons, List.map_nil, List.replicate_zero, List.replicate_succ, List.append_nil, List.nil_append, List.cons_append, List.getElem?_cons_zero, List.getElem?_cons_succ, List.set_cons_zero, List.set_cons_succ, List.length_cons, List.length_nil, List.head?_cons, Nat.reduceAdd, Nat.reduceLT, Nat.reduceLeDiff, Nat.reduceBEq, Nat.reduceEqDiff, Nat.succ_ne_zero, Nat.zero_lt_succ, Nat.le_refl, sc_rows, kc_lit, nc_lit, wlk_rows, uR_s, uR_uR, true_and, and_true, true_or, or_true, false_or, or_false, and_false, false_and, or_self, and_self, if_true, if_false, Bool.false_eq_true, Bool.or_false, Bool.or_true, Bool.false_or, Bool.true_or, not_true_eq_false, not_false_eq_true, forall_const, true_implies, false_implies, implies_true, ↓reduceIte, reduceCtorEq, fn0, eq_self, nz_lit, k0 L]
    exact h1 J2 Q2 g2 (q1.tr q2)
  · have e6 : (nI (i % 7) = 6) = False := eqF (b := 6) g (by omega) (by omega)
    refine wk2 (fn0_ok l) ok_91 30 (fun pc => pc == 256) ?_
    simp only [kk_91, Option.toList_some, Option.toList_none, ex2, ex, catS, vC, isMk, sym2, popN, goC, callOK, swL, List.map_cons, List.map_nil, List.replicate_zero, List.replicate_succ, List.append_nil, List.nil_append, List.cons_append, List.getElem?_cons_zero, List.getElem?_cons_succ, List.set_cons_zero, List.set_cons_succ, List.length_cons, List.length_nil, List.head?_cons, Nat.reduceAdd, Nat.reduceLT, Nat.reduceLeDiff, Nat.reduceBEq, Nat.reduceEqDiff, Nat.succ_ne_zero, Nat.zero_lt_succ, Nat.le_refl, sc_rows, kc_lit, nc_lit, wlk_rows, uR_s, uR_uR, true_and, and_true, true_or, or_true, false_or, or_false, and_false, false_and, or_self, and_self, if_true, if_false, Bool.false_eq_true, Bool.or_false, Bool.or_true, Bool.false_or, Bool.true_or, not_true_eq_false, not_false_eq_true, forall_const, true_implies, false_implies, implies_true, ↓reduceIte, reduceCtorEq, fn0, eq_self, e7, e6, d7, nzL, k0 L]
    exact h1 J Q g1 q1
set_option maxHeartbeats 1000000 in
set_option maxRecDepth 100000 in
theorem l_lawA (hL : L ≤ 260) (hn : LH l L (i + 1) P) (hi : i < 70) : LH l L i P := by
  intro I Q τ b z w a n m k zk n1 m1 k1 g7 g8 g9 g10 g11 g12 g13 g14 g15 h hT hX hS
  have e70 : ((70 : Int32) ≤ nI i) = False := leF (a := 70) hi (by omega)
  have hR := fR_ok (l := l) (L := L) h hT.1
  have ha := h.2.2.2.1
  refine wk2 (fn0_ok l) ok_91 20 (fun pc => false) ?_
  simp only [kk_91, Option.toList_some, Option.toList_none, ex2, ex, catS, vC, isMk, sym2, popN, goC, callOK, swL, List.map_cons, List.map_nil, List.replicate_zero, List.replicate_succ, List.append_nil, List.nil_append, List.cons_append, List.getElem?_cons_zero, List.getElem?_cons_succ, List.set_cons_zero, List.set_cons_succ, List.length_cons, List.length_nil, List.head?_cons, Nat.reduceAdd, Nat.reduceLT, Nat.reduceLeDiff, Nat.reduceBEq, Nat.reduceEqDiff, Nat.succ_ne_zero, Nat.zero_lt_succ, Nat.le_refl, sc_rows, kc_lit, nc_lit, wlk_rows, uR_s, uR_uR, true_and, and_true, true_or, or_true, false_or, or_false, and_false, false_and, or_self, and_self, if_true, if_false, Bool.false_eq_true, Bool.or_false, Bool.or_true, Bool.false_or, Bool.true_or, not_true_eq_false, not_false_eq_true, forall_const, true_implies, false_implies, implies_true, ↓reduceIte, reduceCtorEq, fn0, eq_self, e70, nz_lit, k0 L]
  refine l_cell hL (by omega) (fun x hx => ?_)
  refine wk2 (fn0_ok l) ok_91 10 (fun pc => false) ?_
  simp only [kk_91, Option.toList_some, Option.toList_none, ex2, ex, catS, vC, isMk, sym2, popN, goC, callOK, swL, List.map_cons, List.map_nil, List.replicate_zero, List.replicate_succ, List.append_nil, List.nil_append, List.cons_append, List.getElem?_cons_zero, List.getElem?_cons_succ, List.set_cons_zero, List.set_cons_succ, List.length_cons, List.length_nil, List.head?_cons, Nat.reduceAdd, Nat.reduceLT, Nat.reduceLeDiff, Nat.reduceBEq, Nat.reduceEqDiff, Nat.succ_ne_zero, Nat.zero_lt_succ, Nat.le_refl, sc_rows, kc_lit, nc_lit, wlk_rows, uR_s, uR_uR, true_and, and_true, true_or, or_true, false_or, or_false, and_false, false_and, or_self, and_self, if_true, if_false, Bool.false_eq_true, Bool.or_false, Bool.or_true, Bool.false_or, Bool.true_or, not_true_eq_false, not_false_eq_true, forall_const, true_implies, false_implies, implies_true, ↓reduceIte, reduceCtorEq, fn0, eq_self, k0 L]
  refine l_seen h hT.1 ?_
  refine wk2 hR ok_91 20 (fun pc => false) ?_
  simp only [kk_91, Option.toList_some, Option.toList_none, ex2, ex, catS, vC, isMk, sym2, popN, goC, callOK, swL, List.map_cons, List.map_nil, List.replicate_zero, List.replicate_succ, List.append_nil, List.nil_append, List.cons_append, List.getElem?_cons_zero, List.getElem?_cons_succ, List.set_cons_zero, List.set_cons_succ, List.length_cons, List.length_nil, List.head?_cons, Nat.reduceAdd, Nat.reduceLT, Nat.reduceLeDiff, Nat.reduceBEq, Nat.reduceEqDiff, Nat.succ_ne_zero, Nat.zero_lt_succ, Nat.le_refl, sc_rows, kc_lit, nc_lit, wlk_rows, uR_s, uR_uR, true_and, and_true, true_or, or_true, false_or, or_false, and_false, false_and, or_self, and_self, if_true, if_false, Bool.false_eq_true, Bool.or_false, Bool.or_true, Bool.false_or, Bool.true_or, not_true_eq_false, not_false_eq_true, forall_const, true_implies, false_implies, implies_true, ↓reduceIte, reduceCtorEq, fR, rd1, rd2, rd3, eq_self, ansCo_s, k0 L]
  refine l_act h hT hX (by omega) hx (fun v J v1 v2 g1 q1 => ?_) (fun v J Q2 τ2 b2' z2 n2 m2 k2 v1 g1 q1 q2 hX2 => ?_)
  · have hR1 := fR_ok (l := l) (L := L) g1 (hT.fl q1).1
    have w1' : (v ≤ -9) = False := eq_false (Int32.not_le.mpr v2)
    have w2' : (0 ≤ v) = False := eq_false (Int32.not_le.mpr v1)
    refine wk2 hR1 ok_91 20 (fun pc => false) ?_
    simp only [kk_91, Option.toList_some, Option.toList_none, ex2, ex, catS, vC, isMk, sym2, popN, goC, callOK, swL, List.map_cons, List.map_nil, List.replicate_zero, List.replicate_succ, List.append_nil, List.nil_append, List.cons_append, List.getElem?_cons_zero, List.getElem?_cons_succ, List.set_cons_zero, List.set_cons_succ, List.length_cons, List.length_nil, List.head?_cons, Nat.reduceAdd, Nat.reduceLT, Nat.reduceLeDiff, Nat.reduceBEq, Nat.reduceEqDiff, Nat.succ_ne_zero, Nat.zero_lt_succ, Nat.le_refl, sc_rows, kc_lit, nc_lit, wlk_rows, uR_s, uR_uR, true_and, and_true, true_or, or_true, false_or, or_false, and_false, false_and, or_self, and_self, if_true, if_false, Bool.false_eq_true, Bool.or_false, Bool.or_true, Bool.false_or, Bool.true_or, not_true_eq_false, not_false_eq_true, forall_const, true_implies, false_implies, implies_true, ↓reduceIte, reduceCtorEq, fR, rd1, rd2, rd3, eq_self, ansCo_s, w1', w2', k0 L]
    refine l_seen g1 (hT.fl q1).1 ?_
    refine wk2 (fn0_ok l) ok_91 20 (fun pc => pc == 221) ?_
    simp only [kk_91, Option.toList_some, Option.toList_none, ex2, ex, catS, vC, isMk, sym2, popN, goC, callOK, swL, List.map_cons, List.map_nil, List.replicate_zero, List.replicate_succ, List.append_nil, List.nil_append, List.cons_append, List.getElem?_cons_zero, List.getElem?_cons_succ, List.set_cons_zero, List.set_cons_succ, List.length_cons, List.length_nil, List.head?_cons, Nat.reduceAdd, Nat.reduceLT, Nat.reduceLeDiff, Nat.reduceBEq, Nat.reduceEqDiff, Nat.succ_ne_zero, Nat.zero_lt_succ, Nat.le_refl, sc_rows, kc_lit, nc_lit, wlk_rows, uR_s, uR_uR, true_and, and_true, true_or, or_true, false_or, or_false, and_false, false_and, or_self, and_self, if_true, if_false, Bool.false_eq_true, Bool.or_false, Bool.or_true, Bool.false_or, Bool.true_or, not_true_eq_false, not_false_eq_true, forall_const, true_implies, false_implies, implies_true, ↓reduceIte, reduceCtorEq, fn0, eq_self, lg_rf, k0 L]
    refine l_lawB hx hi g1 (hT.fl q1) (hX.mono (by omega)) _ _ _ _ _ _ _ _ _ _ _ (fun J2 Q3 g2 q2 => ?_)
    refine wk2 (fn0_ok l) ok_91 20 (fun pc => pc == 310) ?_
    simp only [kk_91, Option.toList_some, Option.toList_none, ex2, ex, catS, vC, isMk, sym2, popN, goC, callOK, swL, List.map_cons, List.map_nil, List.replicate_zero, List.replicate_succ, List.append_nil, List.nil_append, List.cons_append, List.getElem?_cons_zero, List.getElem?_cons_succ, List.set_cons_zero, List.set_cons_succ, List.length_cons, List.length_nil, List.head?_cons, Nat.reduceAdd, Nat.reduceLT, Nat.reduceLeDiff, Nat.reduceBEq, Nat.reduceEqDiff, Nat.succ_ne_zero, Nat.zero_lt_succ, Nat.le_refl, sc_rows, kc_lit, nc_lit, wlk_rows, uR_s, uR_uR, true_and, and_true, true_or, or_true, false_or, or_false, and_false, false_and, or_self, and_self, if_true, if_false, Bool.false_eq_true, Bool.or_false, Bool.or_true, Bool.false_or, Bool.true_or, not_true_eq_false, not_false_eq_true, forall_const, true_implies, false_implies, implies_true, ↓reduceIte, reduceCtorEq, fn0, eq_self, nz_lit, eq_true v1, k0 L]
    have q3 := q1.tr q2
    exact l_lawD hn hi g2 (hT.fl q3) (hX.mono (by omega)) (hS.fl (τ' := τ) h.s41 q3 rfl (by omega)) _ _ _ _ _ _ _ _ _
  · have t1 := hT.fl q1
    have hR1 := fR_ok (l := l) (L := L) g1 t1.1
    have w1' : (v ≤ -9) = False := eq_false (fun c => absurd (i32_le_trans (Int32.not_lt.mp v1) c) (by decide))
    have w2' : (0 ≤ v) = True := eq_true (Int32.not_lt.mp v1)
    obtain ⟨hX1, hS1⟩ : XZ z2 n2 k2 (i + 1) ∧ SNP J τ2 zk n1 m1 k1 (i + 1) := ⟨hX2, hS.fl h.s41 q1 (q2 41 (by omega)) (by omega)⟩
    have e17 : nI x / 17 = nI (x / 17) := div_nI (d := 17) hx (by omega) (by omega)
    have r4 : nI (x / 17) - nI (x / 17) / 4 * 4 = nI (x / 17 % 4) := rem_nI (d := 4) (by omega) (by omega) (by omega)
    -- how many states there are then, and behind undo
    obtain ⟨c4, hd, hc4, ea⟩ : ∃ (c4 : Prop) (hd : Nat), (4 ≤ nI a) = c4 ∧ ((c4 = True ∧ aSt a = 4 ∧ hd = 3) ∨ (c4 = False ∧ aSt a = a + 1 ∧ hd = a)) := by
      by_cases q : a = 4
      · exact ⟨True, 3, by rw [q]; decide, Or.inl ⟨rfl, by unfold aSt; rw [if_pos q], rfl⟩⟩
      · exact ⟨False, a, leF (a := 4) (by omega) (by omega), Or.inr ⟨rfl, by unfold aSt; rw [if_neg q], rfl⟩⟩
    have ehd : aSt a = hd + 1 := by rcases ea with ⟨-, x1, x2⟩ | ⟨-, x1, x2⟩ <;> omega
    have fin : ∀ J2 Q3, CT J2 Q3 τ2 b2' z2 (wSt w a z) (aSt a) n2 m2 k2 → FL J J2 → Sy l 91 (149, 1788) 256 [some (.ref 1003), some (.ref 0), some (.int 1), some (.long (sv zk n1 m1 k1)), some (.double 0), some (.int (zk 5)), some (.int (nI i)), some (.int (nI x)), some (.long (sv z n m k)), some (.double 0), some (.int (nI a)), some (.int v), some (.int (nI (aSt a))), g13, g14, g15] [] (SC L, J2, Q3) P := by
      intro J2 Q3 g2 q3
      have t2 := t1.fl q3
      have u2 := hS1.fl (τ' := τ2) g1.s41 q3 rfl (Nat.le_refl _)
      by_cases g : x / 17 % 4 = 0
      · have e0 : (nI (x / 17 % 4) = 0) = True := by rw [g]; decide
        refine wk2 (fn0_ok l) ok_91 20 (fun pc => false) ?_
        simp only [kk_91, Option.toList_some, Option.toList_none, ex2, ex, catS, vC, isMk, sym2, popN, goC, callOK, swL, List.map_cons, List.map_nil, List.replicate_zero, List.replicate_succ, List.append_nil, List.nil_append, List.cons_append, List.getElem?_cons_zero, List.getElem?_cons_succ, List.set_cons_zero, List.set_cons_succ, List.length_cons, List.length_nil, List.head?_cons, Nat.reduceAdd, Nat.reduceLT, Nat.reduceLeDiff, Nat.reduceBEq, Nat.reduceEqDiff, Nat.succ_ne_zero, Nat.zero_lt_succ, Nat.le_refl, sc_rows, kc_lit, nc_lit, wlk_rows, uR_s, uR_uR, true_and, and_true, true_or, or_true, false_or, or_false, and_false, false_and, or_self, and_self, if_true, if_false, Bool.false_eq_true, Bool.or_false, Bool.or_true, Bool.false_or, Bool.true_or, not_true_eq_false, not_false_eq_true, forall_const, true_implies, false_implies, implies_true, ↓reduceIte, reduceCtorEq, fn0, eq_self, eq_false v1, e17, r4, e0, nzL, k0 L]
        refine m_undo g2 (fun q => absurd q (by rw [ehd]; omega)) (fun a2 e2 J3 n3 m3 k3 g3 q4 => ?_)
        rw [wSt_top w z ha e2] at g3
        obtain rfl : a2 = hd := by omega
        obtain ⟨y1, y2, y3⟩ := g3.nm h.2.1.2.1 h.2.1.2.2
        subst y1 y2 y3
        have t3 := t2.fl (FL.of q4)
        have u3 := u2.fl (τ' := τ2) g2.s41 (FL.of q4) rfl (Nat.le_refl _)
        rcases ea with ⟨ec, -, eh⟩ | ⟨ec, -, eh⟩
        · have e3 : (nI a2 = 3) = True := by rw [eh]; decide
          refine wk2 (fn0_ok l) ok_91 20 (fun pc => false) ?_
          simp only [kk_91, Option.toList_some, Option.toList_none, ex2, ex, catS, vC, isMk, sym2, popN, goC, callOK, swL, List.map_cons, List.map_nil, List.replicate_zero, List.replicate_succ, List.append_nil, List.nil_append, List.cons_append, List.getElem?_cons_zero, List.getElem?_cons_succ, List.set_cons_zero, List.set_cons_succ, List.length_cons, List.length_nil, List.head?_cons, Nat.reduceAdd, Nat.reduceLT, Nat.reduceLeDiff, Nat.reduceBEq, Nat.reduceEqDiff, Nat.succ_ne_zero, Nat.zero_lt_succ, Nat.le_refl, sc_rows, kc_lit, nc_lit, wlk_rows, uR_s, uR_uR, true_and, and_true, true_or, or_true, false_or, or_false, and_false, false_and, or_self, and_self, if_true, if_false, Bool.false_eq_true, Bool.or_false, Bool.or_true, Bool.false_or, Bool.true_or, not_true_eq_false, not_false_eq_true, forall_const, true_implies, false_implies, implies_true, ↓reduceIte, reduceCtorEq, fn0, eq_self, hc4, ec, e3, k0 L]
          refine l_seen g3 t3.1 ?_
          refine wk2 (fn0_ok l) ok_91 20 (fun pc => pc == 310) ?_
          simp only [kk_91, Option.toList_some, Option.toList_none, ex2, ex, catS, vC, isMk, sym2, popN, goC, callOK, swL, List.map_cons, List.map_nil, List.replicate_zero, List.replicate_succ, List.append_nil, List.nil_append, List.cons_append, List.getElem?_cons_zero, List.getElem?_cons_succ, List.set_cons_zero, List.set_cons_succ, List.length_cons, List.length_nil, List.head?_cons, Nat.reduceAdd, Nat.reduceLT, Nat.reduceLeDiff, Nat.reduceBEq, Nat.reduceEqDiff, Nat.succ_ne_zero, Nat.zero_lt_succ, Nat.le_refl, sc_rows, kc_lit, nc_lit, wlk_rows, uR_s, uR_uR, true_and, and_true, true_or, or_true, false_or, or_false, and_false, false_and, or_self, and_self, if_true, if_false, Bool.false_eq_true, Bool.or_false, Bool.or_true, Bool.false_or, Bool.true_or, not_true_eq_false, not_false_eq_true, forall_const, true_implies, false_implies, implies_true, ↓reduceIte, reduceCtorEq, fn0, eq_self, lg_rf, k0 L]
          exact l_lawD hn hi g3 t3 (hX.mono (by omega)) u3 _ _ _ _ _ _ _ _ _
        · have e3 : (nI a2 = nI a) = True := by rw [eh]; exact eq_true rfl
          refine wk2 (fn0_ok l) ok_91 20 (fun pc => false) ?_
          simp only [kk_91, Option.toList_some, Option.toList_none, ex2, ex, catS, vC, isMk, sym2, popN, goC, callOK, swL, List.map_cons, List.map_nil, List.replicate_zero, List.replicate_succ, List.append_nil, List.nil_append, List.cons_append, List.getElem?_cons_zero, List.getElem?_cons_succ, List.set_cons_zero, List.set_cons_succ, List.length_cons, List.length_nil, List.head?_cons, Nat.reduceAdd, Nat.reduceLT, Nat.reduceLeDiff, Nat.reduceBEq, Nat.reduceEqDiff, Nat.succ_ne_zero, Nat.zero_lt_succ, Nat.le_refl, sc_rows, kc_lit, nc_lit, wlk_rows, uR_s, uR_uR, true_and, and_true, true_or, or_true, false_or, or_false, and_false, false_and, or_self, and_self, if_true, if_false, Bool.false_eq_true, Bool.or_false, Bool.or_true, Bool.false_or, Bool.true_or, not_true_eq_false, not_false_eq_true, forall_const, true_implies, false_implies, implies_true, ↓reduceIte, reduceCtorEq, fn0, eq_self, hc4, ec, e3, k0 L]
          refine l_seen g3 t3.1 ?_
          refine wk2 (fn0_ok l) ok_91 20 (fun pc => pc == 310) ?_
          simp only [kk_91, Option.toList_some, Option.toList_none, ex2, ex, catS, vC, isMk, sym2, popN, goC, callOK, swL, List.map_cons, List.map_nil, List.replicate_zero, List.replicate_succ, List.append_nil, List.nil_append, List.cons_append, List.getElem?_cons_zero, List.getElem?_cons_succ, List.set_cons_zero, List.set_cons_succ, List.length_cons, List.length_nil, List.head?_cons, Nat.reduceAdd, Nat.reduceLT, Nat.reduceLeDiff, Nat.reduceBEq, Nat.reduceEqDiff, Nat.succ_ne_zero, Nat.zero_lt_succ, Nat.le_refl, sc_rows, kc_lit, nc_lit, wlk_rows, uR_s, uR_uR, true_and, and_true, true_or, or_true, false_or, or_false, and_false, false_and, or_self, and_self, if_true, if_false, Bool.false_eq_true, Bool.or_false, Bool.or_true, Bool.false_or, Bool.true_or, not_true_eq_false, not_false_eq_true, forall_const, true_implies, false_implies, implies_true, ↓reduceIte, reduceCtorEq, fn0, eq_self, lg_rf, k0 L]
          exact l_lawD hn hi g3 t3 (hX.mono (by omega)) u3 _ _ _ _ _ _ _ _ _
      · have e0 := nI_0F g (show x / 17 % 4 < 2147483648 by omega)
        refine wk2 (fn0_ok l) ok_91 20 (fun pc => pc == 310) ?_
        simp only [kk_91, Option.toList_some, Option.toList_none, ex2, ex, catS, vC, isMk, sym2, popN, goC, callOK, swL, List.map_cons, List.map_nil, List.replicate_zero, List.replicate_succ, List.append_nil, List.nil_append, List.cons_append, List.getElem?_cons_zero, List.getElem?_cons_succ, List.set_cons_zero, List.set_cons_succ, List.length_cons, List.length_nil, List.head?_cons, Nat.reduceAdd, Nat.reduceLT, Nat.reduceLeDiff, Nat.reduceBEq, Nat.reduceEqDiff, Nat.succ_ne_zero, Nat.zero_lt_succ, Nat.le_refl, sc_rows, kc_lit, nc_lit, wlk_rows, uR_s, uR_uR, true_and, and_true, true_or, or_true, false_or, or_false, and_false, false_and, or_self, and_self, if_true, if_false, Bool.false_eq_true, Bool.or_false, Bool.or_true, Bool.false_or, Bool.true_or, not_true_eq_false, not_false_eq_true, forall_const, true_implies, false_implies, implies_true, ↓reduceIte, reduceCtorEq, fn0, eq_self, eq_false v1, e17, r4, e0, nzL, k0 L]
        exact l_lawD hn hi g2 t2 hX1 u2 _ _ _ _ _ _ _ _ _
    have behind : Sy l 91 (149, 1788) 221 [some (.ref 1003), some (.ref 0), some (.int 1), some (.long (sv zk n1 m1 k1)), some (.double 0), some (.int (zk 5)), some (.int (nI i)), some (.int (nI x)), some (.long (sv z n m k)), some (.double 0), some (.int (nI a)), some (.int v), some (.int (nI (aSt a))), g13, g14, g15] [] (SC L, J, Q2) P := l_lawB hx hi g1 t1 hX1 _ _ _ _ _ _ _ _ _ _ _ fin
    rcases ea with ⟨ec, ea, -⟩ | ⟨ec, ea, -⟩
    · have e4 : (nI (aSt a) = 4) = True := by rw [ea]; decide
      refine wk2 hR1 ok_91 40 (fun pc => pc == 221) ?_
      simp only [kk_91, Option.toList_some, Option.toList_none, ex2, ex, catS, vC, isMk, sym2, popN, goC, callOK, swL, List.map_cons, List.map_nil, List.replicate_zero, List.replicate_succ, List.append_nil, List.nil_append, List.cons_append, List.getElem?_cons_zero, List.getElem?_cons_succ, List.set_cons_zero, List.set_cons_succ, List.length_cons, List.length_nil, List.head?_cons, Nat.reduceAdd, Nat.reduceLT, Nat.reduceLeDiff, Nat.reduceBEq, Nat.reduceEqDiff, Nat.succ_ne_zero, Nat.zero_lt_succ, Nat.le_refl, sc_rows, kc_lit, nc_lit, wlk_rows, uR_s, uR_uR, true_and, and_true, true_or, or_true, false_or, or_false, and_false, false_and, or_self, and_self, if_true, if_false, Bool.false_eq_true, Bool.or_false, Bool.or_true, Bool.false_or, Bool.true_or, not_true_eq_false, not_false_eq_true, forall_const, true_implies, false_implies, implies_true, ↓reduceIte, reduceCtorEq, fR, rd1, rd2, rd3, eq_self, ansCo_s, w1', w2', hc4, ec, e4, k0 L]
      exact behind
    · have e4 : (nI (aSt a) = nI (a + 1)) = True := by rw [ea]; exact eq_true rfl
      refine wk2 hR1 ok_91 40 (fun pc => pc == 221) ?_
      simp only [kk_91, Option.toList_some, Option.toList_none, ex2, ex, catS, vC, isMk, sym2, popN, goC, callOK, swL, List.map_cons, List.map_nil, List.replicate_zero, List.replicate_succ, List.append_nil, List.nil_append, List.cons_append, List.getElem?_cons_zero, List.getElem?_cons_succ, List.set_cons_zero, List.set_cons_succ, List.length_cons, List.length_nil, List.head?_cons, Nat.reduceAdd, Nat.reduceLT, Nat.reduceLeDiff, Nat.reduceBEq, Nat.reduceEqDiff, Nat.succ_ne_zero, Nat.zero_lt_succ, Nat.le_refl, sc_rows, kc_lit, nc_lit, wlk_rows, uR_s, uR_uR, true_and, and_true, true_or, or_true, false_or, or_false, and_false, false_and, or_self, and_self, if_true, if_false, Bool.false_eq_true, Bool.or_false, Bool.or_true, Bool.false_or, Bool.true_or, not_true_eq_false, not_false_eq_true, forall_const, true_implies, false_implies, implies_true, ↓reduceIte, reduceCtorEq, fR, rd1, rd2, rd3, eq_self, ansCo_s, w1', w2', hc4, ec, e4, nI_up, k0 L]
      exact behind
set_option maxRecDepth 100000 in
theorem l_lawZ (hP : ∀ I Q, P (some (.int 1)) (SC L, I, Q)) : LH l L 70 P := by
  intro I Q τ b z w a n m k zk n1 m1 k1 g7 g8 g9 g10 g11 g12 g13 g14 g15 h hT hX hS
  refine wk2 (fn0_ok l) ok_91 20 (fun pc => false) ?_
  simp only [kk_91, Option.toList_some, Option.toList_none, ex2, ex, catS, vC, isMk, sym2, popN, goC, callOK, swL, List.map_cons, List.map_nil, List.replicate_zero, List.replicate_succ, List.append_nil, List.nil_append, List.cons_append, List.getElem?_cons_zero, List.getElem?_cons_succ, List.set_cons_zero, List.set_cons_succ, List.length_cons, List.length_nil, List.head?_cons, Nat.reduceAdd, Nat.reduceLT, Nat.reduceLeDiff, Nat.reduceBEq, Nat.reduceEqDiff, Nat.succ_ne_zero, Nat.zero_lt_succ, Nat.le_refl, sc_rows, kc_lit, nc_lit, wlk_rows, uR_s, uR_uR, true_and, and_true, true_or, or_true, false_or, or_false, and_false, false_and, or_self, and_self, if_true, if_false, Bool.false_eq_true, Bool.or_false, Bool.or_true, Bool.false_or, Bool.true_or, not_true_eq_false, not_false_eq_true, forall_const, true_implies, false_implies, implies_true, ↓reduceIte, reduceCtorEq, fn0, eq_self, show ((70 : Int32) ≤ nI 70) = True by decide, nz_lit, k0 L]
  exact hP I Q
theorem l_loop (hL : L ≤ 260) (hP : ∀ I Q, P (some (.int 1)) (SC L, I, Q)) : ∀ d i, i + d = 70 → LH l L i P := by
  intro d
  induction d with
  | zero =>
    intro i hi
    obtain rfl : i = 70 := by omega
    exact l_lawZ hP
  | succ d ih =>
    intro i hi
    exact l_lawA hL (ih (i + 1) (by omega)) (by omega)
end LLW
