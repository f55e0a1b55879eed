/-! p27: the law's minute -/
abbrev gE (z : Nat → Int32) (t : Nat) : Int32 := b2 ((0 < z (tp t 1) ∧ z (tp t 1) < 5) ∧ z (tp t 2) = 1)
theorem XZ.pass {z : Nat → Int32} {n k N i : Nat} (h : XZ z n k N) (hM : MV z n k) (hi : i ≤ 300) {k' : Nat} (hM' : MV (zIt z i) n k') : XZ (zIt z i) n k' (N + 1) := by
  obtain ⟨c, a, b, d, e⟩ := h
  obtain ⟨k1, x1, x2⟩ := MV.it hM a i
  obtain ⟨k2, y1, y2, y3⟩ := it_w hM d e i
  have e1 : k' = k1 := (nI_eq (by have := hM'.2.2.2.2.1; omega) (by have := x1.2.2.2.2.1; omega)).mp (hM'.2.2.2.1.symm.trans x1.2.2.2.1)
  have e2 : k' = k2 := (nI_eq (by have := hM'.2.2.2.2.1; omega) (by have := y1.2.2.2.2.1; omega)).mp (hM'.2.2.2.1.symm.trans y1.2.2.2.1)
  subst e1
  subst e2
  exact ⟨c + i, x2.mono (by omega), by omega, y2.mono (by omega), y3⟩
theorem Sm_b2 {p : Nat → Prop} {f : Nat → Int32} (hf : ∀ t, (p t ∧ f t = 1) ∨ (¬ p t ∧ f t = 0)) : ∀ n, ∃ c, c ≤ n ∧ Sm f n = nI c ∧ ((∃ t, t < n ∧ p t) → 0 < c) ∧ ((∀ t, t < n → ¬ p t) → c = 0) := by
  intro n
  induction n with
  | zero => exact ⟨0, Nat.le_refl 0, rfl, fun ⟨t, h, _⟩ => absurd h (by omega), fun _ => rfl⟩
  | succ n ih =>
    obtain ⟨c, c1, c2, c3, c4⟩ := ih
    rcases hf n with ⟨h1, h2⟩ | ⟨h1, h2⟩
    · refine ⟨c + 1, by omega, ?_, fun _ => by omega, fun h => absurd h1 (h n (by omega))⟩
      simp only [Sm]
      rw [c2, h2]
      exact nI_up c
    · refine ⟨c, by omega, ?_, fun ⟨t, t1, t2⟩ => c3 ⟨t, ?_, t2⟩, fun h => c4 (fun t ht => h t (by omega))⟩
      · simp only [Sm]
        rw [c2, h2, Int32.add_zero]
      · by_cases q : t = n
        · subst q; exact absurd t2 h1
        · omega
theorem b2_ex {p : Prop} [Decidable p] : (p ∧ b2 p = 1) ∨ (¬ p ∧ b2 p = 0) := by
  by_cases h : p
  · exact Or.inl ⟨h, b2_t h⟩
  · exact Or.inr ⟨h, b2_f h⟩
section LMI
variable {l : Launch} {L : Nat} {I : Nat → Nat → Int32} {Q : Nat → Nat → Option Nat} {P : Option Value → PH → Prop} {τ : Nat → Nat → Nat} {b : Nat → Nat} {z : Nat → Int32} {w : Nat → Nat → Int32} {a n m k N : Nat}
set_option maxHeartbeats 2000000 in
set_option maxRecDepth 100000 in
theorem l_minL (h : CT I Q τ b z w a n m k) (hl : I 0 6 = nI 0) (v1 v2 v3 v4 v5 v6 v12 v13 v14 : Option Value) (h1 : ∀ x11, Sy l 89 (149, 1788) 171 [some (.ref 0), v1, v2, v3, v4, v5, v6, some (.int (Sm (gW z) n)), some (.int (Sm (gE z) n)), some (.int (Sm (gC z) n)), some (.int (nI n)), x11, v12, v13, v14] [] (SC L, I, Q) P) : ∀ d j x11, j + d = n → Sy l 89 (149, 1788) 54 [some (.ref 0), v1, v2, v3, v4, v5, v6, some (.int (Sm (gW z) j)), some (.int (Sm (gE z) j)), some (.int (Sm (gC z) j)), some (.int (nI j)), x11, v12, v13, v14] [] (SC L, I, Q) P := by
  have hR := fR_ok (l := l) (L := L) h hl
  obtain ⟨hM, hL⟩ := h.2.1.2
  have hn := hL.2.1
  intro d
  induction d with
  | zero =>
    intro j x11 hj
    obtain rfl : j = n := by omega
    have := h1 x11
    refine wk2 hR ok_89 20 (fun pc => pc == 171) ?_
    simp only [kk_89, Option.toList_some, Option.toList_none, ex2, ex, catS, vC, isMk, sym2, popN, goC, callOK, swL, List.map_cons, List.map_nil, List.replicate_zero, List.replicate_succ, List.append_nil, List.nil_append, List.cons_append, List.getElem?_cons_zero, List.getElem?_cons_succ, List.set_cons_zero, List.set_cons_succ, List.length_cons, List.length_nil, List.head?_cons, Nat.reduceAdd, Nat.reduceLT, Nat.reduceLeDiff, Nat.reduceBEq, Nat.reduceEqDiff, Nat.succ_ne_zero, Nat.zero_lt_succ, Nat.le_refl, sc_rows, kc_lit, nc_lit, wlk_rows, uR_s, uR_uR, true_and, and_true, true_or, or_true, false_or, or_false, and_false, false_and, or_self, and_self, if_true, if_false, Bool.false_eq_true, Bool.or_false, Bool.or_true, Bool.false_or, Bool.true_or, not_true_eq_false, not_false_eq_true, forall_const, true_implies, false_implies, implies_true, ↓reduceIte, reduceCtorEq, fR, rd1, rd2, rd3, eq_self, ansCo_s, leT (Nat.le_refl j) (show j < 2147483648 by omega), k0 L]
    exact this
  | succ d ih =>
    intro j x11 hj
    have hf : ftz z (z (tp j 0)) n = some j := ftz_u hL (by omega) rfl
    have t := ansTx_s (m := m) hf
    have tw := (hM.2.1 j (by omega)).1.1
    have ln := leF (show j < n by omega) (show n < 2147483648 by omega)
    have ap := ansPl_j (z := z) (show j < n by omega) hn
    have key : ∀ (c e1 e4 e5 : Int32) (c1 c4 c5 c0 : Prop), z (tp j 1) = c → (c ≤ 0) = c0 → (4 ≤ c) = c4 → (5 ≤ c) = c5 → (c = 1) = c1 → ((c0 = True ∧ (c1 = False ∧ e4 = 0 ∧ e5 = 0 ∧ e1 = 0)) ∨ (c0 = False ∧ (((c4 = True ∧ e4 = 0) ∨ (c4 = False ∧ e4 = 1)) ∧ ((c5 = True ∧ e5 = 0) ∨ (c5 = False ∧ e5 = if z (tp j 2) = 1 then 1 else 0)) ∧ ((c1 = False ∧ e1 = 0) ∨ (c1 = True ∧ e1 = if z (tp j 2) = 1 then 1 else 0))))) → (gW z j = e4 ∧ gE z j = e5 ∧ gC z j = e1) → Sy l 89 (149, 1788) 54 [some (.ref 0), v1, v2, v3, v4, v5, v6, some (.int (Sm (gW z) j)), some (.int (Sm (gE z) j)), some (.int (Sm (gC z) j)), some (.int (nI j)), x11, v12, v13, v14] [] (SC L, I, Q) P := by
      intro c e1 e4 e5 c1 c4 c5 c0 hc h0 h4 h5 h1' hh hs
      obtain ⟨s1, s2, s3⟩ := hs
      have next := ih (j + 1) (some (.int c)) (by omega)
      simp only [Sm] at next
      rw [s1, s2, s3] at next
      by_cases g2 : z (tp j 2) = 1
      · rw [if_pos g2] at hh
        rcases hh with ⟨rfl, rfl, rfl, rfl, rfl⟩ | ⟨rfl, h4', h5', h1''⟩
        · refine wk2 hR ok_89 80 (fun pc => pc == 54) ?_
          simp only [kk_89, Option.toList_some, Option.toList_none, ex2, ex, catS, vC, isMk, sym2, popN, goC, callOK, swL, List.map_cons, List.map_nil, List.replicate_zero, List.replicate_succ, List.append_nil, List.nil_append, List.cons_append, List.getElem?_cons_zero, List.getElem?_cons_succ, List.set_cons_zero, List.set_cons_succ, List.length_cons, List.length_nil, List.head?_cons, Nat.reduceAdd, Nat.reduceLT, Nat.reduceLeDiff, Nat.reduceBEq, Nat.reduceEqDiff, Nat.succ_ne_zero, Nat.zero_lt_succ, Nat.le_refl, sc_rows, kc_lit, nc_lit, wlk_rows, uR_s, uR_uR, true_and, and_true, true_or, or_true, false_or, or_false, and_false, false_and, or_self, and_self, if_true, if_false, Bool.false_eq_true, Bool.or_false, Bool.or_true, Bool.false_or, Bool.true_or, not_true_eq_false, not_false_eq_true, forall_const, true_implies, false_implies, implies_true, ↓reduceIte, reduceCtorEq, fR, rd1, rd2, rd3, eq_self, ansCo_s, ap, t, hc, h0, h1', ln, nI_up, k0 L]
          exact next
        · rcases h4' with ⟨rfl, rfl⟩ | ⟨rfl, rfl⟩ <;> rcases h5' with ⟨rfl, rfl⟩ | ⟨rfl, rfl⟩ <;> rcases h1'' with ⟨rfl, rfl⟩ | ⟨rfl, rfl⟩
          all_goals
            refine wk2 hR ok_89 80 (fun pc => pc == 54) ?_
            simp only [kk_89, Option.toList_some, Option.toList_none, ex2, ex, catS, vC, isMk, sym2, popN, goC, callOK, swL, List.map_cons, List.map_nil, List.replicate_zero, List.replicate_succ, List.append_nil, List.nil_append, List.cons_append, List.getElem?_cons_zero, List.getElem?_cons_succ, List.set_cons_zero, List.set_cons_succ, List.length_cons, List.length_nil, List.head?_cons, Nat.reduceAdd, Nat.reduceLT, Nat.reduceLeDiff, Nat.reduceBEq, Nat.reduceEqDiff, Nat.succ_ne_zero, Nat.zero_lt_succ, Nat.le_refl, sc_rows, kc_lit, nc_lit, wlk_rows, uR_s, uR_uR, true_and, and_true, true_or, or_true, false_or, or_false, and_false, false_and, or_self, and_self, if_true, if_false, Bool.false_eq_true, Bool.or_false, Bool.or_true, Bool.false_or, Bool.true_or, not_true_eq_false, not_false_eq_true, forall_const, true_implies, false_implies, implies_true, ↓reduceIte, reduceCtorEq, fR, rd1, rd2, rd3, eq_self, ansCo_s, ap, t, hc, h0, h4, h5, h1', eq_true g2, ln, nI_up, k0 L]
            exact next
      · rw [if_neg g2] at hh
        rcases hh with ⟨rfl, rfl, rfl, rfl, rfl⟩ | ⟨rfl, h4', h5', h1''⟩
        · refine wk2 hR ok_89 80 (fun pc => pc == 54) ?_
          simp only [kk_89, Option.toList_some, Option.toList_none, ex2, ex, catS, vC, isMk, sym2, popN, goC, callOK, swL, List.map_cons, List.map_nil, List.replicate_zero, List.replicate_succ, List.append_nil, List.nil_append, List.cons_append, List.getElem?_cons_zero, List.getElem?_cons_succ, List.set_cons_zero, List.set_cons_succ, List.length_cons, List.length_nil, List.head?_cons, Nat.reduceAdd, Nat.reduceLT, Nat.reduceLeDiff, Nat.reduceBEq, Nat.reduceEqDiff, Nat.succ_ne_zero, Nat.zero_lt_succ, Nat.le_refl, sc_rows, kc_lit, nc_lit, wlk_rows, uR_s, uR_uR, true_and, and_true, true_or, or_true, false_or, or_false, and_false, false_and, or_self, and_self, if_true, if_false, Bool.false_eq_true, Bool.or_false, Bool.or_true, Bool.false_or, Bool.true_or, not_true_eq_false, not_false_eq_true, forall_const, true_implies, false_implies, implies_true, ↓reduceIte, reduceCtorEq, fR, rd1, rd2, rd3, eq_self, ansCo_s, ap, t, hc, h0, h1', ln, nI_up, k0 L]
          exact next
        · rcases h4' with ⟨rfl, rfl⟩ | ⟨rfl, rfl⟩ <;> rcases h5' with ⟨rfl, rfl⟩ | ⟨rfl, rfl⟩ <;> rcases h1'' with ⟨rfl, rfl⟩ | ⟨rfl, rfl⟩
          all_goals
            refine wk2 hR ok_89 80 (fun pc => pc == 54) ?_
            simp only [kk_89, Option.toList_some, Option.toList_none, ex2, ex, catS, vC, isMk, sym2, popN, goC, callOK, swL, List.map_cons, List.map_nil, List.replicate_zero, List.replicate_succ, List.append_nil, List.nil_append, List.cons_append, List.getElem?_cons_zero, List.getElem?_cons_succ, List.set_cons_zero, List.set_cons_succ, List.length_cons, List.length_nil, List.head?_cons, Nat.reduceAdd, Nat.reduceLT, Nat.reduceLeDiff, Nat.reduceBEq, Nat.reduceEqDiff, Nat.succ_ne_zero, Nat.zero_lt_succ, Nat.le_refl, sc_rows, kc_lit, nc_lit, wlk_rows, uR_s, uR_uR, true_and, and_true, true_or, or_true, false_or, or_false, and_false, false_and, or_self, and_self, if_true, if_false, Bool.false_eq_true, Bool.or_false, Bool.or_true, Bool.false_or, Bool.true_or, not_true_eq_false, not_false_eq_true, forall_const, true_implies, false_implies, implies_true, ↓reduceIte, reduceCtorEq, fR, rd1, rd2, rd3, eq_self, ansCo_s, ap, t, hc, h0, h4, h5, h1', eq_false g2, ln, nI_up, k0 L]
            exact next
    have hs : ∀ c, z (tp j 1) = c → gW z j = b2 (0 < c ∧ c < 4) ∧ gE z j = b2 ((0 < c ∧ c < 5) ∧ z (tp j 2) = 1) ∧ gC z j = b2 (c = 1 ∧ z (tp j 2) = 1) := fun c hc => by simp only [gW, gE, gC, hc, and_self]
    have eT : ∀ (p q : Prop) [Decidable p] [Decidable q], p → b2 (p ∧ q) = if q then 1 else 0 := fun p q _ _ hp => by
      by_cases hq : q
      · rw [if_pos hq]; exact b2_t ⟨hp, hq⟩
      · rw [if_neg hq]; exact b2_f (fun y => hq y.2)
    have eF : ∀ (p q : Prop) [Decidable p] [Decidable q], ¬ p → b2 (p ∧ q) = 0 := fun p q _ _ hp => b2_f (fun y => hp y.1)
    rcases tw with e | e | e | e | e | e
    · obtain ⟨x, y, v⟩ := hs 0 e
      exact key 0 0 0 0 _ _ _ _ e rfl rfl rfl rfl (Or.inl ⟨by decide, by decide, rfl, rfl, rfl⟩) ⟨x.trans (by decide), y.trans (eF _ _ (by decide)), v.trans (eF _ _ (by decide))⟩
    · obtain ⟨x, y, v⟩ := hs 1 e
      exact key 1 _ 1 _ _ _ _ _ e rfl rfl rfl rfl (Or.inr ⟨by decide, Or.inr ⟨by decide, rfl⟩, Or.inr ⟨by decide, rfl⟩, Or.inr ⟨by decide, rfl⟩⟩) ⟨x.trans (by decide), y.trans (eT _ _ (by decide)), v.trans (eT _ _ (by decide))⟩
    · obtain ⟨x, y, v⟩ := hs 2 e
      exact key 2 0 1 _ _ _ _ _ e rfl rfl rfl rfl (Or.inr ⟨by decide, Or.inr ⟨by decide, rfl⟩, Or.inr ⟨by decide, rfl⟩, Or.inl ⟨by decide, rfl⟩⟩) ⟨x.trans (by decide), y.trans (eT _ _ (by decide)), v.trans (eF _ _ (by decide))⟩
    · obtain ⟨x, y, v⟩ := hs 3 e
      exact key 3 0 1 _ _ _ _ _ e rfl rfl rfl rfl (Or.inr ⟨by decide, Or.inr ⟨by decide, rfl⟩, Or.inr ⟨by decide, rfl⟩, Or.inl ⟨by decide, rfl⟩⟩) ⟨x.trans (by decide), y.trans (eT _ _ (by decide)), v.trans (eF _ _ (by decide))⟩
    · obtain ⟨x, y, v⟩ := hs 4 e
      exact key 4 0 0 _ _ _ _ _ e rfl rfl rfl rfl (Or.inr ⟨by decide, Or.inl ⟨by decide, rfl⟩, Or.inr ⟨by decide, rfl⟩, Or.inl ⟨by decide, rfl⟩⟩) ⟨x.trans (by decide), y.trans (eT _ _ (by decide)), v.trans (eF _ _ (by decide))⟩
    · obtain ⟨x, y, v⟩ := hs 5 e
      exact key 5 0 0 0 _ _ _ _ e rfl rfl rfl rfl (Or.inr ⟨by decide, Or.inl ⟨by decide, rfl⟩, Or.inl ⟨by decide, rfl⟩, Or.inl ⟨by decide, rfl⟩⟩) ⟨x.trans (by decide), y.trans (eF _ _ (by decide)), v.trans (eF _ _ (by decide))⟩
/-- who is told ahead, and whether that binds -/
def FI (z : Nat → Int32) (n m k : Nat) (fi : Int32) : Prop := fi = -5 ∨ ∃ t, t < n ∧ fi = z (tp t 0) ∧ 0 < k ∧ ¬ z 1 ≤ z 5 - z (27 + 3 * 0 + 1) + 1 ∧ ¬ irem (z 5 + 1) 1440 = 0 ∧ rider z n m (z (27 + 3 * 0)) = some t
theorem sub_back (x y : Int32) : x + (y - x) = y := by rw [Int32.add_comm, Int32.sub_add_cancel]
theorem ends_iff {z : Nat → Int32} {t : Nat} (h : z (tp t 1) = 0 ∨ z (tp t 1) = 1 ∨ z (tp t 1) = 2 ∨ z (tp t 1) = 3 ∨ z (tp t 1) = 4 ∨ z (tp t 1) = 5) : ((0 < z (tp t 1) ∧ z (tp t 1) < 5) ∧ z (tp t 2) = 1) ↔ endsZ z t := by
  unfold endsZ
  rcases h with e | e | e | e | e | e <;> (rw [e]; constructor <;> (rintro ⟨⟨x, y⟩, v⟩; exact ⟨by revert x y; decide, v⟩))
set_option maxHeartbeats 2000000 in
set_option maxRecDepth 100000 in
/-- behind the minute -/
theorem l_minE {I' : Nat → Nat → Int32} {Q' : Nat → Nat → Option Nat} {b' : Nat → Nat} {n' m' k' : Nat} {fi : Int32} (h : CT I Q τ b z w a n m k) (hT : TXI I) (hX : XZ z n k N) (hN : N ≤ 100) (hfi : FI z n m k fi) (g : CT I' Q' τ b' (zMn z) (wSt w a z) (aSt a) n' m' k') (q : FL I I') (hp : AP L I τ z w a N P) (x12 x13 x14 : Option Value) : Sy l 89 (149, 1788) 226 [some (.ref 0), some (.int (z 5)), some (.int (z 9)), some (.int (nI k)), some (.int (z 6)), some (.int (z 7)), some (.int (z 10)), some (.int (Sm (gW z) n)), some (.int (Sm (gE z) n)), some (.int (Sm (gC z) n)), some (.int fi), some (.int (zMn z 9 - z 9)), x12, x13, x14] [] (SC L, I', Q') P := by
  obtain ⟨hM, hL⟩ := h.2.1.2
  obtain ⟨c, hE, hc, hW, hC⟩ := id hX
  have hk := hM.2.2.2.2.1
  have hn := hM.n.2
  obtain ⟨k2, ga, s, hM', hW', hC', hks, e5, e7, e6, e10⟩ := mn_w hM hW hC
  obtain ⟨m2, hL'⟩ := hM'.1
  obtain ⟨x1, x2, x3⟩ := g.nm hM' hL'
  subst x1 x2 x3
  have hR := fR_ok (l := l) (L := L) g (hT.fl q).1
  obtain ⟨mp, ee, e1, e2⟩ := mn_p hM
  have told : zMn z 9 - z 9 = nI ee := by rw [e2, Int32.add_comm, Int32.add_sub_cancel]
  have t0 := nI_lt0 (show ee < 2147483648 by omega)
  have gone : zMn z 7 - z 7 = nI ga := by rw [e7, Int32.add_comm, Int32.add_sub_cancel]
  have rode : zMn z 6 - z 6 - Sm (gC z) n' = nI s := by rw [e6, Int32.add_assoc, Int32.add_comm (z 6), Int32.add_sub_cancel, Int32.add_comm, Int32.add_sub_cancel]
  have g0 := nI_lt0 (show ga < 2147483648 by omega)
  have s0 := nI_lt0 (show s < 2147483648 by omega)
  have kk : nI k - nI ga - nI s = nI k' := by rw [nI_sub (by omega), nI_sub (by omega)]; congr 1; omega
  have paid : z 9 + nI ee = zMn z 9 := e2.symm
  have hM2 : MV (zIt z 1) n' k' := hM'
  have fin := hp 0 I' Q' τ b' _ _ _ _ (by decide) g q (fun _ _ => rfl) (hX.pass hM (i := 1) (by omega) hM2)
  obtain ⟨ce, ce1, ce2, ce3, ce4⟩ := Sm_b2 (p := fun t => (0 < z (tp t 1) ∧ z (tp t 1) < 5) ∧ z (tp t 2) = 1) (f := gE z) (fun t => b2_ex) n'
  by_cases hq : ∃ t, t < n' ∧ (0 < z (tp t 1) ∧ z (tp t 1) < 5) ∧ z (tp t 2) = 1
  · have cp := ce3 hq
    have en : (0 < nI ce) = True := ltT (a := 0) cp (by omega)
    refine wk2 hR ok_89 150 (fun pc => false) ?_
    simp only [kk_89, Option.toList_some, Option.toList_none, ex2, ex, catS, vC, isMk, sym2, popN, goC, callOK, swL, List.map_cons, List.map_nil, List.replicate_zero, List.replicate_succ, List.append_nil, List.nil_append, List.cons_append, List.getElem?_cons_zero, List.getElem?_cons_succ, List.set_cons_zero, List.set_cons_succ, List.length_cons, List.length_nil, List.head?_cons, Nat.reduceAdd, Nat.reduceLT, Nat.reduceLeDiff, Nat.reduceBEq, Nat.reduceEqDiff, Nat.succ_ne_zero, Nat.zero_lt_succ, Nat.le_refl, sc_rows, kc_lit, nc_lit, wlk_rows, uR_s, uR_uR, true_and, and_true, true_or, or_true, false_or, or_false, and_false, false_and, or_self, and_self, if_true, if_false, Bool.false_eq_true, Bool.or_false, Bool.or_true, Bool.false_or, Bool.true_or, not_true_eq_false, not_false_eq_true, forall_const, true_implies, false_implies, implies_true, ↓reduceIte, reduceCtorEq, fR, rd1, rd2, rd3, eq_self, ansCo_s, told, t0, gone, rode, g0, s0, kk, paid, e5, e10, ce2, en, nz_lit, k0 L]
    exact fin
  · have hq' : ∀ t, t < n' → ¬ ((0 < z (tp t 1) ∧ z (tp t 1) < 5) ∧ z (tp t 2) = 1) := fun t ht c => hq ⟨t, ht, c⟩
    have c0 := ce4 hq'
    rw [c0] at ce2
    have en : (0 < nI 0) = False := by decide
    obtain ⟨y9, yt⟩ := mn_q hM hL hW hC hE (by omega) (fun t ht c => hq' t ht ((ends_iff (hM.2.1 t ht).1.1).mpr c))
    have told0 : zMn z 9 - z 9 = 0 := by rw [y9, Int32.sub_self]
    have paid0 : z 9 + 0 = zMn z 9 := by rw [Int32.add_zero, y9]
    have z00 : ((0 : Int32) < 0) = False := by decide
    rcases hfi with rfl | ⟨t, ht, rfl, k0', hp1, hp2, hrd⟩
    · refine wk2 hR ok_89 150 (fun pc => false) ?_
      simp only [kk_89, Option.toList_some, Option.toList_none, ex2, ex, catS, vC, isMk, sym2, popN, goC, callOK, swL, List.map_cons, List.map_nil, List.replicate_zero, List.replicate_succ, List.append_nil, List.nil_append, List.cons_append, List.getElem?_cons_zero, List.getElem?_cons_succ, List.set_cons_zero, List.set_cons_succ, List.length_cons, List.length_nil, List.head?_cons, Nat.reduceAdd, Nat.reduceLT, Nat.reduceLeDiff, Nat.reduceBEq, Nat.reduceEqDiff, Nat.succ_ne_zero, Nat.zero_lt_succ, Nat.le_refl, sc_rows, kc_lit, nc_lit, wlk_rows, uR_s, uR_uR, true_and, and_true, true_or, or_true, false_or, or_false, and_false, false_and, or_self, and_self, if_true, if_false, Bool.false_eq_true, Bool.or_false, Bool.or_true, Bool.false_or, Bool.true_or, not_true_eq_false, not_false_eq_true, forall_const, true_implies, false_implies, implies_true, ↓reduceIte, reduceCtorEq, fR, rd1, rd2, rd3, eq_self, ansCo_s, told0, z00, gone, rode, g0, s0, kk, paid0, e5, e10, ce2, en, cmpL, nz_lit, k0 L]
      exact fin
    · obtain ⟨yd, s', ys, _⟩ := yt t k0' hp1 hp2 hrd
      have hf' : ftz (zMn z) (z (tp t 0)) n' = some t := ftz_u hL' ht (mp t)
      have tx := ansTx_s (m := m') hf'
      have gc0 : Sm (gC z) n' = 0 := by
        obtain ⟨cc, _, c2, _, c4⟩ := Sm_b2 (p := fun t => z (tp t 1) = 1 ∧ z (tp t 2) = 1) (f := gC z) (fun t => b2_ex) n'
        rw [c2, c4 (fun t ht c => hq' t ht ⟨by rw [c.1]; decide, c.2⟩)]
        rfl
      have es : nI s = nI (s' + 1) := by
        rw [e6, gc0, Int32.add_zero] at ys
        have this : z 6 + nI s - z 6 = z 6 + nI (s' + 1) - z 6 := congrArg (fun x => x - z 6) ys
        rwa [Int32.add_comm, Int32.add_sub_cancel, Int32.add_comm, Int32.add_sub_cancel] at this
      have sp : (nI s ≤ 0) = False := by rw [es]; exact leF (b := 0) (by omega) (by omega)
      have pn : (z (tp t 0) < 0) = False := eq_false (Int32.not_lt.mpr (hW.2.2.2.2 t ht).1)
      refine wk2 hR ok_89 150 (fun pc => false) ?_
      simp only [kk_89, Option.toList_some, Option.toList_none, ex2, ex, catS, vC, isMk, sym2, popN, goC, callOK, swL, List.map_cons, List.map_nil, List.replicate_zero, List.replicate_succ, List.append_nil, List.nil_append, List.cons_append, List.getElem?_cons_zero, List.getElem?_cons_succ, List.set_cons_zero, List.set_cons_succ, List.length_cons, List.length_nil, List.head?_cons, Nat.reduceAdd, Nat.reduceLT, Nat.reduceLeDiff, Nat.reduceBEq, Nat.reduceEqDiff, Nat.succ_ne_zero, Nat.zero_lt_succ, Nat.le_refl, sc_rows, kc_lit, nc_lit, wlk_rows, uR_s, uR_uR, true_and, and_true, true_or, or_true, false_or, or_false, and_false, false_and, or_self, and_self, if_true, if_false, Bool.false_eq_true, Bool.or_false, Bool.or_true, Bool.false_or, Bool.true_or, not_true_eq_false, not_false_eq_true, forall_const, true_implies, false_implies, implies_true, ↓reduceIte, reduceCtorEq, fR, rd1, rd2, rd3, eq_self, ansCo_s, told0, z00, gone, rode, g0, s0, sp, pn, tx, yd, kk, paid0, e5, e10, ce2, en, cmpL, nz_lit, k0 L]
      exact fin
set_option maxHeartbeats 2000000 in
set_option maxRecDepth 100000 in
theorem l_minute (h : CT I Q τ b z w a n m k) (hT : TXI I) (hX : XZ z n k N) (hN : N ≤ 100) (h2 : AP L I τ z w a N P) : Runs l 89 [.ref 0] (SC L, I, Q) P := by
  have hR := fR_ok (l := l) (L := L) h hT.1
  obtain ⟨hM, hL⟩ := h.2.1.2
  obtain ⟨c, hE, hc, hW, hC⟩ := id hX
  have hk := hM.2.2.2.2.1
  refine run0 (n := 14) mok_89 ⟨rfl, rfl⟩ rfl ?_
  refine wk2 hR ok_89 60 (fun pc => pc == 54) ?_
  simp only [kk_89, Option.toList_some, Option.toList_none, ex2, ex, catS, vC, isMk, sym2, popN, goC, callOK, swL, List.map_cons, List.map_nil, List.replicate_zero, List.replicate_succ, List.append_nil, List.nil_append, List.cons_append, List.getElem?_cons_zero, List.getElem?_cons_succ, List.set_cons_zero, List.set_cons_succ, List.length_cons, List.length_nil, List.head?_cons, Nat.reduceAdd, Nat.reduceLT, Nat.reduceLeDiff, Nat.reduceBEq, Nat.reduceEqDiff, Nat.succ_ne_zero, Nat.zero_lt_succ, Nat.le_refl, sc_rows, kc_lit, nc_lit, wlk_rows, uR_s, uR_uR, true_and, and_true, true_or, or_true, false_or, or_false, and_false, false_and, or_self, and_self, if_true, if_false, Bool.false_eq_true, Bool.or_false, Bool.or_true, Bool.false_or, Bool.true_or, not_true_eq_false, not_false_eq_true, forall_const, true_implies, false_implies, implies_true, ↓reduceIte, reduceCtorEq, fR, rd1, rd2, rd3, eq_self, ansCo_s, k0 L]
  refine l_minL h hT.1 _ _ _ _ _ _ _ _ _ (fun x11 => ?_) n 0 _ (by omega)
  have hw : whyP z 1 = 0 := by
    unfold whyP
    rw [if_neg (by decide), hE.2.1, nI_up, if_neg]
    rw [show (99999 : Int32) = nI 99999 from rfl, nI_ltI (by omega) (by omega)]
    omega
  have pass : ∀ fi, FI z n m k fi → Sy l 89 (149, 1788) 217 [some (.ref 0), some (.int (z 5)), some (.int (z 9)), some (.int (nI k)), some (.int (z 6)), some (.int (z 7)), some (.int (z 10)), some (.int (Sm (gW z) n)), some (.int (Sm (gE z) n)), some (.int (Sm (gC z) n)), some (.int (nI n)), x11, none, none, none] [.int fi] (SC L, I, Q) P := by
    intro fi hfi
    refine wk2 (fn0_ok l) ok_89 10 (fun pc => false) ?_
    simp only [kk_89, Option.toList_some, Option.toList_none, ex2, ex, catS, vC, isMk, sym2, popN, goC, callOK, swL, List.map_cons, List.map_nil, List.replicate_zero, List.replicate_succ, List.append_nil, List.nil_append, List.cons_append, List.getElem?_cons_zero, List.getElem?_cons_succ, List.set_cons_zero, List.set_cons_succ, List.length_cons, List.length_nil, List.head?_cons, Nat.reduceAdd, Nat.reduceLT, Nat.reduceLeDiff, Nat.reduceBEq, Nat.reduceEqDiff, Nat.succ_ne_zero, Nat.zero_lt_succ, Nat.le_refl, sc_rows, kc_lit, nc_lit, wlk_rows, uR_s, uR_uR, true_and, and_true, true_or, or_true, false_or, or_false, and_false, false_and, or_self, and_self, if_true, if_false, Bool.false_eq_true, Bool.or_false, Bool.or_true, Bool.false_or, Bool.true_or, not_true_eq_false, not_false_eq_true, forall_const, true_implies, false_implies, implies_true, ↓reduceIte, reduceCtorEq, fn0, eq_self, k0 L]
    refine m_pass h 1 (fun c => pass_nn hM hE.2.1 (by omega) c) (fun c => absurd c (by rw [hw]; decide)) (fun _ J Q2 b2' n2 m2 k2 g1 q1 => ?_)
    refine wk2 (fn0_ok l) ok_89 10 (fun pc => pc == 226) ?_
    simp only [kk_89, Option.toList_some, Option.toList_none, ex2, ex, catS, vC, isMk, sym2, popN, goC, callOK, swL, List.map_cons, List.map_nil, List.replicate_zero, List.replicate_succ, List.append_nil, List.nil_append, List.cons_append, List.getElem?_cons_zero, List.getElem?_cons_succ, List.set_cons_zero, List.set_cons_succ, List.length_cons, List.length_nil, List.head?_cons, Nat.reduceAdd, Nat.reduceLT, Nat.reduceLeDiff, Nat.reduceBEq, Nat.reduceEqDiff, Nat.succ_ne_zero, Nat.zero_lt_succ, Nat.le_refl, sc_rows, kc_lit, nc_lit, wlk_rows, uR_s, uR_uR, true_and, and_true, true_or, or_true, false_or, or_false, and_false, false_and, or_self, and_self, if_true, if_false, Bool.false_eq_true, Bool.or_false, Bool.or_true, Bool.false_or, Bool.true_or, not_true_eq_false, not_false_eq_true, forall_const, true_implies, false_implies, implies_true, ↓reduceIte, reduceCtorEq, fn0, eq_self, k0 L]
    exact l_minE h hT hX hN hfi g1 (FL.of q1) h2 _ _ _
  by_cases g0 : k = 0
  · have e0 : (nI k = 0) = True := by rw [g0]; decide
    refine wk2 hR ok_89 20 (fun pc => pc == 217) ?_
    simp only [kk_89, Option.toList_some, Option.toList_none, ex2, ex, catS, vC, isMk, sym2, popN, goC, callOK, swL, List.map_cons, List.map_nil, List.replicate_zero, List.replicate_succ, List.append_nil, List.nil_append, List.cons_append, List.getElem?_cons_zero, List.getElem?_cons_succ, List.set_cons_zero, List.set_cons_succ, List.length_cons, List.length_nil, List.head?_cons, Nat.reduceAdd, Nat.reduceLT, Nat.reduceLeDiff, Nat.reduceBEq, Nat.reduceEqDiff, Nat.succ_ne_zero, Nat.zero_lt_succ, Nat.le_refl, sc_rows, kc_lit, nc_lit, wlk_rows, uR_s, uR_uR, true_and, and_true, true_or, or_true, false_or, or_false, and_false, false_and, or_self, and_self, if_true, if_false, Bool.false_eq_true, Bool.or_false, Bool.or_true, Bool.false_or, Bool.true_or, not_true_eq_false, not_false_eq_true, forall_const, true_implies, false_implies, implies_true, ↓reduceIte, reduceCtorEq, fR, rd1, rd2, rd3, eq_self, e0, k0 L]
    exact pass (-5) (Or.inl rfl)
  · have e0 := nI_0F g0 (show k < 2147483648 by omega)
    have wa := ansWa_j (z := z) (show 0 < k by omega) hk
    have wa0 : ansWa z k 0 0 = z (27 + 3 * 0) := wa.1
    have wa1 : ansWa z k 0 1 = z 5 - z (27 + 3 * 0 + 1) := wa.2
    by_cases g1 : z 1 ≤ z 5 - z (27 + 3 * 0 + 1) + 1
    · refine wk2 hR ok_89 30 (fun pc => pc == 217) ?_
      simp only [kk_89, Option.toList_some, Option.toList_none, ex2, ex, catS, vC, isMk, sym2, popN, goC, callOK, swL, List.map_cons, List.map_nil, List.replicate_zero, List.replicate_succ, List.append_nil, List.nil_append, List.cons_append, List.getElem?_cons_zero, List.getElem?_cons_succ, List.set_cons_zero, List.set_cons_succ, List.length_cons, List.length_nil, List.head?_cons, Nat.reduceAdd, Nat.reduceLT, Nat.reduceLeDiff, Nat.reduceBEq, Nat.reduceEqDiff, Nat.succ_ne_zero, Nat.zero_lt_succ, Nat.le_refl, sc_rows, kc_lit, nc_lit, wlk_rows, uR_s, uR_uR, true_and, and_true, true_or, or_true, false_or, or_false, and_false, false_and, or_self, and_self, if_true, if_false, Bool.false_eq_true, Bool.or_false, Bool.or_true, Bool.false_or, Bool.true_or, not_true_eq_false, not_false_eq_true, forall_const, true_implies, false_implies, implies_true, ↓reduceIte, reduceCtorEq, fR, rd1, rd2, rd3, eq_self, e0, wa1, ansCo_s, eq_true g1, k0 L]
      exact pass (-5) (Or.inl rfl)
    · by_cases g2 : irem (z 5 + 1) 1440 = 0
      · have g2' : (z 5 + 1 - (z 5 + 1) / 1440 * 1440 = 0) = True := eq_true g2
        refine wk2 hR ok_89 30 (fun pc => pc == 217) ?_
        simp only [kk_89, Option.toList_some, Option.toList_none, ex2, ex, catS, vC, isMk, sym2, popN, goC, callOK, swL, List.map_cons, List.map_nil, List.replicate_zero, List.replicate_succ, List.append_nil, List.nil_append, List.cons_append, List.getElem?_cons_zero, List.getElem?_cons_succ, List.set_cons_zero, List.set_cons_succ, List.length_cons, List.length_nil, List.head?_cons, Nat.reduceAdd, Nat.reduceLT, Nat.reduceLeDiff, Nat.reduceBEq, Nat.reduceEqDiff, Nat.succ_ne_zero, Nat.zero_lt_succ, Nat.le_refl, sc_rows, kc_lit, nc_lit, wlk_rows, uR_s, uR_uR, true_and, and_true, true_or, or_true, false_or, or_false, and_false, false_and, or_self, and_self, if_true, if_false, Bool.false_eq_true, Bool.or_false, Bool.or_true, Bool.false_or, Bool.true_or, not_true_eq_false, not_false_eq_true, forall_const, true_implies, false_implies, implies_true, ↓reduceIte, reduceCtorEq, fR, rd1, rd2, rd3, eq_self, e0, wa1, ansCo_s, eq_false g1, g2', nzL, k0 L]
        exact pass (-5) (Or.inl rfl)
      · have g2' : (z 5 + 1 - (z 5 + 1) / 1440 * 1440 = 0) = False := eq_false g2
        have hpl := hM.2.2.2.2.2 0 (by omega)
        have er : ansRi z n m (z (27 + 3 * 0)) = match rider z n m (z (27 + 3 * 0)) with | none => -5 | some t => z (tp t 0) := by unfold ansRi; rw [if_neg (fun q => q hpl.1), if_neg hpl.2]; rfl
        cases hr : rider z n m (z (27 + 3 * 0)) with
        | none =>
          rw [hr] at er
          simp only at er
          refine wk2 hR ok_89 40 (fun pc => pc == 217) ?_
          simp only [kk_89, Option.toList_some, Option.toList_none, ex2, ex, catS, vC, isMk, sym2, popN, goC, callOK, swL, List.map_cons, List.map_nil, List.replicate_zero, List.replicate_succ, List.append_nil, List.nil_append, List.cons_append, List.getElem?_cons_zero, List.getElem?_cons_succ, List.set_cons_zero, List.set_cons_succ, List.length_cons, List.length_nil, List.head?_cons, Nat.reduceAdd, Nat.reduceLT, Nat.reduceLeDiff, Nat.reduceBEq, Nat.reduceEqDiff, Nat.succ_ne_zero, Nat.zero_lt_succ, Nat.le_refl, sc_rows, kc_lit, nc_lit, wlk_rows, uR_s, uR_uR, true_and, and_true, true_or, or_true, false_or, or_false, and_false, false_and, or_self, and_self, if_true, if_false, Bool.false_eq_true, Bool.or_false, Bool.or_true, Bool.false_or, Bool.true_or, not_true_eq_false, not_false_eq_true, forall_const, true_implies, false_implies, implies_true, ↓reduceIte, reduceCtorEq, fR, rd1, rd2, rd3, eq_self, e0, wa0, wa1, ansCo_s, eq_false g1, g2', er, nzL, k0 L]
          exact pass (-5) (Or.inl rfl)
        | some t =>
          rw [hr] at er
          simp only at er
          obtain ⟨ht, -⟩ := rider_in hL hr
          refine wk2 hR ok_89 40 (fun pc => pc == 217) ?_
          simp only [kk_89, Option.toList_some, Option.toList_none, ex2, ex, catS, vC, isMk, sym2, popN, goC, callOK, swL, List.map_cons, List.map_nil, List.replicate_zero, List.replicate_succ, List.append_nil, List.nil_append, List.cons_append, List.getElem?_cons_zero, List.getElem?_cons_succ, List.set_cons_zero, List.set_cons_succ, List.length_cons, List.length_nil, List.head?_cons, Nat.reduceAdd, Nat.reduceLT, Nat.reduceLeDiff, Nat.reduceBEq, Nat.reduceEqDiff, Nat.succ_ne_zero, Nat.zero_lt_succ, Nat.le_refl, sc_rows, kc_lit, nc_lit, wlk_rows, uR_s, uR_uR, true_and, and_true, true_or, or_true, false_or, or_false, and_false, false_and, or_self, and_self, if_true, if_false, Bool.false_eq_true, Bool.or_false, Bool.or_true, Bool.false_or, Bool.true_or, not_true_eq_false, not_false_eq_true, forall_const, true_implies, false_implies, implies_true, ↓reduceIte, reduceCtorEq, fR, rd1, rd2, rd3, eq_self, e0, wa0, wa1, ansCo_s, eq_false g1, g2', er, nzL, k0 L]
          exact pass _ (Or.inr ⟨t, ht, rfl, by omega, g1, g2, hr⟩)
end LMI
