/-! a passenger who comes: the class, the reference, what holds -/
def whyJ (z : Nat → Int32) (to : Int32) : Int32 := if ¬ (0 ≤ to ∧ to ≤ 20) then -1 else if to = 10 then -2 else if z 13 = 15 then -3 else 0
def zJoin (z : Nat → Int32) (to : Int32) : Nat → Int32 := upd (upd (upd (upd (upd z (27 + 3 * ix (z 13)) to) (27 + 3 * ix (z 13) + 1) (z 5)) (27 + 3 * ix (z 13) + 2) (z 14)) 14 (z 14 + 1)) 13 (z 13 + 1)
theorem zJoin_o (z : Nat → Int32) (to : Int32) {j : Nat} (h : j < 27 ∧ j ≠ 13 ∧ j ≠ 14 ∨ j < 27 + 3 * ix (z 13) ∧ 27 ≤ j ∨ 27 + 3 * ix (z 13) + 3 ≤ j) : zJoin z to j = z j := by
  simp only [zJoin]
  rw [upd_n _ _ (by omega), upd_n _ _ (by omega), upd_n _ _ (by omega), upd_n _ _ (by omega), upd_n _ _ (by omega)]
theorem zJoin_13 (z : Nat → Int32) (to : Int32) : zJoin z to 13 = z 13 + 1 := by simp only [zJoin]; rw [upd_e]
theorem zJoin_14 (z : Nat → Int32) (to : Int32) : zJoin z to 14 = z 14 + 1 := by simp only [zJoin]; rw [upd_n _ _ (by omega), upd_e]
theorem zJoin_w (z : Nat → Int32) (to : Int32) : zJoin z to (27 + 3 * ix (z 13)) = to ∧ zJoin z to (27 + 3 * ix (z 13) + 1) = z 5 ∧ zJoin z to (27 + 3 * ix (z 13) + 2) = z 14 := by
  refine ⟨?_, ?_, ?_⟩
  · simp only [zJoin]; rw [upd_n _ _ (by omega), upd_n _ _ (by omega), upd_n _ _ (by omega), upd_n _ _ (by omega), upd_e]
  · simp only [zJoin]; rw [upd_n _ _ (by omega), upd_n _ _ (by omega), upd_n _ _ (by omega), upd_e]
  · simp only [zJoin]; rw [upd_n _ _ (by omega), upd_n _ _ (by omega), upd_e]
theorem MV.join {z : Nat → Int32} {n k : Nat} {to : Int32} (h : MV z n k) (hk15 : k < 15) (hp : Pl to ∧ to ≠ 10) : MV (zJoin z to) n (k + 1) := by
  obtain ⟨⟨m, hl⟩, ht, hs, hk, hk2, hw⟩ := h
  have e13 : ix (z 13) = k := by rw [hk]; exact ix_nI (by omega)
  have o : ∀ j, (j < 27 ∧ j ≠ 13 ∧ j ≠ 14 ∨ j < 27 + 3 * k ∧ 27 ≤ j ∨ 27 + 3 * k + 3 ≤ j) → zJoin z to j = z j := fun j hj => zJoin_o z to (by rw [e13]; exact hj)
  have ot : ∀ j u, zJoin z to (tp j u) = z (tp j u) := fun j u => o _ (by have := tp_ge j u; omega)
  refine ⟨⟨m, LnX.same hl (fun j => ot j 0) (fun j _ => ot j 1) (fun q a b c d => o q (by omega))⟩, fun i hi => (ht i hi).same (fun u _ => ot i u), hs.same (fun q hq => o q (by omega)), by rw [zJoin_13, hk, nI_up], by omega, fun r hr => ?_⟩
  by_cases q : r = k
  · subst q
    have := (zJoin_w z to).1
    rw [e13] at this
    rw [this]
    exact hp
  · rw [o _ (by omega)]
    exact hw r (by omega)
theorem EX.join {z : Nat → Int32} {n k b c : Nat} {to : Int32} (h : EX z n k b c) (hk : z 13 = nI k) (hk15 : k < 15) (hb : b < 1000000) : EX (zJoin z to) n (k + 1) (b + 1) c := by
  obtain ⟨h1, h3, ⟨a, a1, a2, a3⟩, h4⟩ := h
  have e13 : ix (z 13) = k := by rw [hk]; exact ix_nI (by omega)
  have o : ∀ j, (j < 27 ∧ j ≠ 13 ∧ j ≠ 14 ∨ j < 27 + 3 * k ∧ 27 ≤ j ∨ 27 + 3 * k + 3 ≤ j) → zJoin z to j = z j := fun j hj => zJoin_o z to (by rw [e13]; exact hj)
  have w := zJoin_w z to
  rw [e13] at w
  refine ⟨fun i hi => (h1 i hi).same (o _ (by have := tp_ge i 1; omega)) (o _ (by have := tp_ge i 2; omega)), by rw [o 5 (by omega)]; exact h3, ⟨a + 1, by rw [zJoin_14, a1, nI_up], by omega, fun r hr => ?_⟩, fun r r' hr hr' e => ?_⟩
  · by_cases q : r = k
    · subst q
      exact ⟨c, a, by rw [w.2.1]; exact h3, Nat.le_refl c, by rw [w.2.2]; exact a1, by omega⟩
    · obtain ⟨t, u, x, y, v, p⟩ := a3 r (by omega)
      exact ⟨t, u, by rw [o _ (by omega)]; exact x, y, by rw [o _ (by omega)]; exact v, by omega⟩
  · have key : ∀ r, r < k → z (27 + 3 * r + 2) ≠ z 14 := fun r hr e => by
      obtain ⟨t, u, x, y, v, p⟩ := a3 r hr
      rw [v, a1] at e
      have := (nI_eq (by omega) (by omega)).mp e
      omega
    by_cases q : r = k
    · by_cases q' : r' = k
      · omega
      · rw [q, w.2.2, o _ (by omega)] at e
        exact absurd e.symm (key r' (by omega))
    · by_cases q' : r' = k
      · rw [q', w.2.2, o _ (by omega)] at e
        exact absurd e (key r (by omega))
      · rw [o _ (by omega), o _ (by omega)] at e
        exact h4 r r' (by omega) (by omega) e
theorem whyJ_0 {z : Nat → Int32} {to : Int32} {k : Nat} (hk : z 13 = nI k) (hk2 : k ≤ 15) (h : whyJ z to = 0) : (Pl to ∧ to ≠ 10) ∧ k < 15 := by
  unfold whyJ at h
  by_cases g : 0 ≤ to ∧ to ≤ 20
  · rw [if_neg (fun q => q g)] at h
    by_cases g2 : to = 10
    · rw [if_pos g2] at h; exact absurd h (by decide)
    · rw [if_neg g2] at h
      by_cases g3 : z 13 = 15
      · rw [if_pos g3] at h; exact absurd h (by decide)
      · refine ⟨⟨g, g2⟩, ?_⟩
        by_cases q : k = 15
        · subst q; exact absurd hk g3
        · omega
  · rw [if_pos g] at h; exact absurd h (by decide)
theorem XV.join {z : Nat → Int32} {b : Nat} {to : Int32} (h : XV z b) (hb : b < 1000000) (hw : whyJ z to = 0) : XV (zJoin z to) (b + 1) := by
  obtain ⟨n, k, c, hM, hE, hc⟩ := h
  obtain ⟨h1, h2⟩ := whyJ_0 hM.2.2.2.1 hM.2.2.2.2.1 hw
  exact ⟨n, k + 1, c, hM.join h2 h1, hE.join hM.2.2.2.1 h2 hb, hc⟩
section E2
variable {l : Launch} {L : Nat} {I : Nat → Nat → Int32} {Q : Nat → Nat → Option Nat} {P : Option Value → PH → Prop} {B : Nat} {σ : Nat → Nat} {z : Nat → Int32} {n m k : Nat}
theorem CA.join (hC : CA I B σ z n m k) (hS : ∀ i, i < 12 → σ i < 12) (hn : n ≤ 12) (hm : m ≤ 12) (hk : z 13 = nI k) (hk15 : k < 15) (to : Int32) : CA (uR (uR (uR (uR I (B + 16) (upd (I (B + 16)) k to)) (B + 17) (upd (I (B + 17)) k (z 5))) (B + 18) (upd (I (B + 18)) k (z 14))) (B + 15) (upd (upd (I (B + 15)) 4 (z 14 + 1)) 0 (nI (k + 1)))) B σ (zJoin z to) n m (k + 1) := by
  obtain ⟨⟨⟨a1, a2⟩, a3⟩, b, c, d, e, ⟨w1, w2⟩, w3⟩ := hC
  have e13 : ix (z 13) = k := by rw [hk]; exact ix_nI (by omega)
  have o : ∀ j, (j < 27 ∧ j ≠ 13 ∧ j ≠ 14 ∨ j < 27 + 3 * k ∧ 27 ≤ j ∨ 27 + 3 * k + 3 ≤ j) → zJoin z to j = z j := fun j hj => zJoin_o z to (by rw [e13]; exact hj)
  have far : ∀ q, q < B + 15 ∨ B + 19 ≤ q → uR (uR (uR (uR I (B + 16) (upd (I (B + 16)) k to)) (B + 17) (upd (I (B + 17)) k (z 5))) (B + 18) (upd (I (B + 18)) k (z 14))) (B + 15) (upd (upd (I (B + 15)) 4 (z 14 + 1)) 0 (nI (k + 1))) q = I q := fun q hq => by
    rw [uR_n _ _ (by omega), uR_n _ _ (by omega), uR_n _ _ (by omega), uR_n _ _ (by omega)]
  have w := zJoin_w z to
  rw [e13] at w
  refine ⟨⟨⟨?_, ?_⟩, fun u h1 h2 => ?_⟩, fun j hj u hu => ?_, fun j h1 h2 u hu => ?_, fun j hj => ?_, fun j hj => ?_, ⟨?_, ?_⟩, fun q hq => ⟨?_, ?_, ?_⟩⟩
  · rw [far _ (by omega), o _ (by omega)]; exact a1
  · rw [far _ (by omega), o _ (by omega)]; exact a2
  · rw [far _ (by omega), o _ (by omega)]; exact a3 u h1 h2
  · rw [far _ (by have := hS j (by omega); omega), o _ (by have := tp_ge j (cm u); omega)]; exact b j hj u hu
  · rw [far _ (by have := hS j (by omega); omega)]; exact c j h1 h2 u hu
  · rw [far _ (by omega), o _ (by omega)]; exact d j hj
  · rw [far _ (by omega), o _ (by omega)]; exact e j hj
  · rw [uR_s, upd_e, zJoin_13, hk, nI_up]
  · rw [uR_s, upd_n _ _ (by omega), upd_e, zJoin_14]
  · rw [uR_n _ _ (by omega), uR_n _ _ (by omega), uR_n _ _ (by omega), uR_s]
    by_cases h : q = k
    · subst h; rw [upd_e]; exact w.1.symm
    · rw [upd_n _ _ h, o _ (by omega)]; exact (w3 q (by omega)).1
  · rw [uR_n _ _ (by omega), uR_n _ _ (by omega), uR_s]
    by_cases h : q = k
    · subst h; rw [upd_e]; exact w.2.1.symm
    · rw [upd_n _ _ h, o _ (by omega)]; exact (w3 q (by omega)).2.1
  · rw [uR_n _ _ (by omega), uR_s]
    by_cases h : q = k
    · subst h; rw [upd_e]; exact w.2.2.symm
    · rw [upd_n _ _ h, o _ (by omega)]; exact (w3 q (by omega)).2.2
set_option maxRecDepth 100000 in
theorem c_letJoin (hB : TB B) (hQ : QT0 Q B) (hS : QS Q B σ) (hM : MV z n k) (hL : Ln z n m) (hC : CA I B σ z n m k) (to : Int32) (h1 : whyJ z to < 0 → P (some (.int (whyJ z to))) (SC L, I, Q)) (h2 : whyJ z to = 0 → ∀ I', CA I' B σ (zJoin z to) n m (k + 1) → Fr I I' B → P (some (.int (nI (k + 1)))) (SC L, I', Q)) : Runs l 28 [.ref B, .int to] (SC L, I, Q) P := by
  have w := hC.tw
  have hk := hM.2.2.2.2.1
  have hkz := hM.2.2.2.1
  have hn := hM.n.2
  have hm := hL.2.2.2.2.2.2.2
  have e1 : I (B + 15) 0 = nI k := w.2.2.2.2.2.2.2.2.2.2.2.2.2.1.trans hkz
  have e4 := w.2.2.2.2.2.2.2.2.2.2.2.2.2.2
  refine run0 (n := 0) mok_28 ⟨rfl, rfl⟩ rfl ?_
  unfold whyJ at h1 h2
  by_cases g : 0 ≤ to ∧ to ≤ 20
  · rw [if_neg (fun q => q g)] at h1 h2
    by_cases g2 : to = 10
    · rw [if_pos g2] at h1
      subst g2
      refine wk (gn1_ok l L) ok_28 40 (fun pc => false) ?_
      simp only [gn1, kk_28, Option.toList_some, Option.toList_none, ex, catS, vC, isMk, sym, popN, goC, callOK, swL, List.map_cons, List.map_nil, List.replicate_zero, List.replicate_succ, List.append_nil, List.nil_append, List.cons_append, List.getElem?_cons_zero, List.getElem?_cons_succ, List.set_cons_zero, List.set_cons_succ, List.length_cons, List.length_nil, List.head?_cons, Nat.reduceAdd, Nat.reduceLT, Nat.reduceLeDiff, Nat.reduceBEq, Nat.reduceEqDiff, Nat.succ_ne_zero, Nat.zero_lt_succ, Nat.le_refl, sc_rows, kc_lit, nc_lit, wlk_rows, uR_s, uR_uR, true_and, and_true, true_or, or_true, false_or, or_false, and_false, false_and, or_self, and_self, if_true, if_false, Bool.false_eq_true, Bool.or_false, Bool.or_true, Bool.false_or, Bool.true_or, not_true_eq_false, not_false_eq_true, forall_const, true_implies, false_implies, implies_true, reduceIte, reduceCtorEq, b2_t g, fC_at, fC_begin, fC_place, fC_setg, fC_fare, fC_stays, fC_tired, fC_long, fC_min, CTh_eq, CXh_eq, ix_lit, lt_lit, cl_lit, nz_lit, in5, in12, abs_sz]
      exact h1 (by decide)
    · rw [if_neg g2] at h1 h2
      by_cases g3 : k = 15
      · subst g3
        have e15 : z 13 = 15 := hkz
        rw [if_pos e15] at h1
        have ek : I (B + 15) 0 = 15 := e1
        refine wk (gn1_ok l L) ok_28 40 (fun pc => false) ?_
        simp only [gn1, kk_28, Option.toList_some, Option.toList_none, ex, catS, vC, isMk, sym, popN, goC, callOK, swL, List.map_cons, List.map_nil, List.replicate_zero, List.replicate_succ, List.append_nil, List.nil_append, List.cons_append, List.getElem?_cons_zero, List.getElem?_cons_succ, List.set_cons_zero, List.set_cons_succ, List.length_cons, List.length_nil, List.head?_cons, Nat.reduceAdd, Nat.reduceLT, Nat.reduceLeDiff, Nat.reduceBEq, Nat.reduceEqDiff, Nat.succ_ne_zero, Nat.zero_lt_succ, Nat.le_refl, sc_rows, kc_lit, nc_lit, wlk_rows, uR_s, uR_uR, true_and, and_true, true_or, or_true, false_or, or_false, and_false, false_and, or_self, and_self, if_true, if_false, Bool.false_eq_true, Bool.or_false, Bool.or_true, Bool.false_or, Bool.true_or, not_true_eq_false, not_false_eq_true, forall_const, true_implies, false_implies, implies_true, reduceIte, reduceCtorEq, b2_t g, eq_false g2, hB, hQ, qt hQ, tbk hB, tbx hB, ek, show ((15 : Int32) < 15) = False by decide, fC_at, fC_begin, fC_place, fC_setg, fC_fare, fC_stays, fC_tired, fC_long, fC_min, CTh_eq, CXh_eq, ix_lit, lt_lit, cl_lit, nz_lit, in5, in12, abs_sz]
        exact h1 (by decide)
      · have e15 : ¬ z 13 = 15 := by rw [hkz, show (15 : Int32) = nI 15 from rfl, nI_eq (by omega) (by omega)]; exact g3
        rw [if_neg e15] at h2
        have elt : (nI k < 15) = True := by rw [show (15 : Int32) = nI 15 from rfl]; exact ltT (by omega) (by omega)
        refine wk (gn1_ok l L) ok_28 40 (fun pc => false) ?_
        simp only [gn1, kk_28, Option.toList_some, Option.toList_none, ex, catS, vC, isMk, sym, popN, goC, callOK, swL, List.map_cons, List.map_nil, List.replicate_zero, List.replicate_succ, List.append_nil, List.nil_append, List.cons_append, List.getElem?_cons_zero, List.getElem?_cons_succ, List.set_cons_zero, List.set_cons_succ, List.length_cons, List.length_nil, List.head?_cons, Nat.reduceAdd, Nat.reduceLT, Nat.reduceLeDiff, Nat.reduceBEq, Nat.reduceEqDiff, Nat.succ_ne_zero, Nat.zero_lt_succ, Nat.le_refl, sc_rows, kc_lit, nc_lit, wlk_rows, uR_s, uR_uR, true_and, and_true, true_or, or_true, false_or, or_false, and_false, false_and, or_self, and_self, if_true, if_false, Bool.false_eq_true, Bool.or_false, Bool.or_true, Bool.false_or, Bool.true_or, not_true_eq_false, not_false_eq_true, forall_const, true_implies, false_implies, implies_true, reduceIte, reduceCtorEq, b2_t g, eq_false g2, hB, hQ, qt hQ, tbk hB, tbx hB, e1, w.2.2.1, elt, fC_at, fC_begin, fC_place, fC_setg, fC_fare, fC_stays, fC_tired, fC_long, fC_min, CTh_eq, CXh_eq, ix_lit, lt_lit, cl_lit, nz_lit, in5, in12, abs_sz]
        refine run0 (n := 0) mok_13 ⟨rfl, rfl⟩ rfl ?_
        refine wk ((fn0_ok l)) ok_13 60 (fun pc => false) ?_
        simp only [fn0, kk_13, Option.toList_some, Option.toList_none, ex, catS, vC, isMk, sym, popN, goC, callOK, swL, List.map_cons, List.map_nil, List.replicate_zero, List.replicate_succ, List.append_nil, List.nil_append, List.cons_append, List.getElem?_cons_zero, List.getElem?_cons_succ, List.set_cons_zero, List.set_cons_succ, List.length_cons, List.length_nil, List.head?_cons, Nat.reduceAdd, Nat.reduceLT, Nat.reduceLeDiff, Nat.reduceBEq, Nat.reduceEqDiff, Nat.succ_ne_zero, Nat.zero_lt_succ, Nat.le_refl, sc_rows, kc_lit, nc_lit, wlk_rows, uR_s, uR_uR, true_and, and_true, true_or, or_true, false_or, or_false, and_false, false_and, or_self, and_self, if_true, if_false, Bool.false_eq_true, Bool.or_false, Bool.or_true, Bool.false_or, Bool.true_or, not_true_eq_false, not_false_eq_true, forall_const, true_implies, false_implies, implies_true, reduceIte, reduceCtorEq, qt hQ, tbk hB, tbx hB, tbn L hB, e1, e4, elt, ixp (show k < 15 by omega) (by omega), rws B (show 0 < 12 by omega), upd_e, upd_n _ _ (show 0 ≠ 4 by omega), nI_up]
        refine wk ((fn0_ok l)) ok_28 60 (fun pc => false) ?_
        simp only [fn0, kk_28, Option.toList_some, Option.toList_none, ex, catS, vC, isMk, sym, popN, goC, callOK, swL, List.map_cons, List.map_nil, List.replicate_zero, List.replicate_succ, List.append_nil, List.nil_append, List.cons_append, List.getElem?_cons_zero, List.getElem?_cons_succ, List.set_cons_zero, List.set_cons_succ, List.length_cons, List.length_nil, List.head?_cons, Nat.reduceAdd, Nat.reduceLT, Nat.reduceLeDiff, Nat.reduceBEq, Nat.reduceEqDiff, Nat.succ_ne_zero, Nat.zero_lt_succ, Nat.le_refl, sc_rows, kc_lit, nc_lit, wlk_rows, uR_s, uR_uR, true_and, and_true, true_or, or_true, false_or, or_false, and_false, false_and, or_self, and_self, if_true, if_false, Bool.false_eq_true, Bool.or_false, Bool.or_true, Bool.false_or, Bool.true_or, not_true_eq_false, not_false_eq_true, forall_const, true_implies, false_implies, implies_true, reduceIte, reduceCtorEq, qt hQ, tbk hB, tbx hB, upd_e]
        refine h2 rfl _ (hC.join hS.2.1 hn hm hkz (by omega) to) ?_
        exact (((Fr.up I _ (by omega)).tr (Fr.up _ _ (by omega))).tr (Fr.up _ _ (by omega))).tr (Fr.up _ _ (by omega))
  · rw [if_pos g] at h1
    refine wk (gn1_ok l L) ok_28 40 (fun pc => false) ?_
    simp only [gn1, kk_28, Option.toList_some, Option.toList_none, ex, catS, vC, isMk, sym, popN, goC, callOK, swL, List.map_cons, List.map_nil, List.replicate_zero, List.replicate_succ, List.append_nil, List.nil_append, List.cons_append, List.getElem?_cons_zero, List.getElem?_cons_succ, List.set_cons_zero, List.set_cons_succ, List.length_cons, List.length_nil, List.head?_cons, Nat.reduceAdd, Nat.reduceLT, Nat.reduceLeDiff, Nat.reduceBEq, Nat.reduceEqDiff, Nat.succ_ne_zero, Nat.zero_lt_succ, Nat.le_refl, sc_rows, kc_lit, nc_lit, wlk_rows, uR_s, uR_uR, true_and, and_true, true_or, or_true, false_or, or_false, and_false, false_and, or_self, and_self, if_true, if_false, Bool.false_eq_true, Bool.or_false, Bool.or_true, Bool.false_or, Bool.true_or, not_true_eq_false, not_false_eq_true, forall_const, true_implies, false_implies, implies_true, reduceIte, reduceCtorEq, b2_f g, fC_at, fC_begin, fC_place, fC_setg, fC_fare, fC_stays, fC_tired, fC_long, fC_min, CTh_eq, CXh_eq, ix_lit, lt_lit, cl_lit, nz_lit, in5, in12, abs_sz]
    exact h1 (by decide)
end E2

