/-! a setting: the class, the reference, what holds -/
def loS (j : Nat) : Int32 := if j = 3 then 30 else 1
def hiS (j : Nat) : Int32 := if j = 0 then 9 else if j = 2 then 20 else if j = 3 then 999 else 240
/-- the class's arrays that nobody writes -/
def KonI (I : Nat → Nat → Int32) : Prop := ∀ j, j < 5 → I 1000 j = loS j ∧ I 1001 j = hiS j
def whyS (z : Nat → Int32) (wh v : Int32) : Int32 := if ¬ (0 ≤ wh ∧ wh < 5) then -1 else if ¬ (loS (ix wh) ≤ v ∧ v ≤ hiS (ix wh)) then -2 else if z (ix wh) = v then -5 else 0
theorem nn5 {x : Int32} (h : 0 ≤ x ∧ x < 5) : ∃ j, j < 5 ∧ x = nI j := by
  obtain ⟨j, hj, rfl⟩ := nI_of (Int32.not_lt.mpr h.1)
  refine ⟨j, ?_, rfl⟩
  have := h.2
  rw [show (5 : Int32) = nI 5 from rfl, nI_ltI (by omega) (by omega)] at this
  exact this
theorem whyS_0 {z : Nat → Int32} {wh v : Int32} (h : whyS z wh v = 0) : ∃ j, j < 5 ∧ wh = nI j ∧ (loS j ≤ v ∧ v ≤ hiS j) ∧ z j ≠ v := by
  unfold whyS at h
  by_cases g : 0 ≤ wh ∧ wh < 5
  · rw [if_neg (fun q => q g)] at h
    obtain ⟨j, hj, rfl⟩ := nn5 g
    rw [ix_nI (by omega)] at h
    by_cases g2 : loS j ≤ v ∧ v ≤ hiS j
    · rw [if_neg (fun q => q g2)] at h
      by_cases g3 : z j = v
      · rw [if_pos g3] at h; exact absurd h (by decide)
      · exact ⟨j, hj, rfl, g2, g3⟩
    · rw [if_pos g2] at h; exact absurd h (by decide)
  · rw [if_pos g] at h; exact absurd h (by decide)
theorem SetOK.get {z : Nat → Int32} (h : SetOK z) {j : Nat} (hj : j < 5) : 0 ≤ z j := by
  have key : ∀ x : Int32, 1 ≤ x → 0 ≤ x := fun x hx => i32_le_trans (by decide) hx
  match j, hj with
  | 0, _ => exact key _ h.1.1
  | 1, _ => exact key _ h.2.1.1
  | 2, _ => exact key _ h.2.2.1.1
  | 3, _ => exact i32_le_trans (by decide) h.2.2.2.1.1
  | 4, _ => exact key _ h.2.2.2.2.1
theorem SetOK.set {z : Nat → Int32} (h : SetOK z) {j : Nat} (hj : j < 5) {v : Int32} (hv : loS j ≤ v ∧ v ≤ hiS j) : SetOK (upd z j v) := by
  obtain ⟨h0, h1, h2, h3, h4⟩ := h
  match j, hj with
  | 0, _ => exact ⟨hv, h1, h2, h3, h4⟩
  | 1, _ => exact ⟨h0, hv, h2, h3, h4⟩
  | 2, _ => exact ⟨h0, h1, hv, h3, h4⟩
  | 3, _ => exact ⟨h0, h1, h2, hv, h4⟩
  | 4, _ => exact ⟨h0, h1, h2, h3, hv⟩
theorem MV.set {z : Nat → Int32} {n k j : Nat} {v : Int32} (h : MV z n k) (hj : j < 5) (hv : loS j ≤ v ∧ v ≤ hiS j) : MV (upd z j v) n k := by
  obtain ⟨⟨m, hl⟩, ht, hs, hk, hk2, hw⟩ := h
  have o : ∀ q, q ≠ j → upd z j v q = z q := fun q hq => upd_n _ _ hq
  have ot : ∀ i u, upd z j v (tp i u) = z (tp i u) := fun i u => o _ (by have := tp_ge i u; omega)
  exact ⟨⟨m, LnX.same hl (fun i => ot i 0) (fun i _ => ot i 1) (fun q a b c d => o q (by omega))⟩, fun i hi => (ht i hi).same (fun u _ => ot i u), hs.set hj hv, by rw [o 13 (by omega)]; exact hk, hk2, fun r hr => by rw [o _ (by omega)]; exact hw r hr⟩
theorem XV.set {z : Nat → Int32} {b j : Nat} {v : Int32} (h : XV z b) (hj : j < 5) (hv : loS j ≤ v ∧ v ≤ hiS j) : XV (upd z j v) b := by
  obtain ⟨n, k, c, hM, hE, hc⟩ := h
  have o : ∀ q, q ≠ j → upd z j v q = z q := fun q hq => upd_n _ _ hq
  exact ⟨n, k, c, hM.set hj hv, hE.same hM.2.2.2.2.1 (o 5 (by omega)) (o 14 (by omega)) (fun q a b => o q (by omega)) (fun i hi => (hE.1 i hi).same (o _ (by have := tp_ge i 1; omega)) (o _ (by have := tp_ge i 2; omega))), hc⟩
/-- the reference has recorded its state -/
def RC (I I' : Nat → Nat → Int32) (a : Nat) : Prop := I' 152 = recP (I 152) (I 150) a ∧ (∀ j, j ≠ 3 → j ≠ 10 → j ≠ 11 → I' 149 j = I 149 j) ∧ I' 149 3 = nI (aSt a) ∧ ∀ p, (p < 149 ∨ p = 153 ∨ p = 154 ∨ 155 < p) → I' p = I p
theorem RC.of {I I' : Nat → Nat → Int32} {a : Nat} (h1 : I' 152 = recP (I 152) (I 150) a) (h2 : I' 149 = upd (I 149) 3 (nI (aSt a))) (h3 : ∀ p, p ≠ 152 → p ≠ 149 → I' p = I p) : RC I I' a :=
  ⟨h1, fun j hj _ _ => by rw [h2, upd_n _ _ hj], by rw [h2, upd_e], fun p hp => h3 p (by omega) (by omega)⟩
theorem RC.z {I I' : Nat → Nat → Int32} {a : Nat} (h : RC I I' a) (g : Nat → Int32) : RC I (uR I' 150 g) a :=
  ⟨by rw [uR_n _ _ (by omega)]; exact h.1, fun j a b c => by rw [uR_n _ _ (by omega)]; exact h.2.1 j a b c, by rw [uR_n _ _ (by omega)]; exact h.2.2.1, fun p hp => by rw [uR_n _ _ (by omega)]; exact h.2.2.2 p hp⟩
section E3
variable {l : Launch} {L : Nat} {I : Nat → Nat → Int32} {Q : Nat → Nat → Option Nat} {P : Option Value → PH → Prop} {B : Nat} {σ : Nat → Nat} {z : Nat → Int32} {n m k : Nat}
theorem CA.setg (hC : CA I B σ z n m k) (hS : ∀ i, i < 12 → σ i < 12) (hn : n ≤ 12) (hm : m ≤ 12) (hk : k ≤ 15) {j : Nat} (hj : j < 5) (v : Int32) : CA (uR I (B + 19) (upd (I (B + 19)) j v)) B σ (upd z j v) n m k := by
  obtain ⟨⟨⟨a1, a2⟩, a3⟩, b, c, d, e, ⟨w1, w2⟩, w3⟩ := hC
  have o : ∀ q, q ≠ j → upd z j v q = z q := fun q hq => upd_n _ _ hq
  have far : ∀ q, q ≠ B + 19 → uR I (B + 19) (upd (I (B + 19)) j v) q = I q := fun q hq => uR_n _ _ hq
  refine ⟨⟨⟨?_, ?_⟩, fun u h1 h2 => ?_⟩, fun i hi u hu => ?_, fun i h1 h2 u hu => ?_, fun i hi => ?_, fun i hi => ?_, ⟨?_, ?_⟩, fun q hq => ?_⟩
  · rw [far _ (by omega), o _ (by omega)]; exact a1
  · rw [far _ (by omega), o _ (by omega)]; exact a2
  · rw [far _ (by omega), o _ (by omega)]; exact a3 u h1 h2
  · rw [far _ (by have := hS i (by omega); omega), o _ (by have := tp_ge i (cm u); omega)]; exact b i hi u hu
  · rw [far _ (by have := hS i (by omega); omega)]; exact c i h1 h2 u hu
  · rw [far _ (by omega), o _ (by omega)]; exact d i hi
  · rw [uR_s]
    by_cases q : i = j
    · subst q; rw [upd_e, upd_e]
    · rw [upd_n _ _ q, o _ q]; exact e i hi
  · rw [far _ (by omega), o _ (by omega)]; exact w1
  · rw [far _ (by omega), o _ (by omega)]; exact w2
  · rw [far _ (by omega), far _ (by omega), far _ (by omega), o _ (by omega), o _ (by omega), o _ (by omega)]; exact w3 q hq
theorem kb (L : Nat) : KC 1000 = 11 ∧ KC 1001 = 11 ∧ NC L 1000 = 5 ∧ NC L 1001 = 5 := ⟨rfl, rfl, rfl, rfl⟩
set_option maxRecDepth 100000 in
theorem c_change (hB : TB B) (hQ : QT0 Q B) (hS : QS Q B σ) (hK : KonI I) (hM : MV z n k) (hL : Ln z n m) (hC : CA I B σ z n m k) (wh v : Int32) (h1 : whyS z wh v < 0 → P (some (.int (whyS z wh v))) (SC L, I, Q)) (h2 : whyS z wh v = 0 → ∀ I', CA I' B σ (upd z (ix wh) v) n m k → Fr I I' B → P (some (.int (z (ix wh)))) (SC L, I', Q)) : Runs l 27 [.ref B, .int wh, .int v] (SC L, I, Q) P := by
  have hk := hM.2.2.2.2.1
  have hn := hM.n.2
  have hm := hL.2.2.2.2.2.2.2
  refine run0 (n := 1) mok_27 ⟨rfl, rfl⟩ rfl ?_
  unfold whyS at h1 h2
  by_cases g : 0 ≤ wh ∧ wh < 5
  · rw [if_neg (fun q => q g)] at h1 h2
    obtain ⟨j, hj, rfl⟩ := nn5 g
    rw [ix_nI (by omega)] at h1 h2
    obtain ⟨k1, k2⟩ := hK j hj
    have es : I (B + 19) j = z j := hC.2.2.2.2.1 j hj
    by_cases g2 : loS j ≤ v ∧ v ≤ hiS j
    · rw [if_neg (fun q => q g2)] at h1 h2
      by_cases g3 : z j = v
      · rw [if_pos g3] at h1
        refine wk (gn1_ok l L) ok_27 60 (fun pc => false) ?_
        simp only [gn1, kk_27, Option.toList_some, Option.toList_none, ex, catS, vC, isMk, sym, popN, goC, callOK, swL, List.map_cons, List.map_nil, List.replicate_zero, List.replicate_succ, List.append_nil, List.nil_append, List.cons_append, List.getElem?_cons_zero, List.getElem?_cons_succ, List.set_cons_zero, List.set_cons_succ, List.length_cons, List.length_nil, List.head?_cons, Nat.reduceAdd, Nat.reduceLT, Nat.reduceLeDiff, Nat.reduceBEq, Nat.reduceEqDiff, Nat.succ_ne_zero, Nat.zero_lt_succ, Nat.le_refl, sc_rows, kc_lit, nc_lit, wlk_rows, uR_s, uR_uR, true_and, and_true, true_or, or_true, false_or, or_false, and_false, false_and, or_self, and_self, if_true, if_false, Bool.false_eq_true, Bool.or_false, Bool.or_true, Bool.false_or, Bool.true_or, not_true_eq_false, not_false_eq_true, forall_const, true_implies, false_implies, implies_true, reduceIte, reduceCtorEq, hB, hQ, qt hQ, tbk hB, tbx hB, tbn L hB, b2_t g, kb L, k1, k2, es, ixp hj (show 5 < 2147483648 by omega), eq_false (Int32.not_lt.mpr g2.1), g2.2, g3, fC_at, fC_begin, fC_place, fC_setg, fC_fare, fC_stays, fC_tired, fC_long, fC_min, CTh_eq, CXh_eq, ix_lit, lt_lit, cl_lit, nz_lit, in5, in12, abs_sz]
        exact h1 (by decide)
      · rw [if_neg g3] at h2
        refine wk (gn1_ok l L) ok_27 60 (fun pc => false) ?_
        simp only [gn1, kk_27, Option.toList_some, Option.toList_none, ex, catS, vC, isMk, sym, popN, goC, callOK, swL, List.map_cons, List.map_nil, List.replicate_zero, List.replicate_succ, List.append_nil, List.nil_append, List.cons_append, List.getElem?_cons_zero, List.getElem?_cons_succ, List.set_cons_zero, List.set_cons_succ, List.length_cons, List.length_nil, List.head?_cons, Nat.reduceAdd, Nat.reduceLT, Nat.reduceLeDiff, Nat.reduceBEq, Nat.reduceEqDiff, Nat.succ_ne_zero, Nat.zero_lt_succ, Nat.le_refl, sc_rows, kc_lit, nc_lit, wlk_rows, uR_s, uR_uR, true_and, and_true, true_or, or_true, false_or, or_false, and_false, false_and, or_self, and_self, if_true, if_false, Bool.false_eq_true, Bool.or_false, Bool.or_true, Bool.false_or, Bool.true_or, not_true_eq_false, not_false_eq_true, forall_const, true_implies, false_implies, implies_true, reduceIte, reduceCtorEq, hB, hQ, qt hQ, tbk hB, tbx hB, tbn L hB, b2_t g, kb L, k1, k2, es, ixp hj (show 5 < 2147483648 by omega), eq_false (Int32.not_lt.mpr g2.1), g2.2, eq_false g3, fC_at, fC_begin, fC_place, fC_setg, fC_fare, fC_stays, fC_tired, fC_long, fC_min, CTh_eq, CXh_eq, ix_lit, lt_lit, cl_lit, nz_lit, in5, in12, abs_sz]
        exact h2 rfl _ (hC.setg hS.2.1 hn hm hk hj v) (Fr.up I _ (by omega))
    · rw [if_pos g2] at h1
      by_cases g4 : v < loS j
      · refine wk (gn1_ok l L) ok_27 60 (fun pc => false) ?_
        simp only [gn1, kk_27, Option.toList_some, Option.toList_none, ex, catS, vC, isMk, sym, popN, goC, callOK, swL, List.map_cons, List.map_nil, List.replicate_zero, List.replicate_succ, List.append_nil, List.nil_append, List.cons_append, List.getElem?_cons_zero, List.getElem?_cons_succ, List.set_cons_zero, List.set_cons_succ, List.length_cons, List.length_nil, List.head?_cons, Nat.reduceAdd, Nat.reduceLT, Nat.reduceLeDiff, Nat.reduceBEq, Nat.reduceEqDiff, Nat.succ_ne_zero, Nat.zero_lt_succ, Nat.le_refl, sc_rows, kc_lit, nc_lit, wlk_rows, uR_s, uR_uR, true_and, and_true, true_or, or_true, false_or, or_false, and_false, false_and, or_self, and_self, if_true, if_false, Bool.false_eq_true, Bool.or_false, Bool.or_true, Bool.false_or, Bool.true_or, not_true_eq_false, not_false_eq_true, forall_const, true_implies, false_implies, implies_true, reduceIte, reduceCtorEq, hB, hQ, qt hQ, tbk hB, tbx hB, tbn L hB, b2_t g, kb L, k1, k2, ixp hj (show 5 < 2147483648 by omega), g4, fC_at, fC_begin, fC_place, fC_setg, fC_fare, fC_stays, fC_tired, fC_long, fC_min, CTh_eq, CXh_eq, ix_lit, lt_lit, cl_lit, nz_lit, in5, in12, abs_sz]
        exact h1 (by decide)
      · have g5 : ¬ v ≤ hiS j := fun q => g2 ⟨Int32.not_lt.mp g4, q⟩
        refine wk (gn1_ok l L) ok_27 60 (fun pc => false) ?_
        simp only [gn1, kk_27, Option.toList_some, Option.toList_none, ex, catS, vC, isMk, sym, popN, goC, callOK, swL, List.map_cons, List.map_nil, List.replicate_zero, List.replicate_succ, List.append_nil, List.nil_append, List.cons_append, List.getElem?_cons_zero, List.getElem?_cons_succ, List.set_cons_zero, List.set_cons_succ, List.length_cons, List.length_nil, List.head?_cons, Nat.reduceAdd, Nat.reduceLT, Nat.reduceLeDiff, Nat.reduceBEq, Nat.reduceEqDiff, Nat.succ_ne_zero, Nat.zero_lt_succ, Nat.le_refl, sc_rows, kc_lit, nc_lit, wlk_rows, uR_s, uR_uR, true_and, and_true, true_or, or_true, false_or, or_false, and_false, false_and, or_self, and_self, if_true, if_false, Bool.false_eq_true, Bool.or_false, Bool.or_true, Bool.false_or, Bool.true_or, not_true_eq_false, not_false_eq_true, forall_const, true_implies, false_implies, implies_true, reduceIte, reduceCtorEq, hB, hQ, qt hQ, tbk hB, tbx hB, tbn L hB, b2_t g, kb L, k1, k2, ixp hj (show 5 < 2147483648 by omega), eq_false g4, eq_false g5, fC_at, fC_begin, fC_place, fC_setg, fC_fare, fC_stays, fC_tired, fC_long, fC_min, CTh_eq, CXh_eq, ix_lit, lt_lit, cl_lit, nz_lit, in5, in12, abs_sz]
        exact h1 (by decide)
  · rw [if_pos g] at h1
    refine wk (gn1_ok l L) ok_27 60 (fun pc => false) ?_
    simp only [gn1, kk_27, Option.toList_some, Option.toList_none, ex, catS, vC, isMk, sym, popN, goC, callOK, swL, List.map_cons, List.map_nil, List.replicate_zero, List.replicate_succ, List.append_nil, List.nil_append, List.cons_append, List.getElem?_cons_zero, List.getElem?_cons_succ, List.set_cons_zero, List.set_cons_succ, List.length_cons, List.length_nil, List.head?_cons, Nat.reduceAdd, Nat.reduceLT, Nat.reduceLeDiff, Nat.reduceBEq, Nat.reduceEqDiff, Nat.succ_ne_zero, Nat.zero_lt_succ, Nat.le_refl, sc_rows, kc_lit, nc_lit, wlk_rows, uR_s, uR_uR, true_and, and_true, true_or, or_true, false_or, or_false, and_false, false_and, or_self, and_self, if_true, if_false, Bool.false_eq_true, Bool.or_false, Bool.or_true, Bool.false_or, Bool.true_or, not_true_eq_false, not_false_eq_true, forall_const, true_implies, false_implies, implies_true, reduceIte, reduceCtorEq, hB, hQ, b2_f g, fC_at, fC_begin, fC_place, fC_setg, fC_fare, fC_stays, fC_tired, fC_long, fC_min, CTh_eq, CXh_eq, ix_lit, lt_lit, cl_lit, nz_lit, in5, in12, abs_sz]
    exact h1 (by decide)
theorem lt5 {x : Int32} : (0 ≤ x ∧ x ≤ 4) ↔ (0 ≤ x ∧ x < 5) := by
  have e4 : (4 : Int32).toInt = 4 := by decide
  have e5 : (5 : Int32).toInt = 5 := by decide
  rw [Int32.le_iff_toInt_le (y := 4), Int32.lt_iff_toInt_lt (y := 5)]
  exact ⟨fun h => ⟨h.1, by have := h.2; omega⟩, fun h => ⟨h.1, by have := h.2; omega⟩⟩
theorem c5 : ((1 : Int32) = 0) = False ∧ ((2 : Int32) = 0) = False ∧ ((3 : Int32) = 0) = False ∧ ((4 : Int32) = 0) = False ∧ ((0 : Int32) = 1) = False ∧ ((2 : Int32) = 1) = False ∧ ((3 : Int32) = 1) = False ∧ ((4 : Int32) = 1) = False ∧ ((3 : Int32) = 2) = False ∧ ((4 : Int32) = 2) = False ∧ ((1 : Int32) = 2) = False ∧ ((0 : Int32) = 2) = False ∧ ((4 : Int32) = 3) = False ∧ ((0 : Int32) = 3) = False ∧ ((1 : Int32) = 3) = False ∧ ((2 : Int32) = 3) = False := by decide
end E3

