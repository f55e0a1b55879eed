/-! p27: the sums over taxis, the line, who waits are right -/
theorem Sm_spl {f g : Nat → Int32} : ∀ n, Sm f n = Sm (fun t => f t - g t) n + Sm g n := by
  intro n
  induction n with
  | zero => rfl
  | succ n ih =>
    simp only [Sm]
    rw [ih]
    generalize Sm (fun t => f t - g t) n = S
    generalize Sm g n = G
    generalize f n = x
    generalize g n = y
    have e1 : S + (x - y) + (G + y) = S + ((x - y) + (y + G)) := by rw [Int32.add_assoc, Int32.add_comm G y]
    have e2 : (x - y) + (y + G) = x + G := by rw [← Int32.add_assoc, Int32.sub_add_cancel]
    rw [e1, e2, Int32.add_comm x G, Int32.add_assoc]
def moV (z : Nat → Int32) : Nat → Int32
  | 0 => 0
  | j + 1 => z (tp (moF z j) 6)
def feV (z : Nat → Int32) : Nat → Int32
  | 0 => 0
  | j + 1 => z (tp (feF z j) 6)
theorem moV_1 (z : Nat → Int32) (j : Nat) : (j = 0 → moV z (j + 1) = z (tp j 6) ∧ feV z (j + 1) = z (tp j 6)) ∧ (j ≠ 0 → (z (tp j 6) ≤ moV z j → moV z (j + 1) = moV z j) ∧ (¬ z (tp j 6) ≤ moV z j → moV z (j + 1) = z (tp j 6)) ∧ (feV z j ≤ z (tp j 6) → feV z (j + 1) = feV z j) ∧ (¬ feV z j ≤ z (tp j 6) → feV z (j + 1) = z (tp j 6))) := by
  refine ⟨fun h => by subst h; exact ⟨rfl, rfl⟩, fun h => ?_⟩
  obtain ⟨i, rfl⟩ : ∃ i, j = i + 1 := ⟨j - 1, by omega⟩
  simp only [moV, feV, moF, feF]
  refine ⟨fun g => ?_, fun g => ?_, fun g => ?_, fun g => ?_⟩
  · rw [if_neg (Int32.not_lt.mpr g)]
  · rw [if_pos (Int32.not_le.mp g)]
  · rw [if_neg (Int32.not_lt.mpr g)]
  · rw [if_pos (Int32.not_le.mp g)]
abbrev sL (z : Nat → Int32) : Nat → Int32 := fun t => b2 (z (tp t 1) = 0)
abbrev sC (z : Nat → Int32) : Nat → Int32 := fun t => z (tp t 6)
abbrev sF (z : Nat → Int32) : Nat → Int32 := fun t => z (tp t 4)
abbrev sO (z : Nat → Int32) : Nat → Int32 := fun t => b2 (z (tp t 1) = 1)
theorem nI_lt0 {j : Nat} (h : j < 2147483648) : (nI j < 0) = False := eq_false (nI_pos h)
theorem nI_0F {j : Nat} (h : j ≠ 0) (h2 : j < 2147483648) : (nI j = 0) = False := by rw [show (0 : Int32) = nI 0 from rfl]; exact eqF h h2 (by omega)
theorem d6L : ((0 : Int32) < 0) = False ∧ ((1 : Int32) < 0) = False ∧ ((2 : Int32) < 0) = False ∧ ((3 : Int32) < 0) = False ∧ ((4 : Int32) < 0) = False ∧ ((5 : Int32) < 0) = False ∧ ((6 : Int32) ≤ 0) = False ∧ ((6 : Int32) ≤ 1) = False ∧ ((6 : Int32) ≤ 2) = False ∧ ((6 : Int32) ≤ 3) = False ∧ ((6 : Int32) ≤ 4) = False ∧ ((6 : Int32) ≤ 5) = False ∧ ((1 : Int32) = 0) = False ∧ ((2 : Int32) = 0) = False ∧ ((3 : Int32) = 0) = False ∧ ((4 : Int32) = 0) = False ∧ ((5 : Int32) = 0) = False ∧ ((0 : Int32) = 5) = False ∧ ((1 : Int32) = 5) = False ∧ ((2 : Int32) = 5) = False ∧ ((3 : Int32) = 5) = False ∧ ((4 : Int32) = 5) = False ∧ ((-5 : Int32) < 0) = True ∧ ((-5 : Int32) = 0) = False ∧ ((0 : Int32) = 1) = False := by decide
section WH
variable {l : Launch} {L : Nat} {I : Nat → Nat → Int32} {Q : Nat → Nat → Option Nat} {P : Option Value → PH → Prop} {τ : Nat → Nat → Nat} {b : Nat → Nat} {z : Nat → Int32} {w : Nat → Nat → Int32} {a n m k : Nat}
set_option maxHeartbeats 1000000 in
set_option maxRecDepth 100000 in
/-- a taxi's sums -/
theorem w_sum (h : CT I Q τ b z w a n m k) (hl : I 0 6 = nI 0) {j : Nat} (hj : j < n) (g9 g10 g11 g12 : Option Value) (h1 : Sy l 83 (149, 1788) 121 [some (.ref 0), some (.int (Sm (sL z) (j + 1))), some (.int (Sm (sC z) (j + 1))), some (.int (Sm (sF z) (j + 1))), some (.int (Sm (sO z) (j + 1))), some (.int (moV z j)), some (.int (feV z j)), some (.int 1), some (.int (nI j)), some (.int (z (tp j 0))), some (.int (z (tp j 1))), some (.int (plcI z (z (tp j 0)) m)), some (.int (z (tp j 2)))] [] (SC L, I, Q) P) : Sy l 83 (149, 1788) 21 [some (.ref 0), some (.int (Sm (sL z) j)), some (.int (Sm (sC z) j)), some (.int (Sm (sF z) j)), some (.int (Sm (sO z) j)), some (.int (moV z j)), some (.int (feV z j)), some (.int 1), some (.int (nI j)), g9, g10, g11, g12] [] (SC L, I, Q) P := by
  have hR := fR_ok (l := l) (L := L) h hl
  have hL := h.2.1.2.2
  have hn := hL.2.1
  have hf : ftz z (z (tp j 0)) n = some j := ftz_u hL hj rfl
  have t := ansTx_s (m := m) hf
  have ln := leF hj (show n < 2147483648 by omega)
  simp only [Sm, sL, sC, sF, sO] at h1
  by_cases g0 : z (tp j 1) = 0
  · have g1 : ¬ z (tp j 1) = 1 := fun q => by rw [g0] at q; exact absurd q (by decide)
    rw [b2_t g0, b2_f g1] at h1
    refine wk2 hR ok_83 80 (fun pc => pc == 121) ?_
    simp only [kk_83, Option.toList_some, Option.toList_none, ex2, ex, catS, vC, isMk, sym2, popN, goC, callOK, swL, List.map_cons, List.map_nil, List.replicate_zero, List.replicate_succ, List.append_nil, List.nil_append, List.cons_append, List.getElem?_cons_zero, List.getElem?_cons_succ, List.set_cons_zero, List.set_cons_succ, List.length_cons, List.length_nil, List.head?_cons, Nat.reduceAdd, Nat.reduceLT, Nat.reduceLeDiff, Nat.reduceBEq, Nat.reduceEqDiff, Nat.succ_ne_zero, Nat.zero_lt_succ, Nat.le_refl, sc_rows, kc_lit, nc_lit, wlk_rows, uR_s, uR_uR, true_and, and_true, true_or, or_true, false_or, or_false, and_false, false_and, or_self, and_self, if_true, if_false, Bool.false_eq_true, Bool.or_false, Bool.or_true, Bool.false_or, Bool.true_or, not_true_eq_false, not_false_eq_true, forall_const, true_implies, false_implies, implies_true, ↓reduceIte, reduceCtorEq, fR, rd1, rd2, rd3, eq_self, ansCo_s, ansPl_j hj hn, t, ln, k0 L, eq_true g0, eq_false g1, nz_lit, sL, sC, sF, sO]
    exact h1
  · by_cases g1 : z (tp j 1) = 1
    · rw [b2_f g0, b2_t g1] at h1
      refine wk2 hR ok_83 80 (fun pc => pc == 121) ?_
      simp only [kk_83, Option.toList_some, Option.toList_none, ex2, ex, catS, vC, isMk, sym2, popN, goC, callOK, swL, List.map_cons, List.map_nil, List.replicate_zero, List.replicate_succ, List.append_nil, List.nil_append, List.cons_append, List.getElem?_cons_zero, List.getElem?_cons_succ, List.set_cons_zero, List.set_cons_succ, List.length_cons, List.length_nil, List.head?_cons, Nat.reduceAdd, Nat.reduceLT, Nat.reduceLeDiff, Nat.reduceBEq, Nat.reduceEqDiff, Nat.succ_ne_zero, Nat.zero_lt_succ, Nat.le_refl, sc_rows, kc_lit, nc_lit, wlk_rows, uR_s, uR_uR, true_and, and_true, true_or, or_true, false_or, or_false, and_false, false_and, or_self, and_self, if_true, if_false, Bool.false_eq_true, Bool.or_false, Bool.or_true, Bool.false_or, Bool.true_or, not_true_eq_false, not_false_eq_true, forall_const, true_implies, false_implies, implies_true, ↓reduceIte, reduceCtorEq, fR, rd1, rd2, rd3, eq_self, ansCo_s, ansPl_j hj hn, t, ln, k0 L, eq_false g0, eq_true g1, nz_lit, sL, sC, sF, sO]
      exact h1
    · rw [b2_f g0, b2_f g1] at h1
      refine wk2 hR ok_83 80 (fun pc => pc == 121) ?_
      simp only [kk_83, Option.toList_some, Option.toList_none, ex2, ex, catS, vC, isMk, sym2, popN, goC, callOK, swL, List.map_cons, List.map_nil, List.replicate_zero, List.replicate_succ, List.append_nil, List.nil_append, List.cons_append, List.getElem?_cons_zero, List.getElem?_cons_succ, List.set_cons_zero, List.set_cons_succ, List.length_cons, List.length_nil, List.head?_cons, Nat.reduceAdd, Nat.reduceLT, Nat.reduceLeDiff, Nat.reduceBEq, Nat.reduceEqDiff, Nat.succ_ne_zero, Nat.zero_lt_succ, Nat.le_refl, sc_rows, kc_lit, nc_lit, wlk_rows, uR_s, uR_uR, true_and, and_true, true_or, or_true, false_or, or_false, and_false, false_and, or_self, and_self, if_true, if_false, Bool.false_eq_true, Bool.or_false, Bool.or_true, Bool.false_or, Bool.true_or, not_true_eq_false, not_false_eq_true, forall_const, true_implies, false_implies, implies_true, ↓reduceIte, reduceCtorEq, fR, rd1, rd2, rd3, eq_self, ansCo_s, ansPl_j hj hn, t, ln, k0 L, eq_false g0, eq_false g1, nz_lit, sL, sC, sF, sO]
      exact h1
set_option maxHeartbeats 1000000 in
set_option maxRecDepth 100000 in
/-- the most and the fewest coins -/
theorem w_most (h : CT I Q τ b z w a n m k) (hl : I 0 6 = nI 0) {j : Nat} (hj : j < n) (v1 v2 v3 v4 v10 v11 v12 : Option Value) (h1 : Sy l 83 (149, 1788) 187 [some (.ref 0), v1, v2, v3, v4, some (.int (moV z (j + 1))), some (.int (feV z (j + 1))), some (.int 1), some (.int (nI j)), some (.int (z (tp j 0))), v10, v11, v12] [] (SC L, I, Q) P) : Sy l 83 (149, 1788) 121 [some (.ref 0), v1, v2, v3, v4, some (.int (moV z j)), some (.int (feV z j)), some (.int 1), some (.int (nI j)), some (.int (z (tp j 0))), v10, v11, v12] [] (SC L, I, Q) P := by
  have hR := fR_ok (l := l) (L := L) h hl
  have hL := h.2.1.2.2
  have hn := hL.2.1
  have hf : ftz z (z (tp j 0)) n = some j := ftz_u hL hj rfl
  have t := ansTx_s (m := m) hf
  obtain ⟨m1, m2⟩ := moV_1 z j
  by_cases g0 : j = 0
  · obtain ⟨a1, a2⟩ := m1 g0
    rw [a1, a2] at h1
    have e0 : (nI j = 0) = True := by rw [g0]; decide
    refine wk2 hR ok_83 40 (fun pc => pc == 187) ?_
    simp only [kk_83, Option.toList_some, Option.toList_none, ex2, ex, catS, vC, isMk, sym2, popN, goC, callOK, swL, List.map_cons, List.map_nil, List.replicate_zero, List.replicate_succ, List.append_nil, List.nil_append, List.cons_append, List.getElem?_cons_zero, List.getElem?_cons_succ, List.set_cons_zero, List.set_cons_succ, List.length_cons, List.length_nil, List.head?_cons, Nat.reduceAdd, Nat.reduceLT, Nat.reduceLeDiff, Nat.reduceBEq, Nat.reduceEqDiff, Nat.succ_ne_zero, Nat.zero_lt_succ, Nat.le_refl, sc_rows, kc_lit, nc_lit, wlk_rows, uR_s, uR_uR, true_and, and_true, true_or, or_true, false_or, or_false, and_false, false_and, or_self, and_self, if_true, if_false, Bool.false_eq_true, Bool.or_false, Bool.or_true, Bool.false_or, Bool.true_or, not_true_eq_false, not_false_eq_true, forall_const, true_implies, false_implies, implies_true, ↓reduceIte, reduceCtorEq, fR, rd1, rd2, rd3, eq_self, t, e0, k0 L]
    exact h1
  · obtain ⟨a1, a2, a3, a4⟩ := m2 g0
    have e0 := nI_0F g0 (by omega)
    have second : ∀ y : Int32, y = moV z (j + 1) → Sy l 83 (149, 1788) 154 [some (.ref 0), v1, v2, v3, v4, some (.int y), some (.int (feV z j)), some (.int 1), some (.int (nI j)), some (.int (z (tp j 0))), v10, v11, v12] [] (SC L, I, Q) P := by
      intro y hy
      subst hy
      by_cases g : feV z j ≤ z (tp j 6)
      · rw [a3 g] at h1
        refine wk2 hR ok_83 40 (fun pc => pc == 187) ?_
        simp only [kk_83, Option.toList_some, Option.toList_none, ex2, ex, catS, vC, isMk, sym2, popN, goC, callOK, swL, List.map_cons, List.map_nil, List.replicate_zero, List.replicate_succ, List.append_nil, List.nil_append, List.cons_append, List.getElem?_cons_zero, List.getElem?_cons_succ, List.set_cons_zero, List.set_cons_succ, List.length_cons, List.length_nil, List.head?_cons, Nat.reduceAdd, Nat.reduceLT, Nat.reduceLeDiff, Nat.reduceBEq, Nat.reduceEqDiff, Nat.succ_ne_zero, Nat.zero_lt_succ, Nat.le_refl, sc_rows, kc_lit, nc_lit, wlk_rows, uR_s, uR_uR, true_and, and_true, true_or, or_true, false_or, or_false, and_false, false_and, or_self, and_self, if_true, if_false, Bool.false_eq_true, Bool.or_false, Bool.or_true, Bool.false_or, Bool.true_or, not_true_eq_false, not_false_eq_true, forall_const, true_implies, false_implies, implies_true, ↓reduceIte, reduceCtorEq, fR, rd1, rd2, rd3, eq_self, t, e0, eq_true g, k0 L]
        exact h1
      · rw [a4 g] at h1
        refine wk2 hR ok_83 40 (fun pc => pc == 187) ?_
        simp only [kk_83, Option.toList_some, Option.toList_none, ex2, ex, catS, vC, isMk, sym2, popN, goC, callOK, swL, List.map_cons, List.map_nil, List.replicate_zero, List.replicate_succ, List.append_nil, List.nil_append, List.cons_append, List.getElem?_cons_zero, List.getElem?_cons_succ, List.set_cons_zero, List.set_cons_succ, List.length_cons, List.length_nil, List.head?_cons, Nat.reduceAdd, Nat.reduceLT, Nat.reduceLeDiff, Nat.reduceBEq, Nat.reduceEqDiff, Nat.succ_ne_zero, Nat.zero_lt_succ, Nat.le_refl, sc_rows, kc_lit, nc_lit, wlk_rows, uR_s, uR_uR, true_and, and_true, true_or, or_true, false_or, or_false, and_false, false_and, or_self, and_self, if_true, if_false, Bool.false_eq_true, Bool.or_false, Bool.or_true, Bool.false_or, Bool.true_or, not_true_eq_false, not_false_eq_true, forall_const, true_implies, false_implies, implies_true, ↓reduceIte, reduceCtorEq, fR, rd1, rd2, rd3, eq_self, t, e0, eq_false g, k0 L]
        exact h1
    by_cases g : z (tp j 6) ≤ moV z j
    · have := second (moV z j) (a1 g).symm
      refine wk2 hR ok_83 40 (fun pc => pc == 154) ?_
      simp only [kk_83, Option.toList_some, Option.toList_none, ex2, ex, catS, vC, isMk, sym2, popN, goC, callOK, swL, List.map_cons, List.map_nil, List.replicate_zero, List.replicate_succ, List.append_nil, List.nil_append, List.cons_append, List.getElem?_cons_zero, List.getElem?_cons_succ, List.set_cons_zero, List.set_cons_succ, List.length_cons, List.length_nil, List.head?_cons, Nat.reduceAdd, Nat.reduceLT, Nat.reduceLeDiff, Nat.reduceBEq, Nat.reduceEqDiff, Nat.succ_ne_zero, Nat.zero_lt_succ, Nat.le_refl, sc_rows, kc_lit, nc_lit, wlk_rows, uR_s, uR_uR, true_and, and_true, true_or, or_true, false_or, or_false, and_false, false_and, or_self, and_self, if_true, if_false, Bool.false_eq_true, Bool.or_false, Bool.or_true, Bool.false_or, Bool.true_or, not_true_eq_false, not_false_eq_true, forall_const, true_implies, false_implies, implies_true, ↓reduceIte, reduceCtorEq, fR, rd1, rd2, rd3, eq_self, t, e0, eq_true g, k0 L]
      exact this
    · have := second (z (tp j 6)) (a2 g).symm
      refine wk2 hR ok_83 40 (fun pc => pc == 154) ?_
      simp only [kk_83, Option.toList_some, Option.toList_none, ex2, ex, catS, vC, isMk, sym2, popN, goC, callOK, swL, List.map_cons, List.map_nil, List.replicate_zero, List.replicate_succ, List.append_nil, List.nil_append, List.cons_append, List.getElem?_cons_zero, List.getElem?_cons_succ, List.set_cons_zero, List.set_cons_succ, List.length_cons, List.length_nil, List.head?_cons, Nat.reduceAdd, Nat.reduceLT, Nat.reduceLeDiff, Nat.reduceBEq, Nat.reduceEqDiff, Nat.succ_ne_zero, Nat.zero_lt_succ, Nat.le_refl, sc_rows, kc_lit, nc_lit, wlk_rows, uR_s, uR_uR, true_and, and_true, true_or, or_true, false_or, or_false, and_false, false_and, or_self, and_self, if_true, if_false, Bool.false_eq_true, Bool.or_false, Bool.or_true, Bool.false_or, Bool.true_or, not_true_eq_false, not_false_eq_true, forall_const, true_implies, false_implies, implies_true, ↓reduceIte, reduceCtorEq, fR, rd1, rd2, rd3, eq_self, t, e0, eq_false g, k0 L]
      exact this
theorem LA_0 (i d : Nat) (z : Nat → Int32) (n : Nat) (h : z (tp i 1) = 0) : LA i (d + 1) z n = nI n := by simp only [LA, h, if_true]
theorem ansIn_0 {z : Nat → Int32} {n i : Nat} {p : Int32} (hf : ftz z p n = some i) (h : z (tp i 1) = 0) : ansIn z n p = 0 := by
  unfold ansIn
  rw [hf]
  show (if z (tp i 1) = 5 then -5 else LA i 1001 z 0) = 0
  rw [if_neg (by rw [h]; decide)]
  exact LA_0 i 1000 z 0 h
/-- what each taxi's numbers say of it -/
theorem w_facts {j bb : Nat} (hbb : bb < 2147483648) (hM : MV z n k) (hL : Ln z n m) (hW : WZ z n bb) (hj : j < n) : ((z (tp j 4) < z (tp j 5)) = False ∧ (z (tp j 4) < z (tp j 7)) = False) ∧ (z (tp j 8) = 1 → (z (tp j 7) ≤ 0) = False) ∧ (j ≠ 0 → (z (tp j 0) ≤ z (tp (j - 1) 0)) = False) ∧ (z (tp j 1) = 0 → z (tp j 2) = 0 ∧ ∃ p, p < m ∧ plcI z (z (tp j 0)) m = nI p ∧ z (15 + p) = z (tp j 0) ∧ (z (tp j 8) = 1 → p ≠ 0 → ansTx z n m (z (15 + (p - 1))) 8 = 1)) ∧ (z (tp j 1) = 5 → z (tp j 2) = 0) ∧ (¬ z (tp j 1) = 0 → plcI z (z (tp j 0)) m = -5 ∧ z (tp j 8) = 0) ∧ (z (tp j 1) = 1 ∨ z (tp j 1) = 2 ∨ z (tp j 1) = 3 ∨ z (tp j 1) = 4 → (z (tp j 2) = 0) = False ∧ (z (tp j 2) < 0) = False) := by
  obtain ⟨h1, ⟨m0, h2, h3⟩, h4, h5⟩ := hW
  obtain rfl := hL.m h2
  obtain ⟨f, lo, q, ⟨a1, a2, a3⟩, a4, a5, ⟨a6, a7⟩, a8, a9⟩ := h1 j hj
  obtain ⟨tw, tp2⟩ := hM.2.1 j hj
  have hm := hL.2.2.2.2.2.2.2
  refine ⟨⟨?_, ?_⟩, fun g => ?_, fun g => ?_, fun g => ⟨a9 (Or.inl g), ?_⟩, fun g => a9 (Or.inr g), fun g => ⟨?_, tw.2.1 g⟩, fun g => ?_⟩
  · rw [a1, a2]; exact ltF a5 (by omega)
  · rw [a1, a3]; exact ltF a6 (by omega)
  · rw [a3]; exact leF (b := 0) (a8 g) (by omega)
  · exact eq_false (Int32.not_le.mpr (h5.1 (j - 1) j (by omega) hj))
  · obtain ⟨p, p1, p2⟩ := hL.2.2.2.2.2.1 j hj (by omega) g
    refine ⟨p, p1, plcI_s hL.2.2.2.2.2.2.1 p1 p2, p2, fun g8 hp => ?_⟩
    obtain ⟨q0, _, q2⟩ := h3
    have ej : lx z n p = j := lx_i hL hj p2.symm
    have e1 := (q2 p p1).mp (by rw [ej]; exact g8)
    have e2 := (q2 (p - 1) (by omega)).mpr (by omega)
    obtain ⟨x1, -, x2, -⟩ := lx_in hL (show p - 1 < m0 by omega)
    rw [(ansTx_s (m := m0) (ftz_u hL x1 x2)).2.2.2.2.2.2.2.2]
    exact e2
  · exact plcI_n (fun r hr he => g (hL.plu hj hr he).1)
  · have hp := tp2 g
    exact ⟨eq_false (fun c => by rw [c] at hp; exact absurd hp (by decide)), eq_false (Int32.not_lt.mpr (Int32.le_of_lt hp))⟩
set_option maxHeartbeats 2000000 in
set_option maxRecDepth 100000 in
theorem w_chk {bb : Nat} (h : CT I Q τ b z w a n m k) (hl : I 0 6 = nI 0) (hbb : bb < 2147483648) (hW : WZ z n bb) {j : Nat} (hj : j < n) (v1 v2 v3 v4 v5 v6 : Option Value) (h1 : ∀ I' v9 v10 v11 v12, CT I' Q τ b z w a n m k → FL I I' → Sy l 83 (149, 1788) 21 [some (.ref 0), v1, v2, v3, v4, v5, v6, some (.int 1), some (.int (nI (j + 1))), v9, v10, v11, v12] [] (SC L, I', Q) P) : Sy l 83 (149, 1788) 187 [some (.ref 0), v1, v2, v3, v4, v5, v6, some (.int 1), some (.int (nI j)), some (.int (z (tp j 0))), some (.int (z (tp j 1))), some (.int (plcI z (z (tp j 0)) m)), some (.int (z (tp j 2)))] [] (SC L, I, Q) P := by
  have hR := fR_ok (l := l) (L := L) h hl
  obtain ⟨hM, hL⟩ := h.2.1.2
  have hn := hL.2.1
  have hm := hL.2.2.2.2.2.2.2
  have hf : ftz z (z (tp j 0)) n = some j := ftz_u hL hj rfl
  have t := ansTx_s (m := m) hf
  obtain ⟨f1, f2, f3, f4, f5, f6, f7⟩ := w_facts hbb hM hL hW hj
  have tw := (hM.2.1 j hj).1
  obtain ⟨c0, ej, ep⟩ : ∃ c : Prop, ((nI j = 0) = c) ∧ (c = True ∨ (c = False ∧ ansPl z n (nI j - 1) = z (tp (j - 1) 0) ∧ (z (tp j 0) ≤ z (tp (j - 1) 0)) = False)) := by
    by_cases g : j = 0
    · exact ⟨True, by rw [g]; decide, Or.inl rfl⟩
    · exact ⟨False, nI_0F g (by omega), Or.inr ⟨rfl, by rw [(nI_dn (show 0 < j by omega)).2]; exact ansPl_j (by omega) hn, f3 g⟩⟩
  rcases tw.1 with e1 | e1 | e1 | e1 | e1 | e1
  · obtain ⟨e2, p, p1, p2, p3, p4⟩ := f4 e1
    have ain := ansIn_0 hf e1
    have pl0 := nI_lt0 (show p < 2147483648 by omega)
    have fin : Sy l 83 (149, 1788) 403 [some (.ref 0), v1, v2, v3, v4, v5, v6, some (.int 1), some (.int (nI j)), some (.int (z (tp j 0))), some (.int 0), some (.int (nI p)), some (.int 0)] [] (SC L, I, Q) P := by
      refine wk2 (fn0_ok l) ok_83 5 (fun pc => false) ?_
      simp only [kk_83, Option.toList_some, Option.toList_none, ex2, ex, catS, vC, isMk, sym2, popN, goC, callOK, swL, List.map_cons, List.map_nil, List.replicate_zero, List.replicate_succ, List.append_nil, List.nil_append, List.cons_append, List.getElem?_cons_zero, List.getElem?_cons_succ, List.set_cons_zero, List.set_cons_succ, List.length_cons, List.length_nil, List.head?_cons, Nat.reduceAdd, Nat.reduceLT, Nat.reduceLeDiff, Nat.reduceBEq, Nat.reduceEqDiff, Nat.succ_ne_zero, Nat.zero_lt_succ, Nat.le_refl, sc_rows, kc_lit, nc_lit, wlk_rows, uR_s, uR_uR, true_and, and_true, true_or, or_true, false_or, or_false, and_false, false_and, or_self, and_self, if_true, if_false, Bool.false_eq_true, Bool.or_false, Bool.or_true, Bool.false_or, Bool.true_or, not_true_eq_false, not_false_eq_true, forall_const, true_implies, false_implies, implies_true, ↓reduceIte, reduceCtorEq, fn0, eq_self, k0 L]
      refine m_inLineIn h (z (tp j 0)) (fun J g q => ?_)
      refine wk2 (fn0_ok l) ok_83 20 (fun pc => pc == 21) ?_
      simp only [kk_83, Option.toList_some, Option.toList_none, ex2, ex, catS, vC, isMk, sym2, popN, goC, callOK, swL, List.map_cons, List.map_nil, List.replicate_zero, List.replicate_succ, List.append_nil, List.nil_append, List.cons_append, List.getElem?_cons_zero, List.getElem?_cons_succ, List.set_cons_zero, List.set_cons_succ, List.length_cons, List.length_nil, List.head?_cons, Nat.reduceAdd, Nat.reduceLT, Nat.reduceLeDiff, Nat.reduceBEq, Nat.reduceEqDiff, Nat.succ_ne_zero, Nat.zero_lt_succ, Nat.le_refl, sc_rows, kc_lit, nc_lit, wlk_rows, uR_s, uR_uR, true_and, and_true, true_or, or_true, false_or, or_false, and_false, false_and, or_self, and_self, if_true, if_false, Bool.false_eq_true, Bool.or_false, Bool.or_true, Bool.false_or, Bool.true_or, not_true_eq_false, not_false_eq_true, forall_const, true_implies, false_implies, implies_true, ↓reduceIte, reduceCtorEq, fn0, eq_self, ain, nI_up]
      exact h1 J _ _ _ _ g (FL.of q)
    rcases tw.2.2.1 with e8 | e8
    · rcases ep with ec | ⟨ec, ep1, ep2⟩
      · refine wk2 hR ok_83 150 (fun pc => pc == 403) ?_
        simp only [kk_83, Option.toList_some, Option.toList_none, ex2, ex, catS, vC, isMk, sym2, popN, goC, callOK, swL, List.map_cons, List.map_nil, List.replicate_zero, List.replicate_succ, List.append_nil, List.nil_append, List.cons_append, List.getElem?_cons_zero, List.getElem?_cons_succ, List.set_cons_zero, List.set_cons_succ, List.length_cons, List.length_nil, List.head?_cons, Nat.reduceAdd, Nat.reduceLT, Nat.reduceLeDiff, Nat.reduceBEq, Nat.reduceEqDiff, Nat.succ_ne_zero, Nat.zero_lt_succ, Nat.le_refl, sc_rows, kc_lit, nc_lit, wlk_rows, uR_s, uR_uR, true_and, and_true, true_or, or_true, false_or, or_false, and_false, false_and, or_self, and_self, if_true, if_false, Bool.false_eq_true, Bool.or_false, Bool.or_true, Bool.false_or, Bool.true_or, not_true_eq_false, not_false_eq_true, forall_const, true_implies, false_implies, implies_true, ↓reduceIte, reduceCtorEq, fR, rd1, rd2, rd3, eq_self, t, ej, ec, e1, e2, p2, e8, f1, d6L, pl0, ansLi_j p1 hm, p3, k0 L]
        exact fin
      · refine wk2 hR ok_83 150 (fun pc => pc == 403) ?_
        simp only [kk_83, Option.toList_some, Option.toList_none, ex2, ex, catS, vC, isMk, sym2, popN, goC, callOK, swL, List.map_cons, List.map_nil, List.replicate_zero, List.replicate_succ, List.append_nil, List.nil_append, List.cons_append, List.getElem?_cons_zero, List.getElem?_cons_succ, List.set_cons_zero, List.set_cons_succ, List.length_cons, List.length_nil, List.head?_cons, Nat.reduceAdd, Nat.reduceLT, Nat.reduceLeDiff, Nat.reduceBEq, Nat.reduceEqDiff, Nat.succ_ne_zero, Nat.zero_lt_succ, Nat.le_refl, sc_rows, kc_lit, nc_lit, wlk_rows, uR_s, uR_uR, true_and, and_true, true_or, or_true, false_or, or_false, and_false, false_and, or_self, and_self, if_true, if_false, Bool.false_eq_true, Bool.or_false, Bool.or_true, Bool.false_or, Bool.true_or, not_true_eq_false, not_false_eq_true, forall_const, true_implies, false_implies, implies_true, ↓reduceIte, reduceCtorEq, fR, rd1, rd2, rd3, eq_self, t, ej, ec, ep1, ep2, e1, e2, p2, e8, f1, d6L, pl0, ansLi_j p1 hm, p3, k0 L]
        exact fin
    · have f8 := f2 e8
      obtain ⟨c1, ezq, ezp⟩ : ∃ c : Prop, ((nI p = 0) = c) ∧ (c = True ∨ (c = False ∧ ansTx z n m (ansLi z m (nI p - 1)) 8 = 1)) := by
        by_cases g : p = 0
        · exact ⟨True, by rw [g]; decide, Or.inl rfl⟩
        · exact ⟨False, nI_0F g (by omega), Or.inr ⟨rfl, by rw [(nI_dn (show 0 < p by omega)).2, ansLi_j (by omega) hm]; exact p4 e8 g⟩⟩
      rcases ep with ec | ⟨ec, ep1, ep2⟩
      · rcases ezp with ed | ⟨ed, ed1⟩
        · refine wk2 hR ok_83 150 (fun pc => pc == 403) ?_
          simp only [kk_83, Option.toList_some, Option.toList_none, ex2, ex, catS, vC, isMk, sym2, popN, goC, callOK, swL, List.map_cons, List.map_nil, List.replicate_zero, List.replicate_succ, List.append_nil, List.nil_append, List.cons_append, List.getElem?_cons_zero, List.getElem?_cons_succ, List.set_cons_zero, List.set_cons_succ, List.length_cons, List.length_nil, List.head?_cons, Nat.reduceAdd, Nat.reduceLT, Nat.reduceLeDiff, Nat.reduceBEq, Nat.reduceEqDiff, Nat.succ_ne_zero, Nat.zero_lt_succ, Nat.le_refl, sc_rows, kc_lit, nc_lit, wlk_rows, uR_s, uR_uR, true_and, and_true, true_or, or_true, false_or, or_false, and_false, false_and, or_self, and_self, if_true, if_false, Bool.false_eq_true, Bool.or_false, Bool.or_true, Bool.false_or, Bool.true_or, not_true_eq_false, not_false_eq_true, forall_const, true_implies, false_implies, implies_true, ↓reduceIte, reduceCtorEq, fR, rd1, rd2, rd3, eq_self, t, ej, ec, ezq, ed, e1, e2, p2, e8, f1, f8, d6L, pl0, ansLi_j p1 hm, p3, k0 L]
          exact fin
        · refine wk2 hR ok_83 150 (fun pc => pc == 403) ?_
          simp only [kk_83, Option.toList_some, Option.toList_none, ex2, ex, catS, vC, isMk, sym2, popN, goC, callOK, swL, List.map_cons, List.map_nil, List.replicate_zero, List.replicate_succ, List.append_nil, List.nil_append, List.cons_append, List.getElem?_cons_zero, List.getElem?_cons_succ, List.set_cons_zero, List.set_cons_succ, List.length_cons, List.length_nil, List.head?_cons, Nat.reduceAdd, Nat.reduceLT, Nat.reduceLeDiff, Nat.reduceBEq, Nat.reduceEqDiff, Nat.succ_ne_zero, Nat.zero_lt_succ, Nat.le_refl, sc_rows, kc_lit, nc_lit, wlk_rows, uR_s, uR_uR, true_and, and_true, true_or, or_true, false_or, or_false, and_false, false_and, or_self, and_self, if_true, if_false, Bool.false_eq_true, Bool.or_false, Bool.or_true, Bool.false_or, Bool.true_or, not_true_eq_false, not_false_eq_true, forall_const, true_implies, false_implies, implies_true, ↓reduceIte, reduceCtorEq, fR, rd1, rd2, rd3, eq_self, t, ej, ec, ezq, ed, ed1, e1, e2, p2, e8, f1, f8, d6L, pl0, ansLi_j p1 hm, p3, k0 L]
          exact fin
      · rcases ezp with ed | ⟨ed, ed1⟩
        · refine wk2 hR ok_83 150 (fun pc => pc == 403) ?_
          simp only [kk_83, Option.toList_some, Option.toList_none, ex2, ex, catS, vC, isMk, sym2, popN, goC, callOK, swL, List.map_cons, List.map_nil, List.replicate_zero, List.replicate_succ, List.append_nil, List.nil_append, List.cons_append, List.getElem?_cons_zero, List.getElem?_cons_succ, List.set_cons_zero, List.set_cons_succ, List.length_cons, List.length_nil, List.head?_cons, Nat.reduceAdd, Nat.reduceLT, Nat.reduceLeDiff, Nat.reduceBEq, Nat.reduceEqDiff, Nat.succ_ne_zero, Nat.zero_lt_succ, Nat.le_refl, sc_rows, kc_lit, nc_lit, wlk_rows, uR_s, uR_uR, true_and, and_true, true_or, or_true, false_or, or_false, and_false, false_and, or_self, and_self, if_true, if_false, Bool.false_eq_true, Bool.or_false, Bool.or_true, Bool.false_or, Bool.true_or, not_true_eq_false, not_false_eq_true, forall_const, true_implies, false_implies, implies_true, ↓reduceIte, reduceCtorEq, fR, rd1, rd2, rd3, eq_self, t, ej, ec, ep1, ep2, ezq, ed, e1, e2, p2, e8, f1, f8, d6L, pl0, ansLi_j p1 hm, p3, k0 L]
          exact fin
        · refine wk2 hR ok_83 150 (fun pc => pc == 403) ?_
          simp only [kk_83, Option.toList_some, Option.toList_none, ex2, ex, catS, vC, isMk, sym2, popN, goC, callOK, swL, List.map_cons, List.map_nil, List.replicate_zero, List.replicate_succ, List.append_nil, List.nil_append, List.cons_append, List.getElem?_cons_zero, List.getElem?_cons_succ, List.set_cons_zero, List.set_cons_succ, List.length_cons, List.length_nil, List.head?_cons, Nat.reduceAdd, Nat.reduceLT, Nat.reduceLeDiff, Nat.reduceBEq, Nat.reduceEqDiff, Nat.succ_ne_zero, Nat.zero_lt_succ, Nat.le_refl, sc_rows, kc_lit, nc_lit, wlk_rows, uR_s, uR_uR, true_and, and_true, true_or, or_true, false_or, or_false, and_false, false_and, or_self, and_self, if_true, if_false, Bool.false_eq_true, Bool.or_false, Bool.or_true, Bool.false_or, Bool.true_or, not_true_eq_false, not_false_eq_true, forall_const, true_implies, false_implies, implies_true, ↓reduceIte, reduceCtorEq, fR, rd1, rd2, rd3, eq_self, t, ej, ec, ep1, ep2, ezq, ed, ed1, e1, e2, p2, e8, f1, f8, d6L, pl0, ansLi_j p1 hm, p3, k0 L]
          exact fin
  · obtain ⟨p2, e8⟩ := f6 (by rw [e1]; decide)
    have f7' := f7 (by rw [e1]; decide)
    rcases ep with ec | ⟨ec, ep1, ep2⟩
    · refine wk2 hR ok_83 150 (fun pc => pc == 21) ?_
      simp only [kk_83, Option.toList_some, Option.toList_none, ex2, ex, catS, vC, isMk, sym2, popN, goC, callOK, swL, List.map_cons, List.map_nil, List.replicate_zero, List.replicate_succ, List.append_nil, List.nil_append, List.cons_append, List.getElem?_cons_zero, List.getElem?_cons_succ, List.set_cons_zero, List.set_cons_succ, List.length_cons, List.length_nil, List.head?_cons, Nat.reduceAdd, Nat.reduceLT, Nat.reduceLeDiff, Nat.reduceBEq, Nat.reduceEqDiff, Nat.succ_ne_zero, Nat.zero_lt_succ, Nat.le_refl, sc_rows, kc_lit, nc_lit, wlk_rows, uR_s, uR_uR, true_and, and_true, true_or, or_true, false_or, or_false, and_false, false_and, or_self, and_self, if_true, if_false, Bool.false_eq_true, Bool.or_false, Bool.or_true, Bool.false_or, Bool.true_or, not_true_eq_false, not_false_eq_true, forall_const, true_implies, false_implies, implies_true, ↓reduceIte, reduceCtorEq, fR, rd1, rd2, rd3, eq_self, t, ej, ec, e1, f7', p2, e8, f1, d6L, nI_up, k0 L]
      exact h1 I _ _ _ _ h (FL.rf I)
    · refine wk2 hR ok_83 150 (fun pc => pc == 21) ?_
      simp only [kk_83, Option.toList_some, Option.toList_none, ex2, ex, catS, vC, isMk, sym2, popN, goC, callOK, swL, List.map_cons, List.map_nil, List.replicate_zero, List.replicate_succ, List.append_nil, List.nil_append, List.cons_append, List.getElem?_cons_zero, List.getElem?_cons_succ, List.set_cons_zero, List.set_cons_succ, List.length_cons, List.length_nil, List.head?_cons, Nat.reduceAdd, Nat.reduceLT, Nat.reduceLeDiff, Nat.reduceBEq, Nat.reduceEqDiff, Nat.succ_ne_zero, Nat.zero_lt_succ, Nat.le_refl, sc_rows, kc_lit, nc_lit, wlk_rows, uR_s, uR_uR, true_and, and_true, true_or, or_true, false_or, or_false, and_false, false_and, or_self, and_self, if_true, if_false, Bool.false_eq_true, Bool.or_false, Bool.or_true, Bool.false_or, Bool.true_or, not_true_eq_false, not_false_eq_true, forall_const, true_implies, false_implies, implies_true, ↓reduceIte, reduceCtorEq, fR, rd1, rd2, rd3, eq_self, t, ej, ec, ep1, ep2, e1, f7', p2, e8, f1, d6L, nI_up, k0 L]
      exact h1 I _ _ _ _ h (FL.rf I)
  · obtain ⟨p2, e8⟩ := f6 (by rw [e1]; decide)
    have f7' := f7 (by rw [e1]; decide)
    rcases ep with ec | ⟨ec, ep1, ep2⟩
    · refine wk2 hR ok_83 150 (fun pc => pc == 21) ?_
      simp only [kk_83, Option.toList_some, Option.toList_none, ex2, ex, catS, vC, isMk, sym2, popN, goC, callOK, swL, List.map_cons, List.map_nil, List.replicate_zero, List.replicate_succ, List.append_nil, List.nil_append, List.cons_append, List.getElem?_cons_zero, List.getElem?_cons_succ, List.set_cons_zero, List.set_cons_succ, List.length_cons, List.length_nil, List.head?_cons, Nat.reduceAdd, Nat.reduceLT, Nat.reduceLeDiff, Nat.reduceBEq, Nat.reduceEqDiff, Nat.succ_ne_zero, Nat.zero_lt_succ, Nat.le_refl, sc_rows, kc_lit, nc_lit, wlk_rows, uR_s, uR_uR, true_and, and_true, true_or, or_true, false_or, or_false, and_false, false_and, or_self, and_self, if_true, if_false, Bool.false_eq_true, Bool.or_false, Bool.or_true, Bool.false_or, Bool.true_or, not_true_eq_false, not_false_eq_true, forall_const, true_implies, false_implies, implies_true, ↓reduceIte, reduceCtorEq, fR, rd1, rd2, rd3, eq_self, t, ej, ec, e1, f7', p2, e8, f1, d6L, nI_up, k0 L]
      exact h1 I _ _ _ _ h (FL.rf I)
    · refine wk2 hR ok_83 150 (fun pc => pc == 21) ?_
      simp only [kk_83, Option.toList_some, Option.toList_none, ex2, ex, catS, vC, isMk, sym2, popN, goC, callOK, swL, List.map_cons, List.map_nil, List.replicate_zero, List.replicate_succ, List.append_nil, List.nil_append, List.cons_append, List.getElem?_cons_zero, List.getElem?_cons_succ, List.set_cons_zero, List.set_cons_succ, List.length_cons, List.length_nil, List.head?_cons, Nat.reduceAdd, Nat.reduceLT, Nat.reduceLeDiff, Nat.reduceBEq, Nat.reduceEqDiff, Nat.succ_ne_zero, Nat.zero_lt_succ, Nat.le_refl, sc_rows, kc_lit, nc_lit, wlk_rows, uR_s, uR_uR, true_and, and_true, true_or, or_true, false_or, or_false, and_false, false_and, or_self, and_self, if_true, if_false, Bool.false_eq_true, Bool.or_false, Bool.or_true, Bool.false_or, Bool.true_or, not_true_eq_false, not_false_eq_true, forall_const, true_implies, false_implies, implies_true, ↓reduceIte, reduceCtorEq, fR, rd1, rd2, rd3, eq_self, t, ej, ec, ep1, ep2, e1, f7', p2, e8, f1, d6L, nI_up, k0 L]
      exact h1 I _ _ _ _ h (FL.rf I)
  · obtain ⟨p2, e8⟩ := f6 (by rw [e1]; decide)
    have f7' := f7 (by rw [e1]; decide)
    rcases ep with ec | ⟨ec, ep1, ep2⟩
    · refine wk2 hR ok_83 150 (fun pc => pc == 21) ?_
      simp only [kk_83, Option.toList_some, Option.toList_none, ex2, ex, catS, vC, isMk, sym2, popN, goC, callOK, swL, List.map_cons, List.map_nil, List.replicate_zero, List.replicate_succ, List.append_nil, List.nil_append, List.cons_append, List.getElem?_cons_zero, List.getElem?_cons_succ, List.set_cons_zero, List.set_cons_succ, List.length_cons, List.length_nil, List.head?_cons, Nat.reduceAdd, Nat.reduceLT, Nat.reduceLeDiff, Nat.reduceBEq, Nat.reduceEqDiff, Nat.succ_ne_zero, Nat.zero_lt_succ, Nat.le_refl, sc_rows, kc_lit, nc_lit, wlk_rows, uR_s, uR_uR, true_and, and_true, true_or, or_true, false_or, or_false, and_false, false_and, or_self, and_self, if_true, if_false, Bool.false_eq_true, Bool.or_false, Bool.or_true, Bool.false_or, Bool.true_or, not_true_eq_false, not_false_eq_true, forall_const, true_implies, false_implies, implies_true, ↓reduceIte, reduceCtorEq, fR, rd1, rd2, rd3, eq_self, t, ej, ec, e1, f7', p2, e8, f1, d6L, nI_up, k0 L]
      exact h1 I _ _ _ _ h (FL.rf I)
    · refine wk2 hR ok_83 150 (fun pc => pc == 21) ?_
      simp only [kk_83, Option.toList_some, Option.toList_none, ex2, ex, catS, vC, isMk, sym2, popN, goC, callOK, swL, List.map_cons, List.map_nil, List.replicate_zero, List.replicate_succ, List.append_nil, List.nil_append, List.cons_append, List.getElem?_cons_zero, List.getElem?_cons_succ, List.set_cons_zero, List.set_cons_succ, List.length_cons, List.length_nil, List.head?_cons, Nat.reduceAdd, Nat.reduceLT, Nat.reduceLeDiff, Nat.reduceBEq, Nat.reduceEqDiff, Nat.succ_ne_zero, Nat.zero_lt_succ, Nat.le_refl, sc_rows, kc_lit, nc_lit, wlk_rows, uR_s, uR_uR, true_and, and_true, true_or, or_true, false_or, or_false, and_false, false_and, or_self, and_self, if_true, if_false, Bool.false_eq_true, Bool.or_false, Bool.or_true, Bool.false_or, Bool.true_or, not_true_eq_false, not_false_eq_true, forall_const, true_implies, false_implies, implies_true, ↓reduceIte, reduceCtorEq, fR, rd1, rd2, rd3, eq_self, t, ej, ec, ep1, ep2, e1, f7', p2, e8, f1, d6L, nI_up, k0 L]
      exact h1 I _ _ _ _ h (FL.rf I)
  · obtain ⟨p2, e8⟩ := f6 (by rw [e1]; decide)
    have f7' := f7 (by rw [e1]; decide)
    rcases ep with ec | ⟨ec, ep1, ep2⟩
    · refine wk2 hR ok_83 150 (fun pc => pc == 21) ?_
      simp only [kk_83, Option.toList_some, Option.toList_none, ex2, ex, catS, vC, isMk, sym2, popN, goC, callOK, swL, List.map_cons, List.map_nil, List.replicate_zero, List.replicate_succ, List.append_nil, List.nil_append, List.cons_append, List.getElem?_cons_zero, List.getElem?_cons_succ, List.set_cons_zero, List.set_cons_succ, List.length_cons, List.length_nil, List.head?_cons, Nat.reduceAdd, Nat.reduceLT, Nat.reduceLeDiff, Nat.reduceBEq, Nat.reduceEqDiff, Nat.succ_ne_zero, Nat.zero_lt_succ, Nat.le_refl, sc_rows, kc_lit, nc_lit, wlk_rows, uR_s, uR_uR, true_and, and_true, true_or, or_true, false_or, or_false, and_false, false_and, or_self, and_self, if_true, if_false, Bool.false_eq_true, Bool.or_false, Bool.or_true, Bool.false_or, Bool.true_or, not_true_eq_false, not_false_eq_true, forall_const, true_implies, false_implies, implies_true, ↓reduceIte, reduceCtorEq, fR, rd1, rd2, rd3, eq_self, t, ej, ec, e1, f7', p2, e8, f1, d6L, nI_up, k0 L]
      exact h1 I _ _ _ _ h (FL.rf I)
    · refine wk2 hR ok_83 150 (fun pc => pc == 21) ?_
      simp only [kk_83, Option.toList_some, Option.toList_none, ex2, ex, catS, vC, isMk, sym2, popN, goC, callOK, swL, List.map_cons, List.map_nil, List.replicate_zero, List.replicate_succ, List.append_nil, List.nil_append, List.cons_append, List.getElem?_cons_zero, List.getElem?_cons_succ, List.set_cons_zero, List.set_cons_succ, List.length_cons, List.length_nil, List.head?_cons, Nat.reduceAdd, Nat.reduceLT, Nat.reduceLeDiff, Nat.reduceBEq, Nat.reduceEqDiff, Nat.succ_ne_zero, Nat.zero_lt_succ, Nat.le_refl, sc_rows, kc_lit, nc_lit, wlk_rows, uR_s, uR_uR, true_and, and_true, true_or, or_true, false_or, or_false, and_false, false_and, or_self, and_self, if_true, if_false, Bool.false_eq_true, Bool.or_false, Bool.or_true, Bool.false_or, Bool.true_or, not_true_eq_false, not_false_eq_true, forall_const, true_implies, false_implies, implies_true, ↓reduceIte, reduceCtorEq, fR, rd1, rd2, rd3, eq_self, t, ej, ec, ep1, ep2, e1, f7', p2, e8, f1, d6L, nI_up, k0 L]
      exact h1 I _ _ _ _ h (FL.rf I)
  · obtain ⟨p2, e8⟩ := f6 (by rw [e1]; decide)
    have f7' := f5 e1
    rcases ep with ec | ⟨ec, ep1, ep2⟩
    · refine wk2 hR ok_83 150 (fun pc => pc == 21) ?_
      simp only [kk_83, Option.toList_some, Option.toList_none, ex2, ex, catS, vC, isMk, sym2, popN, goC, callOK, swL, List.map_cons, List.map_nil, List.replicate_zero, List.replicate_succ, List.append_nil, List.nil_append, List.cons_append, List.getElem?_cons_zero, List.getElem?_cons_succ, List.set_cons_zero, List.set_cons_succ, List.length_cons, List.length_nil, List.head?_cons, Nat.reduceAdd, Nat.reduceLT, Nat.reduceLeDiff, Nat.reduceBEq, Nat.reduceEqDiff, Nat.succ_ne_zero, Nat.zero_lt_succ, Nat.le_refl, sc_rows, kc_lit, nc_lit, wlk_rows, uR_s, uR_uR, true_and, and_true, true_or, or_true, false_or, or_false, and_false, false_and, or_self, and_self, if_true, if_false, Bool.false_eq_true, Bool.or_false, Bool.or_true, Bool.false_or, Bool.true_or, not_true_eq_false, not_false_eq_true, forall_const, true_implies, false_implies, implies_true, ↓reduceIte, reduceCtorEq, fR, rd1, rd2, rd3, eq_self, t, ej, ec, e1, f7', p2, e8, f1, d6L, nI_up, k0 L]
      exact h1 I _ _ _ _ h (FL.rf I)
    · refine wk2 hR ok_83 150 (fun pc => pc == 21) ?_
      simp only [kk_83, Option.toList_some, Option.toList_none, ex2, ex, catS, vC, isMk, sym2, popN, goC, callOK, swL, List.map_cons, List.map_nil, List.replicate_zero, List.replicate_succ, List.append_nil, List.nil_append, List.cons_append, List.getElem?_cons_zero, List.getElem?_cons_succ, List.set_cons_zero, List.set_cons_succ, List.length_cons, List.length_nil, List.head?_cons, Nat.reduceAdd, Nat.reduceLT, Nat.reduceLeDiff, Nat.reduceBEq, Nat.reduceEqDiff, Nat.succ_ne_zero, Nat.zero_lt_succ, Nat.le_refl, sc_rows, kc_lit, nc_lit, wlk_rows, uR_s, uR_uR, true_and, and_true, true_or, or_true, false_or, or_false, and_false, false_and, or_self, and_self, if_true, if_false, Bool.false_eq_true, Bool.or_false, Bool.or_true, Bool.false_or, Bool.true_or, not_true_eq_false, not_false_eq_true, forall_const, true_implies, false_implies, implies_true, ↓reduceIte, reduceCtorEq, fR, rd1, rd2, rd3, eq_self, t, ej, ec, ep1, ep2, e1, f7', p2, e8, f1, d6L, nI_up, k0 L]
      exact h1 I _ _ _ _ h (FL.rf I)
set_option maxRecDepth 100000 in
theorem w_taxis {bb : Nat} (hbb : bb < 2147483648) (hW : WZ z n bb) (h1 : ∀ I' v9 v10 v11 v12, CT I' Q τ b z w a n m k → FL I I' → Sy l 83 (149, 1788) 428 [some (.ref 0), some (.int (Sm (sL z) n)), some (.int (Sm (sC z) n)), some (.int (Sm (sF z) n)), some (.int (Sm (sO z) n)), some (.int (moV z n)), some (.int (feV z n)), some (.int 1), some (.int (nI 0)), v9, v10, v11, v12] [] (SC L, I', Q) P) : ∀ d j I1 v9 v10 v11 v12, j + d = n → CT I1 Q τ b z w a n m k → FL I I1 → I1 0 6 = nI 0 → Sy l 83 (149, 1788) 21 [some (.ref 0), some (.int (Sm (sL z) j)), some (.int (Sm (sC z) j)), some (.int (Sm (sF z) j)), some (.int (Sm (sO z) j)), some (.int (moV z j)), some (.int (feV z j)), some (.int 1), some (.int (nI j)), v9, v10, v11, v12] [] (SC L, I1, Q) P := by
  intro d
  induction d with
  | zero =>
    intro j I1 v9 v10 v11 v12 hj h hF hl
    obtain rfl : j = n := by omega
    have hR := fR_ok (l := l) (L := L) h hl
    have hn := h.2.1.2.2.2.1
    have := h1 I1 v9 v10 v11 v12 h hF
    refine wk2 hR ok_83 20 (fun pc => pc == 428) ?_
    simp only [kk_83, Option.toList_some, Option.toList_none, ex2, ex, catS, vC, isMk, sym2, popN, goC, callOK, swL, List.map_cons, List.map_nil, List.replicate_zero, List.replicate_succ, List.append_nil, List.nil_append, List.cons_append, List.getElem?_cons_zero, List.getElem?_cons_succ, List.set_cons_zero, List.set_cons_succ, List.length_cons, List.length_nil, List.head?_cons, Nat.reduceAdd, Nat.reduceLT, Nat.reduceLeDiff, Nat.reduceBEq, Nat.reduceEqDiff, Nat.succ_ne_zero, Nat.zero_lt_succ, Nat.le_refl, sc_rows, kc_lit, nc_lit, wlk_rows, uR_s, uR_uR, true_and, and_true, true_or, or_true, false_or, or_false, and_false, false_and, or_self, and_self, if_true, if_false, Bool.false_eq_true, Bool.or_false, Bool.or_true, Bool.false_or, Bool.true_or, not_true_eq_false, not_false_eq_true, forall_const, true_implies, false_implies, implies_true, ↓reduceIte, reduceCtorEq, fR, rd1, rd2, rd3, eq_self, ansCo_s, leT (Nat.le_refl j) (show j < 2147483648 by omega), k0 L]
    exact this
  | succ d ih =>
    intro j I1 v9 v10 v11 v12 hj h hF hl
    refine w_sum h hl (show j < n by omega) v9 v10 v11 v12 ?_
    refine w_most h hl (show j < n by omega) _ _ _ _ _ _ _ ?_
    refine w_chk h hl hbb hW (show j < n by omega) _ _ _ _ _ _ (fun I2 u9 u10 u11 u12 g2 q2 => ?_)
    exact ih (j + 1) I2 u9 u10 u11 u12 (by omega) g2 (hF.tr q2) (q2.txt hl)
set_option maxHeartbeats 1000000 in
set_option maxRecDepth 100000 in
theorem w_wait {bd c : Nat} (h : CT I Q τ b z w a n m k) (hl : I 0 6 = nI 0) (hE : EX z n k bd c) (hc : c ≤ 99999) (hC : CR z k) (v1 v2 v3 v4 v5 v6 v9 v10 v11 v12 : Option Value) (h1 : ∀ x, Sy l 83 (149, 1788) 502 [some (.ref 0), v1, v2, v3, v4, v5, v6, some (.int 1), some (.int x), v9, v10, v11, v12] [] (SC L, I, Q) P) : ∀ d r, r + d = k → Sy l 83 (149, 1788) 428 [some (.ref 0), v1, v2, v3, v4, v5, v6, some (.int 1), some (.int (nI r)), v9, v10, v11, v12] [] (SC L, I, Q) P := by
  have hR := fR_ok (l := l) (L := L) h hl
  obtain ⟨hM, hL⟩ := h.2.1.2
  have hk := hM.2.2.2.2.1
  intro d
  induction d with
  | zero =>
    intro r hr
    obtain rfl : r = k := by omega
    have := h1 (nI r)
    refine wk2 hR ok_83 20 (fun pc => pc == 502) ?_
    simp only [kk_83, Option.toList_some, Option.toList_none, ex2, ex, catS, vC, isMk, sym2, popN, goC, callOK, swL, List.map_cons, List.map_nil, List.replicate_zero, List.replicate_succ, List.append_nil, List.nil_append, List.cons_append, List.getElem?_cons_zero, List.getElem?_cons_succ, List.set_cons_zero, List.set_cons_succ, List.length_cons, List.length_nil, List.head?_cons, Nat.reduceAdd, Nat.reduceLT, Nat.reduceLeDiff, Nat.reduceBEq, Nat.reduceEqDiff, Nat.succ_ne_zero, Nat.zero_lt_succ, Nat.le_refl, sc_rows, kc_lit, nc_lit, wlk_rows, uR_s, uR_uR, true_and, and_true, true_or, or_true, false_or, or_false, and_false, false_and, or_self, and_self, if_true, if_false, Bool.false_eq_true, Bool.or_false, Bool.or_true, Bool.false_or, Bool.true_or, not_true_eq_false, not_false_eq_true, forall_const, true_implies, false_implies, implies_true, ↓reduceIte, reduceCtorEq, fR, rd1, rd2, rd3, eq_self, ansCo_s, leT (Nat.le_refl r) (show r < 2147483648 by omega), k0 L]
    exact this
  | succ d ih =>
    intro r hr
    have next := ih (r + 1) (by omega)
    obtain ⟨w0, w1⟩ := ansWa_j (z := z) (show r < k by omega) hk
    have n10 : (z (27 + 3 * r) = 10) = False := eq_false (hM.2.2.2.2.2 r (by omega)).2
    obtain ⟨aa, -, -, ha⟩ := hE.2.2.1
    obtain ⟨t, n0, x1, x2, -⟩ := ha r (by omega)
    have nn : (z 5 - z (27 + 3 * r + 1) < 0) = False := by
      rw [hE.2.1, x1, nI_sub x2]
      exact nI_lt0 (by omega)
    by_cases g : r = 0
    · have e0 : (nI r = 0) = True := by rw [g]; decide
      refine wk2 hR ok_83 60 (fun pc => pc == 428) ?_
      simp only [kk_83, Option.toList_some, Option.toList_none, ex2, ex, catS, vC, isMk, sym2, popN, goC, callOK, swL, List.map_cons, List.map_nil, List.replicate_zero, List.replicate_succ, List.append_nil, List.nil_append, List.cons_append, List.getElem?_cons_zero, List.getElem?_cons_succ, List.set_cons_zero, List.set_cons_succ, List.length_cons, List.length_nil, List.head?_cons, Nat.reduceAdd, Nat.reduceLT, Nat.reduceLeDiff, Nat.reduceBEq, Nat.reduceEqDiff, Nat.succ_ne_zero, Nat.zero_lt_succ, Nat.le_refl, sc_rows, kc_lit, nc_lit, wlk_rows, uR_s, uR_uR, true_and, and_true, true_or, or_true, false_or, or_false, and_false, false_and, or_self, and_self, if_true, if_false, Bool.false_eq_true, Bool.or_false, Bool.or_true, Bool.false_or, Bool.true_or, not_true_eq_false, not_false_eq_true, forall_const, true_implies, false_implies, implies_true, ↓reduceIte, reduceCtorEq, fR, rd1, rd2, rd3, eq_self, ansCo_s, leF (show r < k by omega) (show k < 2147483648 by omega), w0, w1, n10, nn, e0, nI_up, nz_lit, k0 L]
      exact next
    · have e0 := nI_0F g (show r < 2147483648 by omega)
      obtain ⟨s, n1, y1, y2, -⟩ := ha (r - 1) (by omega)
      have hle := hC (r - 1) (by omega)
      rw [show r - 1 + 1 = r by omega, x1, y1, nI_leI (by omega) (by omega)] at hle
      obtain ⟨-, w2⟩ := ansWa_j (z := z) (show r - 1 < k by omega) hk
      have w3 : ansWa z k (nI r - 1) 1 = z 5 - z (27 + 3 * (r - 1) + 1) := by rw [(nI_dn (show 0 < r by omega)).2]; exact w2
      have lt : (z 5 - z (27 + 3 * (r - 1) + 1) < z 5 - z (27 + 3 * r + 1)) = False := by
        rw [hE.2.1, x1, y1, nI_sub x2, nI_sub y2]
        exact ltF (by omega) (by omega)
      refine wk2 hR ok_83 60 (fun pc => pc == 428) ?_
      simp only [kk_83, Option.toList_some, Option.toList_none, ex2, ex, catS, vC, isMk, sym2, popN, goC, callOK, swL, List.map_cons, List.map_nil, List.replicate_zero, List.replicate_succ, List.append_nil, List.nil_append, List.cons_append, List.getElem?_cons_zero, List.getElem?_cons_succ, List.set_cons_zero, List.set_cons_succ, List.length_cons, List.length_nil, List.head?_cons, Nat.reduceAdd, Nat.reduceLT, Nat.reduceLeDiff, Nat.reduceBEq, Nat.reduceEqDiff, Nat.succ_ne_zero, Nat.zero_lt_succ, Nat.le_refl, sc_rows, kc_lit, nc_lit, wlk_rows, uR_s, uR_uR, true_and, and_true, true_or, or_true, false_or, or_false, and_false, false_and, or_self, and_self, if_true, if_false, Bool.false_eq_true, Bool.or_false, Bool.or_true, Bool.false_or, Bool.true_or, not_true_eq_false, not_false_eq_true, forall_const, true_implies, false_implies, implies_true, ↓reduceIte, reduceCtorEq, fR, rd1, rd2, rd3, eq_self, ansCo_s, leF (show r < k by omega) (show k < 2147483648 by omega), w0, w1, w3, lt, n10, nn, e0, nI_up, nz_lit, k0 L]
      exact next
set_option maxHeartbeats 1000000 in
set_option maxRecDepth 100000 in
theorem w_end {bb : Nat} (h : CT I Q τ b z w a n m k) (hl : I 0 6 = nI 0) (hW : WZ z n bb) (v8 v9 v10 v11 v12 : Option Value) (h1 : P (some (.int 1)) (SC L, I, Q)) : Sy l 83 (149, 1788) 502 [some (.ref 0), some (.int (Sm (sL z) n)), some (.int (Sm (sC z) n)), some (.int (Sm (sF z) n)), some (.int (Sm (sO z) n)), some (.int (moV z n)), some (.int (feV z n)), some (.int 1), v8, v9, v10, v11, v12] [] (SC L, I, Q) P := by
  have hR := fR_ok (l := l) (L := L) h hl
  obtain ⟨hM, hL⟩ := h.2.1.2
  have hk := hM.2.2.2.2.1
  have hn := hL.2.1
  have s1 : Sm (sL z) n = nI m := Sm_line hL
  have s2 : Sm (sC z) n = z 9 := hW.2.2.1.1
  have s3 : Sm (sF z) n = z 6 + Sm (sO z) n := by
    have := Sm_spl (f := sF z) (g := sO z) n
    rw [this]
    exact congrArg (· + Sm (sO z) n) hW.2.2.1.2
  have k15 : ((15 : Int32) < nI k) = False := ltF (a := 15) (b := k) hk (by omega)
  have n12 : ((12 : Int32) < nI n) = False := ltF (a := 12) (b := n) hn (by omega)
  by_cases g : n = 0
  · have e0 : (nI n = 0) = True := by rw [g]; decide
    have sh : ansSh z n 0 = -5 := by unfold ansSh; rw [if_neg (by decide), if_pos g]
    refine wk2 hR ok_83 80 (fun pc => false) ?_
    simp only [kk_83, Option.toList_some, Option.toList_none, ex2, ex, catS, vC, isMk, sym2, popN, goC, callOK, swL, List.map_cons, List.map_nil, List.replicate_zero, List.replicate_succ, List.append_nil, List.nil_append, List.cons_append, List.getElem?_cons_zero, List.getElem?_cons_succ, List.set_cons_zero, List.set_cons_succ, List.length_cons, List.length_nil, List.head?_cons, Nat.reduceAdd, Nat.reduceLT, Nat.reduceLeDiff, Nat.reduceBEq, Nat.reduceEqDiff, Nat.succ_ne_zero, Nat.zero_lt_succ, Nat.le_refl, sc_rows, kc_lit, nc_lit, wlk_rows, uR_s, uR_uR, true_and, and_true, true_or, or_true, false_or, or_false, and_false, false_and, or_self, and_self, if_true, if_false, Bool.false_eq_true, Bool.or_false, Bool.or_true, Bool.false_or, Bool.true_or, not_true_eq_false, not_false_eq_true, forall_const, true_implies, false_implies, implies_true, ↓reduceIte, reduceCtorEq, fR, rd1, rd2, rd3, eq_self, ansCo_s, s1, s2, s3, k15, n12, e0, sh, nz_lit, k0 L]
    exact h1
  · have e0 := nI_0F g (show n < 2147483648 by omega)
    have hmo := (moF_le z (n - 1)).1
    have hfe := (moF_le z (n - 1)).2
    have em : moV z n = z (tp (moF z (n - 1)) 6) := by
      obtain ⟨i, e⟩ : ∃ i, n = i + 1 := ⟨n - 1, by omega⟩
      rw [e]; rfl
    have ef : feV z n = z (tp (feF z (n - 1)) 6) := by
      obtain ⟨i, e⟩ : ∃ i, n = i + 1 := ⟨n - 1, by omega⟩
      rw [e]; rfl
    have sh0 : ansSh z n 0 = z (tp (moF z (n - 1)) 6) - z (tp (feF z (n - 1)) 6) := by unfold ansSh; rw [if_neg (by decide), if_neg g, if_pos rfl]
    have sh1 : ansSh z n 1 = z (tp (moF z (n - 1)) 0) := by unfold ansSh; rw [if_neg (by decide), if_neg g, if_neg (by decide), if_pos rfl]
    have sh2 : ansSh z n 2 = z (tp (feF z (n - 1)) 0) := by unfold ansSh; rw [if_neg (by decide), if_neg g, if_neg (by decide), if_neg (by decide)]
    have tm := (ansTx_s (m := m) (ftz_u hL (show moF z (n - 1) < n by omega) rfl)).2.2.2.2.2.2.1
    have tf := (ansTx_s (m := m) (ftz_u hL (show feF z (n - 1) < n by omega) rfl)).2.2.2.2.2.2.1
    refine wk2 hR ok_83 80 (fun pc => false) ?_
    simp only [kk_83, Option.toList_some, Option.toList_none, ex2, ex, catS, vC, isMk, sym2, popN, goC, callOK, swL, List.map_cons, List.map_nil, List.replicate_zero, List.replicate_succ, List.append_nil, List.nil_append, List.cons_append, List.getElem?_cons_zero, List.getElem?_cons_succ, List.set_cons_zero, List.set_cons_succ, List.length_cons, List.length_nil, List.head?_cons, Nat.reduceAdd, Nat.reduceLT, Nat.reduceLeDiff, Nat.reduceBEq, Nat.reduceEqDiff, Nat.succ_ne_zero, Nat.zero_lt_succ, Nat.le_refl, sc_rows, kc_lit, nc_lit, wlk_rows, uR_s, uR_uR, true_and, and_true, true_or, or_true, false_or, or_false, and_false, false_and, or_self, and_self, if_true, if_false, Bool.false_eq_true, Bool.or_false, Bool.or_true, Bool.false_or, Bool.true_or, not_true_eq_false, not_false_eq_true, forall_const, true_implies, false_implies, implies_true, ↓reduceIte, reduceCtorEq, fR, rd1, rd2, rd3, eq_self, ansCo_s, s1, s2, s3, k15, n12, e0, em, ef, sh0, sh1, sh2, tm, tf, nz_lit, k0 L]
    exact h1
set_option maxRecDepth 100000 in
theorem l_whole {bb bd c : Nat} (h : CT I Q τ b z w a n m k) (hl : I 0 6 = nI 0) (hbb : bb < 2147483648) (hW : WZ z n bb) (hE : EX z n k bd c) (hc : c ≤ 99999) (hC : CR z k) (h1 : ∀ I', CT I' Q τ b z w a n m k → FL I I' → P (some (.int 1)) (SC L, I', Q)) : Runs l 83 [.ref 0] (SC L, I, Q) P := by
  refine run0 (n := 12) mok_83 ⟨rfl, rfl⟩ rfl ?_
  refine wk2 (fn0_ok l) ok_83 20 (fun pc => pc == 21) ?_
  simp only [kk_83, Option.toList_some, Option.toList_none, ex2, ex, catS, vC, isMk, sym2, popN, goC, callOK, swL, List.map_cons, List.map_nil, List.replicate_zero, List.replicate_succ, List.append_nil, List.nil_append, List.cons_append, List.getElem?_cons_zero, List.getElem?_cons_succ, List.set_cons_zero, List.set_cons_succ, List.length_cons, List.length_nil, List.head?_cons, Nat.reduceAdd, Nat.reduceLT, Nat.reduceLeDiff, Nat.reduceBEq, Nat.reduceEqDiff, Nat.succ_ne_zero, Nat.zero_lt_succ, Nat.le_refl, sc_rows, kc_lit, nc_lit, wlk_rows, uR_s, uR_uR, true_and, and_true, true_or, or_true, false_or, or_false, and_false, false_and, or_self, and_self, if_true, if_false, Bool.false_eq_true, Bool.or_false, Bool.or_true, Bool.false_or, Bool.true_or, not_true_eq_false, not_false_eq_true, forall_const, true_implies, false_implies, implies_true, ↓reduceIte, reduceCtorEq, fn0, eq_self]
  refine w_taxis hbb hW (fun I1 v9 v10 v11 v12 g1 q1 => ?_) n 0 I _ _ _ _ (by omega) h (FL.rf I) hl
  refine w_wait g1 (q1.txt hl) hE hc hC _ _ _ _ _ _ v9 v10 v11 v12 (fun x => ?_) k 0 (by omega)
  exact w_end g1 (q1.txt hl) hW _ v9 v10 v11 v12 (h1 I1 g1 q1)
end WH
