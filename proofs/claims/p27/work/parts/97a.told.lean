/-! p27: what is told of a state, in the state's own words -/
theorem ansTx_s {z : Nat → Int32} {n m i : Nat} {p : Int32} (hf : ftz z p n = some i) : ansTx z n m p 0 = z (tp i 1) ∧ ansTx z n m p 1 = plcI z p m ∧ ansTx z n m p 2 = z (tp i 2) ∧ ansTx z n m p 3 = z (tp i 3) ∧ ansTx z n m p 4 = z (tp i 4) ∧ ansTx z n m p 5 = z (tp i 5) ∧ ansTx z n m p 6 = z (tp i 6) ∧ ansTx z n m p 7 = z (tp i 7) ∧ ansTx z n m p 8 = z (tp i 8) := by
  unfold ansTx
  rw [hf]
  exact ⟨rfl, rfl, rfl, rfl, rfl, rfl, rfl, rfl, rfl⟩
theorem ansTx_n {z : Nat → Int32} {n m : Nat} {p : Int32} (hf : ftz z p n = none) (v : Int32) : ansTx z n m p v = -1 := by
  unfold ansTx
  rw [hf]
theorem ansCo_s (z : Nat → Int32) (n m k a ln : Nat) : ansCo z n m k a ln 0 = z 5 ∧ ansCo z n m k a ln 1 = z 5 / 1440 ∧ ansCo z n m k a ln 2 = nI n ∧ ansCo z n m k a ln 3 = nI m ∧ ansCo z n m k a ln 4 = nI k ∧ ansCo z n m k a ln 5 = z 6 ∧ ansCo z n m k a ln 6 = z 7 ∧ ansCo z n m k a ln 7 = z 8 ∧ ansCo z n m k a ln 8 = z 9 ∧ ansCo z n m k a ln 9 = z 10 ∧ ansCo z n m k a ln 10 = z 0 ∧ ansCo z n m k a ln 11 = z 1 ∧ ansCo z n m k a ln 12 = z 2 ∧ ansCo z n m k a ln 13 = z 3 ∧ ansCo z n m k a ln 14 = z 4 ∧ ansCo z n m k a ln 15 = nI a := ⟨rfl, rfl, rfl, rfl, rfl, rfl, rfl, rfl, rfl, rfl, rfl, rfl, rfl, rfl, rfl, rfl⟩
theorem ansPl_j {z : Nat → Int32} {n j : Nat} (hj : j < n) (hn : n ≤ 12) : ansPl z n (nI j) = z (tp j 0) := by
  unfold ansPl
  rw [if_neg (nI_pos (by omega)), if_pos ((nI_ltI (by omega) (by omega)).mpr hj), ix_nI (by omega)]
theorem ansLi_j {z : Nat → Int32} {m j : Nat} (hj : j < m) (hm : m ≤ 12) : ansLi z m (nI j) = z (15 + j) := by
  unfold ansLi
  rw [if_neg (nI_pos (by omega)), if_pos ((nI_ltI (by omega) (by omega)).mpr hj), ix_nI (by omega)]
theorem ansWa_j {z : Nat → Int32} {k j : Nat} (hj : j < k) (hk : k ≤ 15) : ansWa z k (nI j) 0 = z (27 + 3 * j) ∧ ansWa z k (nI j) 1 = z 5 - z (27 + 3 * j + 1) := by
  have h0 : ¬ nI j < 0 := nI_pos (by omega)
  have h1 : nI j < nI k := (nI_ltI (by omega) (by omega)).mpr hj
  have e : ix (nI j) = j := ix_nI (by omega)
  unfold ansWa
  constructor
  · rw [if_neg (fun q => Or.elim q h0 (fun q => q (by decide))), if_pos h1, e]
    rfl
  · rw [if_neg (fun q => Or.elim q h0 (fun q => q (by decide))), if_pos h1, e]
    rfl
/-- what stands still while the law asks and tries -/
def FL (I I' : Nat → Nat → Int32) : Prop := I' 0 = I 0 ∧ ∀ p, (41 ≤ p ∧ p < 61 ∨ p = 143 ∨ 1000 ≤ p) → I' p = I p
theorem FL.rf (I : Nat → Nat → Int32) : FL I I := ⟨rfl, fun _ _ => rfl⟩
theorem FL.tr {I I' I'' : Nat → Nat → Int32} (h : FL I I') (h' : FL I' I'') : FL I I'' := ⟨h'.1.trans h.1, fun p hp => (h'.2 p hp).trans (h.2 p hp)⟩
theorem FL.of {I I' : Nat → Nat → Int32} {Q Q' : Nat → Nat → Option Nat} (h : FA I I' Q Q') : FL I I' := ⟨h.1 0 (by omega), fun p hp => h.1 p (by omega)⟩
theorem FL.txt {I I' : Nat → Nat → Int32} (h : FL I I') (hl : I 0 6 = nI 0) : I' 0 6 = nI 0 := by rw [h.1]; exact hl
theorem FL.kon {I I' : Nat → Nat → Int32} (h : FL I I') (hK : KonI I) : KonI I' := fun j hj => by rw [h.2 1000 (by omega), h.2 1001 (by omega)]; exact hK j hj
/-- all that is told of a state, as one number -/
def svA (z : Nat → Int32) (n m k a : Nat) : Nat → Int64
  | 0 => Int64.ofNat 83
  | j + 1 => Int64.ofNat 31 * (Int64.ofNat 31 * (Int64.ofNat 31 * (Int64.ofNat 31 * (Int64.ofNat 31 * svA z n m k a j + (ansCo z n m k a 0 (nI j)).toInt64) + (ansLi z m (nI j)).toInt64) + (ansPl z n (nI j)).toInt64) + (ansWa z k (nI j) 0).toInt64) + (ansWa z k (nI j) 1).toInt64
def svC (z : Nat → Int32) (n m j : Nat) (h : Int64) : Nat → Int64
  | 0 => h
  | v + 1 => Int64.ofNat 31 * svC z n m j h v + (ansTx z n m (ansPl z n (nI j)) (nI v)).toInt64
def svB (z : Nat → Int32) (n m : Nat) (h : Int64) : Nat → Int64
  | 0 => h
  | j + 1 => svC z n m j (svB z n m h j) 10
def sv (z : Nat → Int32) (n m k : Nat) : Int64 := svB z n m (svA z n m k 0 15) n
theorem ansCo_a (z : Nat → Int32) (n m k a : Nat) {j : Nat} (hj : j < 15) : ansCo z n m k a 0 (nI j) = ansCo z n m k 0 0 (nI j) := by
  match j, hj with
  | 0, _ => rfl
  | 1, _ => rfl
  | 2, _ => rfl
  | 3, _ => rfl
  | 4, _ => rfl
  | 5, _ => rfl
  | 6, _ => rfl
  | 7, _ => rfl
  | 8, _ => rfl
  | 9, _ => rfl
  | 10, _ => rfl
  | 11, _ => rfl
  | 12, _ => rfl
  | 13, _ => rfl
  | 14, _ => rfl
theorem svA_a (z : Nat → Int32) (n m k a : Nat) : ∀ j, j ≤ 15 → svA z n m k a j = svA z n m k 0 j := by
  intro j
  induction j with
  | zero => intro _; rfl
  | succ j ih =>
    intro hj
    simp only [svA]
    rw [ih (by omega), ansCo_a z n m k a (show j < 15 by omega)]
theorem lg_rf (x : Int64) : lg_cmp x x = 0 := by
  unfold lg_cmp
  simp
section SEEN
variable {l : Launch} {L : Nat} {I : Nat → Nat → Int32} {Q : Nat → Nat → Option Nat} {P : Option Value → PH → Prop} {τ : Nat → Nat → Nat} {b : Nat → Nat} {z : Nat → Int32} {w : Nat → Nat → Int32} {a n m k : Nat}
set_option maxRecDepth 100000 in
theorem l_seen2 (h : CT I Q τ b z w a n m k) (hl : I 0 6 = nI 0) (x : Int64) (hx : svB z n m x n = sv z n m k) (h1 : P (some (.long (sv z n m k))) (SC L, I, Q)) : ∀ d j a4, j + d = n → Sy l 82 (149, 1788) 81 [some (.ref 0), some (.long (svB z n m x j)), some (.double 0), some (.int (nI j)), a4] [] (SC L, I, Q) P := by
  have hR := fR_ok (l := l) (L := L) h hl
  have hn : n ≤ 12 := h.2.1.2.2.2.1
  intro d
  induction d with
  | zero =>
    intro j a4 hj
    obtain rfl : j = n := by omega
    rw [hx]
    refine wk2 hR ok_82 20 (fun pc => false) ?_
    simp only [kk_82, Option.toList_some, Option.toList_none, ex2, ex, catS, vC, isMk, sym2, popN, goC, callOK, swL, List.map_cons, List.map_nil, List.replicate_zero, List.replicate_succ, List.append_nil, List.nil_append, List.cons_append, List.getElem?_cons_zero, List.getElem?_cons_succ, List.set_cons_zero, List.set_cons_succ, List.length_cons, List.length_nil, List.head?_cons, Nat.reduceAdd, Nat.reduceLT, Nat.reduceLeDiff, Nat.reduceBEq, Nat.reduceEqDiff, Nat.succ_ne_zero, Nat.zero_lt_succ, Nat.le_refl, sc_rows, kc_lit, nc_lit, wlk_rows, uR_s, uR_uR, true_and, and_true, true_or, or_true, false_or, or_false, and_false, false_and, or_self, and_self, if_true, if_false, Bool.false_eq_true, Bool.or_false, Bool.or_true, Bool.false_or, Bool.true_or, not_true_eq_false, not_false_eq_true, forall_const, true_implies, false_implies, implies_true, ↓reduceIte, reduceCtorEq, fR, rd1, rd2, rd3, eq_self, ansCo_s, leT (Nat.le_refl j) (show j < 2147483648 by omega), k0 L]
    exact h1
  | succ d ih =>
    intro j a4 hj
    have inner : ∀ e v, v + e = 10 → Sy l 82 (149, 1788) 93 [some (.ref 0), some (.long (svC z n m j (svB z n m x j) v)), some (.double 0), some (.int (nI j)), some (.int (nI v))] [] (SC L, I, Q) P := by
      intro e
      induction e with
      | zero =>
        intro v hv
        obtain rfl : v = 10 := by omega
        refine wk2 hR ok_82 20 (fun pc => pc == 81) ?_
        simp only [kk_82, Option.toList_some, Option.toList_none, ex2, ex, catS, vC, isMk, sym2, popN, goC, callOK, swL, List.map_cons, List.map_nil, List.replicate_zero, List.replicate_succ, List.append_nil, List.nil_append, List.cons_append, List.getElem?_cons_zero, List.getElem?_cons_succ, List.set_cons_zero, List.set_cons_succ, List.length_cons, List.length_nil, List.head?_cons, Nat.reduceAdd, Nat.reduceLT, Nat.reduceLeDiff, Nat.reduceBEq, Nat.reduceEqDiff, Nat.succ_ne_zero, Nat.zero_lt_succ, Nat.le_refl, sc_rows, kc_lit, nc_lit, wlk_rows, uR_s, uR_uR, true_and, and_true, true_or, or_true, false_or, or_false, and_false, false_and, or_self, and_self, if_true, if_false, Bool.false_eq_true, Bool.or_false, Bool.or_true, Bool.false_or, Bool.true_or, not_true_eq_false, not_false_eq_true, forall_const, true_implies, false_implies, implies_true, ↓reduceIte, reduceCtorEq, fR, rd1, rd2, rd3, eq_self, show ((10 : Int32) ≤ nI 10) = True by decide, nI_up]
        exact ih (j + 1) _ (by omega)
      | succ e ihe =>
        intro v hv
        have e10 : ((10 : Int32) ≤ nI v) = False := leF (a := 10) (show v < 10 by omega) (by omega)
        refine wk2 hR ok_82 20 (fun pc => pc == 93) ?_
        simp only [kk_82, Option.toList_some, Option.toList_none, ex2, ex, catS, vC, isMk, sym2, popN, goC, callOK, swL, List.map_cons, List.map_nil, List.replicate_zero, List.replicate_succ, List.append_nil, List.nil_append, List.cons_append, List.getElem?_cons_zero, List.getElem?_cons_succ, List.set_cons_zero, List.set_cons_succ, List.length_cons, List.length_nil, List.head?_cons, Nat.reduceAdd, Nat.reduceLT, Nat.reduceLeDiff, Nat.reduceBEq, Nat.reduceEqDiff, Nat.succ_ne_zero, Nat.zero_lt_succ, Nat.le_refl, sc_rows, kc_lit, nc_lit, wlk_rows, uR_s, uR_uR, true_and, and_true, true_or, or_true, false_or, or_false, and_false, false_and, or_self, and_self, if_true, if_false, Bool.false_eq_true, Bool.or_false, Bool.or_true, Bool.false_or, Bool.true_or, not_true_eq_false, not_false_eq_true, forall_const, true_implies, false_implies, implies_true, ↓reduceIte, reduceCtorEq, fR, rd1, rd2, rd3, eq_self, e10, nI_up, k0 L]
        exact ihe (v + 1) (by omega)
    refine wk2 hR ok_82 20 (fun pc => pc == 93) ?_
    simp only [kk_82, Option.toList_some, Option.toList_none, ex2, ex, catS, vC, isMk, sym2, popN, goC, callOK, swL, List.map_cons, List.map_nil, List.replicate_zero, List.replicate_succ, List.append_nil, List.nil_append, List.cons_append, List.getElem?_cons_zero, List.getElem?_cons_succ, List.set_cons_zero, List.set_cons_succ, List.length_cons, List.length_nil, List.head?_cons, Nat.reduceAdd, Nat.reduceLT, Nat.reduceLeDiff, Nat.reduceBEq, Nat.reduceEqDiff, Nat.succ_ne_zero, Nat.zero_lt_succ, Nat.le_refl, sc_rows, kc_lit, nc_lit, wlk_rows, uR_s, uR_uR, true_and, and_true, true_or, or_true, false_or, or_false, and_false, false_and, or_self, and_self, if_true, if_false, Bool.false_eq_true, Bool.or_false, Bool.or_true, Bool.false_or, Bool.true_or, not_true_eq_false, not_false_eq_true, forall_const, true_implies, false_implies, implies_true, ↓reduceIte, reduceCtorEq, fR, rd1, rd2, rd3, eq_self, ansCo_s, leF (show j < n by omega) (show n < 2147483648 by omega), k0 L]
    exact inner 10 0 (by omega)
set_option maxRecDepth 100000 in
theorem l_seen (h : CT I Q τ b z w a n m k) (hl : I 0 6 = nI 0) (h1 : P (some (.long (sv z n m k))) (SC L, I, Q)) : Runs l 82 [.ref 0] (SC L, I, Q) P := by
  have hR := fR_ok (l := l) (L := L) h hl
  have two := l_seen2 (l := l) h hl (svA z n m k a 15) (by unfold sv; rw [svA_a z n m k a 15 (by omega)]) h1 n 0
  have one : ∀ d j a4, j + d = 15 → Sy l 82 (149, 1788) 6 [some (.ref 0), some (.long (svA z n m k a j)), some (.double 0), some (.int (nI j)), a4] [] (SC L, I, Q) P := by
    intro d
    induction d with
    | zero =>
      intro j a4 hj
      obtain rfl : j = 15 := by omega
      refine wk2 hR ok_82 10 (fun pc => pc == 81) ?_
      simp only [kk_82, Option.toList_some, Option.toList_none, ex2, ex, catS, vC, isMk, sym2, popN, goC, callOK, swL, List.map_cons, List.map_nil, List.replicate_zero, List.replicate_succ, List.append_nil, List.nil_append, List.cons_append, List.getElem?_cons_zero, List.getElem?_cons_succ, List.set_cons_zero, List.set_cons_succ, List.length_cons, List.length_nil, List.head?_cons, Nat.reduceAdd, Nat.reduceLT, Nat.reduceLeDiff, Nat.reduceBEq, Nat.reduceEqDiff, Nat.succ_ne_zero, Nat.zero_lt_succ, Nat.le_refl, sc_rows, kc_lit, nc_lit, wlk_rows, uR_s, uR_uR, true_and, and_true, true_or, or_true, false_or, or_false, and_false, false_and, or_self, and_self, if_true, if_false, Bool.false_eq_true, Bool.or_false, Bool.or_true, Bool.false_or, Bool.true_or, not_true_eq_false, not_false_eq_true, forall_const, true_implies, false_implies, implies_true, ↓reduceIte, reduceCtorEq, fR, rd1, rd2, rd3, eq_self, show ((15 : Int32) ≤ nI 15) = True by decide]
      exact two a4 (by omega)
    | succ d ih =>
      intro j a4 hj
      have e15 : ((15 : Int32) ≤ nI j) = False := leF (a := 15) (show j < 15 by omega) (by omega)
      refine wk2 hR ok_82 60 (fun pc => pc == 6) ?_
      simp only [kk_82, Option.toList_some, Option.toList_none, ex2, ex, catS, vC, isMk, sym2, popN, goC, callOK, swL, List.map_cons, List.map_nil, List.replicate_zero, List.replicate_succ, List.append_nil, List.nil_append, List.cons_append, List.getElem?_cons_zero, List.getElem?_cons_succ, List.set_cons_zero, List.set_cons_succ, List.length_cons, List.length_nil, List.head?_cons, Nat.reduceAdd, Nat.reduceLT, Nat.reduceLeDiff, Nat.reduceBEq, Nat.reduceEqDiff, Nat.succ_ne_zero, Nat.zero_lt_succ, Nat.le_refl, sc_rows, kc_lit, nc_lit, wlk_rows, uR_s, uR_uR, true_and, and_true, true_or, or_true, false_or, or_false, and_false, false_and, or_self, and_self, if_true, if_false, Bool.false_eq_true, Bool.or_false, Bool.or_true, Bool.false_or, Bool.true_or, not_true_eq_false, not_false_eq_true, forall_const, true_implies, false_implies, implies_true, ↓reduceIte, reduceCtorEq, fR, rd1, rd2, rd3, eq_self, e15, nI_up, k0 L]
      exact ih (j + 1) _ (by omega)
  refine run0 (n := 4) mok_82 ⟨rfl, rfl⟩ rfl ?_
  refine wk2 hR ok_82 10 (fun pc => pc == 6) ?_
  simp only [kk_82, Option.toList_some, Option.toList_none, ex2, ex, catS, vC, isMk, sym2, popN, goC, callOK, swL, List.map_cons, List.map_nil, List.replicate_zero, List.replicate_succ, List.append_nil, List.nil_append, List.cons_append, List.getElem?_cons_zero, List.getElem?_cons_succ, List.set_cons_zero, List.set_cons_succ, List.length_cons, List.length_nil, List.head?_cons, Nat.reduceAdd, Nat.reduceLT, Nat.reduceLeDiff, Nat.reduceBEq, Nat.reduceEqDiff, Nat.succ_ne_zero, Nat.zero_lt_succ, Nat.le_refl, sc_rows, kc_lit, nc_lit, wlk_rows, uR_s, uR_uR, true_and, and_true, true_or, or_true, false_or, or_false, and_false, false_and, or_self, and_self, if_true, if_false, Bool.false_eq_true, Bool.or_false, Bool.or_true, Bool.false_or, Bool.true_or, not_true_eq_false, not_false_eq_true, forall_const, true_implies, false_implies, implies_true, ↓reduceIte, reduceCtorEq, fR, rd1, rd2, rd3, eq_self]
  exact one 15 0 _ (by omega)
end SEEN
