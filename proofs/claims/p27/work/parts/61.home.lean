/-! finding a taxi; going home: the class, the reference, what holds -/
def ftz (z : Nat → Int32) (p : Int32) : Nat → Option Nat
  | 0 => none
  | n + 1 => if z (tp n 0) = p then some n else ftz z p n
theorem ftz_s {z : Nat → Int32} {p : Int32} : ∀ {n i : Nat}, ftz z p n = some i → i < n ∧ z (tp i 0) = p := by
  intro n
  induction n with
  | zero => intro i h; cases h
  | succ n ih =>
    intro i h
    simp only [ftz] at h
    split at h
    · next g => cases h; exact ⟨by omega, g⟩
    · obtain ⟨a, b⟩ := ih h; exact ⟨by omega, b⟩
theorem ftz_n {z : Nat → Int32} {p : Int32} : ∀ {n : Nat}, ftz z p n = none → ∀ i, i < n → z (tp i 0) ≠ p := by
  intro n
  induction n with
  | zero => intro _ i h; omega
  | succ n ih =>
    intro h i hi
    simp only [ftz] at h
    split at h
    · cases h
    · next g =>
      by_cases q : i = n
      · subst q; exact g
      · exact ih h i (by omega)
theorem ftz_u {z : Nat → Int32} {n m x i : Nat} {p : Int32} (hL : LnX z n m x) (hi : i < n) (he : z (tp i 0) = p) : ftz z p n = some i := by
  cases h : ftz z p n with
  | none => exact absurd he (ftz_n h i hi)
  | some j =>
    obtain ⟨a, b⟩ := ftz_s h
    rw [hL.2.2.2.1 j i a hi (b.trans he.symm)]
/-- a taxi leaves the line, if it is there -/
def zLv (z : Nat → Int32) (i m : Nat) : Nat → Int32 := if z (tp i 1) = 0 then zLeave z i (plF z (z (tp i 0)) m) m else upd z (tp i 8) 0
def mLv (z : Nat → Int32) (i m : Nat) : Nat := if z (tp i 1) = 0 then m - 1 else m
theorem plF_in {z : Nat → Int32} {n m i : Nat} (hL : Ln z n m) (hi : i < n) (hd : z (tp i 1) = 0) : plF z (z (tp i 0)) m < m ∧ z (15 + plF z (z (tp i 0)) m) = z (tp i 0) := plF_ok _ _ _ (hL.2.2.2.2.2.1 i hi (by omega) hd)
theorem LnX.lv {z : Nat → Int32} {n m i : Nat} (hL : Ln z n m) (hi : i < n) : LnX (zLv z i m) n (mLv z i m) i := by
  unfold zLv mLv
  by_cases hd : z (tp i 1) = 0
  · rw [if_pos hd, if_pos hd]
    obtain ⟨a, b⟩ := plF_in hL hi hd
    exact LnX.leave hL hi a b
  · rw [if_neg hd, if_neg hd]
    exact LnX.same (LnX.out hL hi hd) (fun j => by rw [upd_t _ _ _ _ _ _ (by omega) (by omega), if_neg (by omega)]) (fun j _ => by rw [upd_t _ _ _ _ _ _ (by omega) (by omega), if_neg (by omega)]) (fun k _ _ _ _ => by rw [upd_l _ _ _ _ (by omega)])
theorem zLv_t {z : Nat → Int32} {n m i : Nat} (hL : Ln z n m) (hi : i < n) (j u : Nat) (hu : u < 13) : zLv z i m (tp j u) = if j = i ∧ u = 8 then 0 else z (tp j u) := by
  unfold zLv
  by_cases hd : z (tp i 1) = 0
  · rw [if_pos hd]
    exact zLeave_t z j u hL.2.2.2.2.2.2.2 (plF_in hL hi hd).1 hu
  · rw [if_neg hd]
    exact upd_t _ _ _ _ _ _ hu (by omega)
theorem zLv_o {z : Nat → Int32} {n m i k : Nat} (hL : Ln z n m) (hi : i < n) (h : k < 15 ∧ k ≠ 12 ∨ 27 ≤ k ∧ k < 72) : zLv z i m k = z k := by
  unfold zLv
  by_cases hd : z (tp i 1) = 0
  · rw [if_pos hd]
    exact zLeave_o z hL.2.2.2.2.2.2.2 (plF_in hL hi hd).1 h
  · rw [if_neg hd]
    exact upd_l _ _ _ _ (by omega)
theorem Ln.plu {z : Nat → Int32} {n m i p : Nat} (hL : Ln z n m) (hi : i < n) (hp : p < m) (he : z (15 + p) = z (tp i 0)) : z (tp i 1) = 0 ∧ p = plF z (z (tp i 0)) m := by
  obtain ⟨j, a, b, c, d⟩ := hL.2.2.2.2.1 p hp
  have : j = i := hL.2.2.2.1 j i a hi (c.trans he)
  subst this
  obtain ⟨x, y⟩ := plF_in hL hi d
  exact ⟨d, hL.2.2.2.2.2.2.1 p _ hp x (he.trans y.symm)⟩
def zHm (z : Nat → Int32) (i m : Nat) : Nat → Int32 := upd (upd (zLv z i m) (tp i 1) 5) (tp i 2) 0
theorem zHm_t {z : Nat → Int32} {n m i : Nat} (hL : Ln z n m) (hi : i < n) (j u : Nat) (hu : u < 13) : zHm z i m (tp j u) = if j = i then (if u = 8 then 0 else if u = 2 then 0 else if u = 1 then 5 else z (tp i u)) else z (tp j u) := by
  unfold zHm
  rw [upd_t _ _ _ _ _ _ hu (by omega), upd_t _ _ _ _ _ _ hu (by omega), zLv_t hL hi j u hu]
  by_cases q : j = i
  · subst q
    by_cases h8 : u = 8
    · subst h8; simp
    · simp [h8]
  · simp [q]
theorem zHm_o {z : Nat → Int32} {n m i k : Nat} (hL : Ln z n m) (hi : i < n) (h : k < 15 ∧ k ≠ 12 ∨ 27 ≤ k ∧ k < 72) : zHm z i m k = z k := by
  unfold zHm
  rw [upd_l _ _ _ _ (by omega), upd_l _ _ _ _ (by omega), zLv_o hL hi h]
theorem Ln.home {z : Nat → Int32} {n m i : Nat} (hL : Ln z n m) (hi : i < n) : Ln (zHm z i m) n (mLv z i m) := by
  have hX := LnX.lv hL hi
  have e1 : zHm z i m (tp i 1) = 5 := by rw [zHm_t hL hi i 1 (by omega)]; simp
  refine LnX.in (i := i) (fld_same hX ?_ (fun j u hu hj => ?_) (fun k a b => ?_)) (by rw [e1]; decide)
  · rw [zHm_t hL hi i 0 (by omega), zLv_t hL hi i 0 (by omega)]; simp
  · rw [zHm_t hL hi j u hu, if_neg hj, zLv_t hL hi j u hu, if_neg (fun q => hj q.1)]
  · unfold zHm
    rw [upd_l _ _ _ _ (by omega), upd_l _ _ _ _ (by omega)]
theorem MV.home {z : Nat → Int32} {n m k i : Nat} (hM : MV z n k) (hL : Ln z n m) (hi : i < n) : MV (zHm z i m) n k := by
  have hL' := hL.home hi
  obtain ⟨-, ht, hs, hk, hk2, hw⟩ := hM
  have t := zHm_t hL hi
  refine ⟨⟨_, hL'⟩, fun j hj => ?_, hs.same (fun q hq => zHm_o hL hi (by omega)), by rw [zHm_o hL hi (by omega)]; exact hk, hk2, fun r hr => by rw [zHm_o hL hi (by omega)]; exact hw r hr⟩
  by_cases q : j = i
  · subst q
    have w12 := (ht j hi).1.2.2.2.1
    refine ⟨?_, ?_⟩
    · unfold TxW
      rw [t j 1 (by omega), t j 8 (by omega), t j 12 (by omega)]
      simp only [if_true, show ¬ (1 : Nat) = 8 by omega, show ¬ (1 : Nat) = 2 by omega, show ¬ (12 : Nat) = 8 by omega, show ¬ (12 : Nat) = 2 by omega, show ¬ (12 : Nat) = 1 by omega, if_false]
      exact ⟨by decide, fun _ => trivial, Or.inl trivial, w12, fun q => absurd q (by decide), fun q => absurd q (by decide)⟩
    · rw [t j 1 (by omega)]
      simp only [if_true, show ¬ (1 : Nat) = 8 by omega, show ¬ (1 : Nat) = 2 by omega, if_false]
      intro q
      exact absurd q (by decide)
  · exact (ht j hj).same (fun u hu => by rw [t j u hu, if_neg q])
theorem XV.home {z : Nat → Int32} {b n m i : Nat} (h : XV z b) (hL : Ln z n m) (hi : i < n) : XV (zHm z i m) b := by
  obtain ⟨n', k, c, hM, hE, hc⟩ := h
  have : n' = n := (nI_eq (by have := hM.n.2; omega) (by have := hL.2.1; omega)).mp (hM.n.1.symm.trans hL.1)
  subst this
  have t := zHm_t hL hi
  refine ⟨n', k, c, hM.home hL hi, hE.same hM.2.2.2.2.1 (zHm_o hL hi (by omega)) (zHm_o hL hi (by omega)) (fun q x y => zHm_o hL hi (by omega)) (fun j hj => ?_), hc⟩
  by_cases q : j = i
  · subst q
    refine ML.of ?_
    rw [t j 2 (by omega)]
    simp
  · exact (hE.1 j hj).same (by rw [t j 1 (by omega), if_neg q]) (by rw [t j 2 (by omega), if_neg q])
def whyH (z : Nat → Int32) (n : Nat) (p : Int32) : Int32 := match ftz z p n with
  | none => -1
  | some i => if z (tp i 1) = 1 ∨ z (tp i 1) = 2 ∨ z (tp i 1) = 3 then -4 else if z (tp i 1) = 5 then -5 else 0
section E4
variable {l : Launch} {L : Nat} {I : Nat → Nat → Int32} {Q : Nat → Nat → Option Nat} {P : Option Value → PH → Prop} {B : Nat} {σ : Nat → Nat} {z : Nat → Int32} {n m k : Nat}
theorem c_ftz (hB : TB B) (hQ : QT0 Q B) (hS : QS Q B σ) (hC : CA I B σ z n m k) (hL : Ln z n m) (p : Int32) (h1 : ∀ i, ftz z p n = some i → i < n → P (some (.ref (B + 2 + σ i))) (SC L, I, Q)) (h2 : ftz z p n = none → P (some .null) (SC L, I, Q)) : Runs l 31 [.ref B, .int p] (SC L, I, Q) P :=
  c_find hB hQ hS hC hL.1 hL.2.1 p (fun i hi he => h1 i (ftz_u hL hi he) hi) (fun hno => h2 (by
    cases h : ftz z p n with
    | none => rfl
    | some j => exact absurd (ftz_s h).2 (hno j (ftz_s h).1)))
theorem c_lv (hB : TB B) (hQ : QT0 Q B) (hS : QS Q B σ) (hM : MV z n k) (hL : Ln z n m) (hC : CA I B σ z n m k) {i : Nat} (hi : i < n) (h1 : ∀ I', CA I' B σ (zLv z i m) n (mLv z i m) k → Fr I I' B → P none (SC L, I', Q)) : Runs l 54 [.ref B, .ref (B + 2 + σ i)] (SC L, I, Q) P := by
  refine c_leaveLine hB hQ hS hC hL.2.2.1 hL.2.1 hL.2.2.2.2.2.2.2 hM.2.2.2.2.1 hi (fun p hp he I' hI' hF => ?_) (fun hno => ?_)
  · obtain ⟨a, b⟩ := hL.plu hi hp he
    unfold zLv mLv at h1
    rw [if_pos a, if_pos a, ← b] at h1
    exact h1 I' hI' hF
  · have hd : ¬ z (tp i 1) = 0 := fun q => by
      obtain ⟨x, y⟩ := plF_in hL hi q
      exact hno _ x y
    unfold zLv mLv at h1
    have e8 := (hM.2.1 i hi).1.2.1 hd
    have e : upd z (tp i 8) 0 = z := by rw [← e8, upd_id]
    rw [if_neg hd, if_neg hd, e] at h1
    exact h1 I hC (Fr.rf I B)
set_option maxRecDepth 100000 in
theorem c_sendHome (hB : TB B) (hQ : QT0 Q B) (hS : QS Q B σ) (hM : MV z n k) (hL : Ln z n m) (hC : CA I B σ z n m k) (p : Int32) (h1 : whyH z n p < 0 → P (some (.int (whyH z n p))) (SC L, I, Q)) (h2 : whyH z n p = 0 → ∀ i, ftz z p n = some i → i < n → ∀ I', CA I' B σ (zHm z i m) n (mLv z i m) k → Fr I I' B → P (some (.int (nI (mLv z i m)))) (SC L, I', Q)) : Runs l 26 [.ref B, .int p] (SC L, I, Q) P := by
  have hk := hM.2.2.2.2.1
  have hn := hM.n.2
  have hm := hL.2.2.2.2.2.2.2
  refine run0 (n := 1) mok_26 ⟨rfl, rfl⟩ rfl ?_
  unfold whyH at h1 h2
  refine wk ((fn0_ok l)) ok_26 10 (fun pc => false) ?_
  simp only [fn0, kk_26, Option.toList_some, Option.toList_none, ex, catS, vC, isMk, sym, popN, goC, callOK, swL, List.map_cons, List.map_nil, List.replicate_zero, List.replicate_succ, List.append_nil, List.nil_append, List.cons_append, List.getElem?_cons_zero, List.getElem?_cons_succ, List.set_cons_zero, List.set_cons_succ, List.length_cons, List.length_nil, List.head?_cons, Nat.reduceAdd, Nat.reduceLT, Nat.reduceLeDiff, Nat.reduceBEq, Nat.reduceEqDiff, Nat.succ_ne_zero, Nat.zero_lt_succ, Nat.le_refl, sc_rows, kc_lit, nc_lit, wlk_rows, uR_s, uR_uR, true_and, and_true, true_or, or_true, false_or, or_false, and_false, false_and, or_self, and_self, if_true, if_false, Bool.false_eq_true, Bool.or_false, Bool.or_true, Bool.false_or, Bool.true_or, not_true_eq_false, not_false_eq_true, forall_const, true_implies, false_implies, implies_true, reduceIte, reduceCtorEq, tbk hB, tbx hB]
  refine c_ftz hB hQ hS hC hL p (fun i hf hi => ?_) (fun hf => ?_)
  · rw [hf] at h1 h2
    simp only at h1 h2
    have t := hC.tx hi
    have hs := hS.2.1 i (by omega)
    by_cases g : z (tp i 1) = 1 ∨ z (tp i 1) = 2 ∨ z (tp i 1) = 3
    · rw [if_pos g] at h1
      refine wk (gn1_ok l L) ok_26 40 (fun pc => false) ?_
      simp only [gn1, kk_26, Option.toList_some, Option.toList_none, ex, catS, vC, isMk, sym, popN, goC, callOK, swL, List.map_cons, List.map_nil, List.replicate_zero, List.replicate_succ, List.append_nil, List.nil_append, List.cons_append, List.getElem?_cons_zero, List.getElem?_cons_succ, List.set_cons_zero, List.set_cons_succ, List.length_cons, List.length_nil, List.head?_cons, Nat.reduceAdd, Nat.reduceLT, Nat.reduceLeDiff, Nat.reduceBEq, Nat.reduceEqDiff, Nat.succ_ne_zero, Nat.zero_lt_succ, Nat.le_refl, sc_rows, kc_lit, nc_lit, wlk_rows, uR_s, uR_uR, true_and, and_true, true_or, or_true, false_or, or_false, and_false, false_and, or_self, and_self, if_true, if_false, Bool.false_eq_true, Bool.or_false, Bool.or_true, Bool.false_or, Bool.true_or, not_true_eq_false, not_false_eq_true, forall_const, true_implies, false_implies, implies_true, reduceIte, reduceCtorEq, tbk hB, tbx hB, tbt hB hs, t, b2_t g, nz_lit, fC_at, fC_begin, fC_place, fC_setg, fC_fare, fC_stays, fC_tired, fC_long, fC_min, CTh_eq, CXh_eq, ix_lit, lt_lit, cl_lit, nz_lit, in5, in12, abs_sz]
      exact h1 (by decide)
    · rw [if_neg g] at h1 h2
      by_cases g2 : z (tp i 1) = 5
      · rw [if_pos g2] at h1
        refine wk (gn1_ok l L) ok_26 40 (fun pc => false) ?_
        simp only [gn1, kk_26, Option.toList_some, Option.toList_none, ex, catS, vC, isMk, sym, popN, goC, callOK, swL, List.map_cons, List.map_nil, List.replicate_zero, List.replicate_succ, List.append_nil, List.nil_append, List.cons_append, List.getElem?_cons_zero, List.getElem?_cons_succ, List.set_cons_zero, List.set_cons_succ, List.length_cons, List.length_nil, List.head?_cons, Nat.reduceAdd, Nat.reduceLT, Nat.reduceLeDiff, Nat.reduceBEq, Nat.reduceEqDiff, Nat.succ_ne_zero, Nat.zero_lt_succ, Nat.le_refl, sc_rows, kc_lit, nc_lit, wlk_rows, uR_s, uR_uR, true_and, and_true, true_or, or_true, false_or, or_false, and_false, false_and, or_self, and_self, if_true, if_false, Bool.false_eq_true, Bool.or_false, Bool.or_true, Bool.false_or, Bool.true_or, not_true_eq_false, not_false_eq_true, forall_const, true_implies, false_implies, implies_true, reduceIte, reduceCtorEq, tbk hB, tbx hB, tbt hB hs, t, show b2 ((5 : Int32) = 1 ∨ (5 : Int32) = 2 ∨ (5 : Int32) = 3) = 0 by decide, g2, fC_at, fC_begin, fC_place, fC_setg, fC_fare, fC_stays, fC_tired, fC_long, fC_min, CTh_eq, CXh_eq, ix_lit, lt_lit, cl_lit, nz_lit, in5, in12, abs_sz]
        exact h1 (by decide)
      · rw [if_neg g2] at h2
        refine wk (gn1_ok l L) ok_26 40 (fun pc => false) ?_
        simp only [gn1, kk_26, Option.toList_some, Option.toList_none, ex, catS, vC, isMk, sym, popN, goC, callOK, swL, List.map_cons, List.map_nil, List.replicate_zero, List.replicate_succ, List.append_nil, List.nil_append, List.cons_append, List.getElem?_cons_zero, List.getElem?_cons_succ, List.set_cons_zero, List.set_cons_succ, List.length_cons, List.length_nil, List.head?_cons, Nat.reduceAdd, Nat.reduceLT, Nat.reduceLeDiff, Nat.reduceBEq, Nat.reduceEqDiff, Nat.succ_ne_zero, Nat.zero_lt_succ, Nat.le_refl, sc_rows, kc_lit, nc_lit, wlk_rows, uR_s, uR_uR, true_and, and_true, true_or, or_true, false_or, or_false, and_false, false_and, or_self, and_self, if_true, if_false, Bool.false_eq_true, Bool.or_false, Bool.or_true, Bool.false_or, Bool.true_or, not_true_eq_false, not_false_eq_true, forall_const, true_implies, false_implies, implies_true, reduceIte, reduceCtorEq, tbk hB, tbx hB, tbt hB hs, t, b2_f g, eq_false g2, fC_at, fC_begin, fC_place, fC_setg, fC_fare, fC_stays, fC_tired, fC_long, fC_min, CTh_eq, CXh_eq, ix_lit, lt_lit, cl_lit, nz_lit, in5, in12, abs_sz]
        refine c_lv hB hQ hS hM hL hC hi (fun I' hI' hF => ?_)
        have hml : mLv z i m ≤ 12 := by unfold mLv; split <;> omega
        have e12 : I' B 3 = nI (mLv z i m) := hI'.tw.2.1.trans (LnX.lv hL hi).2.2.1
        refine wk (gn1_ok l L) ok_26 40 (fun pc => false) ?_
        simp only [gn1, kk_26, Option.toList_some, Option.toList_none, ex, catS, vC, isMk, sym, popN, goC, callOK, swL, List.map_cons, List.map_nil, List.replicate_zero, List.replicate_succ, List.append_nil, List.nil_append, List.cons_append, List.getElem?_cons_zero, List.getElem?_cons_succ, List.set_cons_zero, List.set_cons_succ, List.length_cons, List.length_nil, List.head?_cons, Nat.reduceAdd, Nat.reduceLT, Nat.reduceLeDiff, Nat.reduceBEq, Nat.reduceEqDiff, Nat.succ_ne_zero, Nat.zero_lt_succ, Nat.le_refl, sc_rows, kc_lit, nc_lit, wlk_rows, uR_s, uR_uR, true_and, and_true, true_or, or_true, false_or, or_false, and_false, false_and, or_self, and_self, if_true, if_false, Bool.false_eq_true, Bool.or_false, Bool.or_true, Bool.false_or, Bool.true_or, not_true_eq_false, not_false_eq_true, forall_const, true_implies, false_implies, implies_true, reduceIte, reduceCtorEq, tbk hB, tbx hB, tbt hB hs, rws B hs, e12, fC_at, fC_begin, fC_place, fC_setg, fC_fare, fC_stays, fC_tired, fC_long, fC_min, CTh_eq, CXh_eq, ix_lit, lt_lit, cl_lit, nz_lit, in5, in12, abs_sz]
        have c2 := hI'.fld hS hn hml hk hi 1 (by omega) 5
        have c3 := c2.fld hS hn hml hk hi 2 (by omega) 0
        simp only [uR_s, uR_uR, cm_lit] at c3
        exact h2 rfl i rfl hi _ c3 (hF.tr (Fr.up _ _ (by omega)))
  · rw [hf] at h1
    simp only at h1
    refine wk ((fn0_ok l)) ok_26 40 (fun pc => false) ?_
    simp only [fn0, kk_26, Option.toList_some, Option.toList_none, ex, catS, vC, isMk, sym, popN, goC, callOK, swL, List.map_cons, List.map_nil, List.replicate_zero, List.replicate_succ, List.append_nil, List.nil_append, List.cons_append, List.getElem?_cons_zero, List.getElem?_cons_succ, List.set_cons_zero, List.set_cons_succ, List.length_cons, List.length_nil, List.head?_cons, Nat.reduceAdd, Nat.reduceLT, Nat.reduceLeDiff, Nat.reduceBEq, Nat.reduceEqDiff, Nat.succ_ne_zero, Nat.zero_lt_succ, Nat.le_refl, sc_rows, kc_lit, nc_lit, wlk_rows, uR_s, uR_uR, true_and, and_true, true_or, or_true, false_or, or_false, and_false, false_and, or_self, and_self, if_true, if_false, Bool.false_eq_true, Bool.or_false, Bool.or_true, Bool.false_or, Bool.true_or, not_true_eq_false, not_false_eq_true, forall_const, true_implies, false_implies, implies_true, reduceIte, reduceCtorEq]
    exact h1 (by decide)
theorem d123 {x : Int32} (h : x = 0 ∨ x = 1 ∨ x = 2 ∨ x = 3 ∨ x = 4 ∨ x = 5) : (1 ≤ x ∧ x ≤ 3) ↔ (x = 1 ∨ x = 2 ∨ x = 3) := by
  rcases h with rfl | rfl | rfl | rfl | rfl | rfl <;> decide
end E4

