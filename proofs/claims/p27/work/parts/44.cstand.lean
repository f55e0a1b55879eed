/-! the class: standing in the line, leaving it -/
/-- the line's array, from a place on one further back -/
def shC (f : Nat → Int32) (p k m : Nat) : Nat → Int32 := fun j => if p < j ∧ k < j ∧ j ≤ m then f (j - 1) else f j
theorem shC_step (f : Nat → Int32) {p k m : Nat} (h : p < k) (hk : k ≤ m) : upd (shC f p k m) k (shC f p k m (k - 1)) = shC f p (k - 1) m := by
  funext j
  simp only [upd, shC]
  by_cases e : j = k
  · subst e
    rw [if_pos rfl, if_neg (by omega), if_pos (by omega)]
  · rw [if_neg e]
    by_cases e2 : p < j ∧ k < j ∧ j ≤ m
    · rw [if_pos e2, if_pos (by omega)]
    · rw [if_neg e2, if_neg (by omega)]
theorem shC_0 (f : Nat → Int32) (p m : Nat) : shC f p m m = f := by
  funext j
  simp only [shC]
  rw [if_neg (by omega)]
def slC (f : Nat → Int32) (p k : Nat) : Nat → Int32 := fun j => if p ≤ j ∧ j < k then f (j + 1) else f j
theorem slC_step (f : Nat → Int32) {p k : Nat} (h : p ≤ k) : upd (slC f p k) k (slC f p k (k + 1)) = slC f p (k + 1) := by
  funext j
  simp only [upd, slC]
  by_cases e : j = k
  · subst e
    rw [if_pos rfl, if_neg (by omega), if_pos (by omega)]
  · rw [if_neg e]
    by_cases e2 : p ≤ j ∧ j < k
    · rw [if_pos e2, if_pos (by omega)]
    · rw [if_neg e2, if_neg (by omega)]
theorem slC_0 (f : Nat → Int32) (p : Nat) : slC f p p = f := by
  funext j
  simp only [slC]
  rw [if_neg (by omega)]
theorem cm_iff {u v : Nat} (hu : u < 12) (hv : v ≠ 9 ∧ v < 12) : cm u = v ↔ u = v := by
  unfold cm
  split <;> omega
section C5
variable {l : Launch} {L : Nat} {I : Nat → Nat → Int32} {Q : Nat → Nat → Option Nat} {P : Option Value → PH → Prop} {B : Nat} {σ : Nat → Nat} {z : Nat → Int32} {n m k : Nat}
/-- the cells once a taxi stands in the line -/
theorem CA.stand (hC : CA I B σ z n m k) (hS : QS Q B σ) (hn : n ≤ 12) (hm : m < 12) (hk : k ≤ 15) {i p : Nat} (hi : i < n) (hp : p ≤ m) (q : Int32) : CA (uR (uR (uR I (B + 14) (upd (shC (I (B + 14)) p p m) p (z (tp i 0)))) B (upd (I B) 3 (nI (m + 1)))) (B + 2 + σ i) (upd (upd (upd (I (B + 2 + σ i)) 1 0) 2 0) 8 q)) B σ (upd (zStand z i p m) (tp i 8) q) n (m + 1) k := by
  have h1 : CA (uR (uR I (B + 14) (upd (shC (I (B + 14)) p p m) p (z (tp i 0)))) B (upd (I B) 3 (nI (m + 1)))) B σ (upd (upd (shR z p p m) (15 + p) (z (tp i 0))) 12 (nI (m + 1))) n (m + 1) k := by
    refine hC.line (by omega) hk hS.2.1 hn (upd_e _ _ _) (fun j hj => ?_) (fun j u hu => ?_) (fun c hc => ?_)
    · have eR : upd (upd (shR z p p m) (15 + p) (z (tp i 0))) 12 (nI (m + 1)) (15 + j) = if j = p then z (tp i 0) else if p < j then z (15 + (j - 1)) else z (15 + j) := by
        rw [upd_n _ _ (by omega)]
        simp only [upd, shR]
        by_cases e : j = p
        · subst e; rw [if_pos rfl, if_pos rfl]
        · rw [if_neg (by omega), if_neg e]
          by_cases e2 : p < j
          · rw [if_pos (by omega), if_pos e2, show 15 + j - 1 = 15 + (j - 1) by omega]
          · rw [if_neg (by omega), if_neg e2]
      rw [eR]
      simp only [upd, shC]
      by_cases e : j = p
      · rw [if_pos e, if_pos e]
      · rw [if_neg e, if_neg e]
        by_cases e2 : p < j
        · rw [if_pos (by omega), if_pos e2]
          exact hC.2.2.2.1 (j - 1) (by omega)
        · rw [if_neg (by omega), if_neg e2]
          exact hC.2.2.2.1 j (by omega)
    · rw [upd_S _ _ _ _ (by omega), upd_S _ _ _ _ (by omega), shR_t _ _ _ _ _ _ hm]
    · rw [upd_n _ _ (by omega), upd_n _ _ (by omega), shR_o _ _ _ _ _ hm (by omega)]
  have e1 : I (B + 2 + σ i) = uR (uR I (B + 14) (upd (shC (I (B + 14)) p p m) p (z (tp i 0)))) B (upd (I B) 3 (nI (m + 1))) (B + 2 + σ i) := by
    have := hS.2.1 i (by omega)
    rw [uR_n _ _ (by omega), uR_n _ _ (by omega)]
  refine CA.row h1 hn hS.2 hi (fun u hu => ?_) (fun j u hu hj => ?_) (fun c hc => ?_) (by omega) hk
  · rw [upd_t _ _ _ _ _ _ (cm_lt hu) (by omega), zStand_t _ _ _ hm hp (cm_lt hu)]
    have t := hC.2.1 i hi u hu
    by_cases e8 : u = 8
    · rw [if_pos ⟨rfl, (cm_iff hu (by omega)).mpr e8⟩, e8, upd_e]
    · rw [if_neg (fun c => e8 ((cm_iff hu (by omega)).mp c.2)), upd_n _ _ e8]
      by_cases e2 : u = 2
      · rw [if_pos ⟨rfl, Or.inr ((cm_iff hu (by omega)).mpr e2)⟩, e2, upd_e]
      · rw [upd_n _ _ e2]
        by_cases e3 : u = 1
        · rw [if_pos ⟨rfl, Or.inl ((cm_iff hu (by omega)).mpr e3)⟩, e3, upd_e]
        · rw [upd_n _ _ e3, if_neg (fun c => c.2.elim (fun q => e3 ((cm_iff hu (by omega)).mp q)) (fun q => e2 ((cm_iff hu (by omega)).mp q)))]
          exact t
  · rw [upd_t _ _ _ _ _ _ hu (by omega), if_neg (fun c => hj c.1)]
    simp only [zStand]
    rw [upd_t _ _ _ _ _ _ hu (by omega), if_neg (fun c => hj c.1), upd_t _ _ _ _ _ _ hu (by omega), if_neg (fun c => hj c.1)]
  · rw [upd_l _ _ _ _ hc]
    simp only [zStand]
    rw [upd_l _ _ _ _ hc, upd_l _ _ _ _ hc]
set_option maxRecDepth 100000 in
theorem c_standAt (hB : TB B) (hQ : QT0 Q B) (hS : QS Q B σ) (hC : CA I B σ z n m k) (hmz : z 12 = nI m) (hn : n ≤ 12) (hm : m < 12) (hk : k ≤ 15) {i p : Nat} (hi : i < n) (hp : p ≤ m) (q : Int32) (hq : q = 0 ∨ q = 1) (h1 : ∀ I', CA I' B σ (upd (zStand z i p m) (tp i 8) q) n (m + 1) k → Fr I I' B → P none (SC L, I', Q)) : Runs l 53 [.ref B, .ref (B + 2 + σ i), .int (nI p), .int q] (SC L, I, Q) P := by
  have e1 : I B 3 = nI m := hC.tw.2.1.trans hmz
  have hs := hS.2.1 i (by omega)
  have fin : P none (SC L, uR (uR (uR I (B + 14) (upd (shC (I (B + 14)) p p m) p (z (tp i 0)))) B (upd (I B) 3 (nI (m + 1)))) (B + 2 + σ i) (upd (upd (upd (I (B + 2 + σ i)) 1 0) 2 0) 8 q), Q) :=
    h1 _ (hC.stand hS hn hm hk hi hp q) (((Fr.up I _ (by omega)).tr (Fr.up _ _ (by omega))).tr (Fr.up _ _ (by omega)))
  have loop : ∀ d j, p + d = j → j ≤ m → Sy l 53 (149, 1788) 28 [some (.ref B), some (.ref (B + 2 + σ i)), some (.int (nI p)), some (.int q), some (.int (nI j))] [] (SC L, uR I (B + 14) (shC (I (B + 14)) p j m), Q) P := by
    intro d
    induction d with
    | zero =>
      intro j hj hjm
      have : j = p := by omega
      subst this
      refine wk ((fn0_ok l)) ok_53 60 (fun pc => pc == 28) ?_
      simp only [fn0, kk_53, Option.toList_some, Option.toList_none, ex, catS, vC, isMk, sym, popN, goC, callOK, swL, List.map_cons, List.map_nil, List.replicate_zero, List.replicate_succ, List.append_nil, List.nil_append, List.cons_append, List.getElem?_cons_zero, List.getElem?_cons_succ, List.set_cons_zero, List.set_cons_succ, List.length_cons, List.length_nil, List.head?_cons, Nat.reduceAdd, Nat.reduceLT, Nat.reduceLeDiff, Nat.reduceBEq, Nat.reduceEqDiff, Nat.succ_ne_zero, Nat.zero_lt_succ, Nat.le_refl, sc_rows, kc_lit, nc_lit, wlk_rows, uR_s, uR_uR, true_and, and_true, true_or, or_true, false_or, or_false, and_false, false_and, or_self, and_self, if_true, if_false, Bool.false_eq_true, Bool.or_false, Bool.or_true, Bool.false_or, Bool.true_or, not_true_eq_false, not_false_eq_true, forall_const, true_implies, false_implies, implies_true, reduceIte, reduceCtorEq, e1, tbk hB, tbx hB, tbn L hB, qt hQ, leT (Nat.le_refl j) (show j < 2147483648 by omega), ixp (show j < 12 by omega) (by omega), tbt hB hs, rws B hs, hC.tx hi, nI_up, hq, true_or, or_true]
      exact fin
    | succ d ih =>
      intro j hj hjm
      have := ih (j - 1) (by omega) (by omega)
      rw [← shC_step (I (B + 14)) (show p < j by omega) hjm] at this
      refine wk ((fn0_ok l)) ok_53 60 (fun pc => pc == 28) ?_
      simp only [fn0, kk_53, Option.toList_some, Option.toList_none, ex, catS, vC, isMk, sym, popN, goC, callOK, swL, List.map_cons, List.map_nil, List.replicate_zero, List.replicate_succ, List.append_nil, List.nil_append, List.cons_append, List.getElem?_cons_zero, List.getElem?_cons_succ, List.set_cons_zero, List.set_cons_succ, List.length_cons, List.length_nil, List.head?_cons, Nat.reduceAdd, Nat.reduceLT, Nat.reduceLeDiff, Nat.reduceBEq, Nat.reduceEqDiff, Nat.succ_ne_zero, Nat.zero_lt_succ, Nat.le_refl, sc_rows, kc_lit, nc_lit, wlk_rows, uR_s, uR_uR, true_and, and_true, true_or, or_true, false_or, or_false, and_false, false_and, or_self, and_self, if_true, if_false, Bool.false_eq_true, Bool.or_false, Bool.or_true, Bool.false_or, Bool.true_or, not_true_eq_false, not_false_eq_true, forall_const, true_implies, false_implies, implies_true, reduceIte, reduceCtorEq, e1, tbk hB, tbx hB, tbn L hB, qt hQ, leF (show p < j by omega) (show j < 2147483648 by omega), ixp (show j < 12 by omega) (by omega), ixp (show j - 1 < 12 by omega) (by omega), nI_dn (show 0 < j by omega)]
      exact this
  refine run0 (n := 1) mok_53 ⟨rfl, rfl⟩ rfl ?_
  have e12 : ((12 : Int32) ≤ nI m) = False := by rw [show (12 : Int32) = nI 12 from rfl]; exact leF (by omega) (by omega)
  have e0 : (nI p < 0) = False := eq_false (Int32.not_lt.mpr (of_eq_true (show ((0 : Int32) ≤ nI p) = True by rw [show (0 : Int32) = nI 0 from rfl]; exact leT (by omega) (by omega))))
  have em : (nI p ≤ nI m) = True := leT hp (by omega)
  refine wk ((fn0_ok l)) ok_53 30 (fun pc => pc == 28) ?_
  simp only [fn0, kk_53, Option.toList_some, Option.toList_none, ex, catS, vC, isMk, sym, popN, goC, callOK, swL, List.map_cons, List.map_nil, List.replicate_zero, List.replicate_succ, List.append_nil, List.nil_append, List.cons_append, List.getElem?_cons_zero, List.getElem?_cons_succ, List.set_cons_zero, List.set_cons_succ, List.length_cons, List.length_nil, List.head?_cons, Nat.reduceAdd, Nat.reduceLT, Nat.reduceLeDiff, Nat.reduceBEq, Nat.reduceEqDiff, Nat.succ_ne_zero, Nat.zero_lt_succ, Nat.le_refl, sc_rows, kc_lit, nc_lit, wlk_rows, uR_s, uR_uR, true_and, and_true, true_or, or_true, false_or, or_false, and_false, false_and, or_self, and_self, if_true, if_false, Bool.false_eq_true, Bool.or_false, Bool.or_true, Bool.false_or, Bool.true_or, not_true_eq_false, not_false_eq_true, forall_const, true_implies, false_implies, implies_true, reduceIte, reduceCtorEq, e1, tbk hB, tbx hB, e12, e0, em]
  have := loop (m - p) m (by omega) (Nat.le_refl m)
  rw [shC_0, uR_self] at this
  exact this
set_option maxRecDepth 100000 in
theorem c_standLast (hB : TB B) (hQ : QT0 Q B) (hS : QS Q B σ) (hC : CA I B σ z n m k) (hmz : z 12 = nI m) (hn : n ≤ 12) (hm : m < 12) (hk : k ≤ 15) {i : Nat} (hi : i < n) (h8 : z (tp i 8) = 0) (h1 : ∀ I', CA I' B σ (zStand z i m m) n (m + 1) k → Fr I I' B → P none (SC L, I', Q)) : Runs l 51 [.ref B, .ref (B + 2 + σ i)] (SC L, I, Q) P := by
  have e1 : I B 3 = nI m := hC.tw.2.1.trans hmz
  refine run0 (n := 0) mok_51 ⟨rfl, rfl⟩ rfl ?_
  refine wk ((fn0_ok l)) ok_51 30 (fun pc => false) ?_
  simp only [fn0, kk_51, Option.toList_some, Option.toList_none, ex, catS, vC, isMk, sym, popN, goC, callOK, swL, List.map_cons, List.map_nil, List.replicate_zero, List.replicate_succ, List.append_nil, List.nil_append, List.cons_append, List.getElem?_cons_zero, List.getElem?_cons_succ, List.set_cons_zero, List.set_cons_succ, List.length_cons, List.length_nil, List.head?_cons, Nat.reduceAdd, Nat.reduceLT, Nat.reduceLeDiff, Nat.reduceBEq, Nat.reduceEqDiff, Nat.succ_ne_zero, Nat.zero_lt_succ, Nat.le_refl, sc_rows, kc_lit, nc_lit, wlk_rows, uR_s, uR_uR, true_and, and_true, true_or, or_true, false_or, or_false, and_false, false_and, or_self, and_self, if_true, if_false, Bool.false_eq_true, Bool.or_false, Bool.or_true, Bool.false_or, Bool.true_or, not_true_eq_false, not_false_eq_true, forall_const, true_implies, false_implies, implies_true, reduceIte, reduceCtorEq, e1, tbk hB, tbx hB]
  refine c_standAt hB hQ hS hC hmz hn hm hk hi (Nat.le_refl m) 0 (Or.inl rfl) (fun I' hI' hF => ?_)
  refine wk ((fn0_ok l)) ok_51 10 (fun pc => false) ?_
  simp only [fn0, kk_51, Option.toList_some, Option.toList_none, ex, catS, vC, isMk, sym, popN, goC, callOK, swL, List.map_cons, List.map_nil, List.replicate_zero, List.replicate_succ, List.append_nil, List.nil_append, List.cons_append, List.getElem?_cons_zero, List.getElem?_cons_succ, List.set_cons_zero, List.set_cons_succ, List.length_cons, List.length_nil, List.head?_cons, Nat.reduceAdd, Nat.reduceLT, Nat.reduceLeDiff, Nat.reduceBEq, Nat.reduceEqDiff, Nat.succ_ne_zero, Nat.zero_lt_succ, Nat.le_refl, sc_rows, kc_lit, nc_lit, wlk_rows, uR_s, uR_uR, true_and, and_true, true_or, or_true, false_or, or_false, and_false, false_and, or_self, and_self, if_true, if_false, Bool.false_eq_true, Bool.or_false, Bool.or_true, Bool.false_or, Bool.true_or, not_true_eq_false, not_false_eq_true, forall_const, true_implies, false_implies, implies_true, reduceIte, reduceCtorEq]
  refine h1 I' ?_ hF
  have e : upd (zStand z i m m) (tp i 8) 0 = zStand z i m m := by
    have : zStand z i m m (tp i 8) = 0 := by rw [zStand_t z i 8 hm (Nat.le_refl m) (by omega), if_neg (by omega)]; exact h8
    rw [← this, upd_id]
  rw [e] at hI'
  exact hI'
set_option maxRecDepth 100000 in
theorem c_standQuick (hB : TB B) (hQ : QT0 Q B) (hS : QS Q B σ) (hC : CA I B σ z n m k) {x : Nat} (hX : LnX z n m x) (hm : m < 12) (hk : k ≤ 15) (hT : ∀ j, j < n → z (tp j 8) = 0 ∨ z (tp j 8) = 1) {i : Nat} (hi : i < n) (h1 : ∀ I', CA I' B σ (zQuick z i (qO z n m 0) m) n (m + 1) k → Fr I I' B → P none (SC L, I', Q)) : Runs l 52 [.ref B, .ref (B + 2 + σ i)] (SC L, I, Q) P := by
  obtain ⟨hn, hn2, hmz, hU, hL1, hL2, hL3, hm2⟩ := id hX
  have e1 : I B 3 = nI m := hC.tw.2.1.trans hmz
  have hs := hS.2.1 i (by omega)
  have fin : ∀ a4 a2, Sy l 52 (149, 1788) 49 [some (.ref B), some (.ref (B + 2 + σ i)), some (.int (nI (qO z n m 0))), a2, a4] [] (SC L, I, Q) P := by
    intro a4 a2
    refine wk ((fn0_ok l)) ok_52 30 (fun pc => false) ?_
    simp only [fn0, kk_52, Option.toList_some, Option.toList_none, ex, catS, vC, isMk, sym, popN, goC, callOK, swL, List.map_cons, List.map_nil, List.replicate_zero, List.replicate_succ, List.append_nil, List.nil_append, List.cons_append, List.getElem?_cons_zero, List.getElem?_cons_succ, List.set_cons_zero, List.set_cons_succ, List.length_cons, List.length_nil, List.head?_cons, Nat.reduceAdd, Nat.reduceLT, Nat.reduceLeDiff, Nat.reduceBEq, Nat.reduceEqDiff, Nat.succ_ne_zero, Nat.zero_lt_succ, Nat.le_refl, sc_rows, kc_lit, nc_lit, wlk_rows, uR_s, uR_uR, true_and, and_true, true_or, or_true, false_or, or_false, and_false, false_and, or_self, and_self, if_true, if_false, Bool.false_eq_true, Bool.or_false, Bool.or_true, Bool.false_or, Bool.true_or, not_true_eq_false, not_false_eq_true, forall_const, true_implies, false_implies, implies_true, reduceIte, reduceCtorEq, tbk hB, tbx hB]
    refine c_standAt hB hQ hS hC hmz hn2 hm hk hi (qO_m z n m) 1 (Or.inr rfl) (fun I' hI' hF => ?_)
    refine wk ((fn0_ok l)) ok_52 30 (fun pc => false) ?_
    simp only [fn0, kk_52, Option.toList_some, Option.toList_none, ex, catS, vC, isMk, sym, popN, goC, callOK, swL, List.map_cons, List.map_nil, List.replicate_zero, List.replicate_succ, List.append_nil, List.nil_append, List.cons_append, List.getElem?_cons_zero, List.getElem?_cons_succ, List.set_cons_zero, List.set_cons_succ, List.length_cons, List.length_nil, List.head?_cons, Nat.reduceAdd, Nat.reduceLT, Nat.reduceLeDiff, Nat.reduceBEq, Nat.reduceEqDiff, Nat.succ_ne_zero, Nat.zero_lt_succ, Nat.le_refl, sc_rows, kc_lit, nc_lit, wlk_rows, uR_s, uR_uR, true_and, and_true, true_or, or_true, false_or, or_false, and_false, false_and, or_self, and_self, if_true, if_false, Bool.false_eq_true, Bool.or_false, Bool.or_true, Bool.false_or, Bool.true_or, not_true_eq_false, not_false_eq_true, forall_const, true_implies, false_implies, implies_true, reduceIte, reduceCtorEq, tbt hB hs]
    refine h1 _ ?_ (hF.tr (Fr.up _ _ (by omega)))
    have e7 : I' (B + 2 + σ i) 7 = zStand z i (qO z n m 0) m (tp i 7) := by
      rw [(hI'.tx hi).2.2.2.2.2.2.2.1, upd_t _ _ _ _ _ _ (by omega) (by omega), if_neg (by omega)]
    rw [e7]
    refine hI'.row hn2 hS.2 hi (fun u hu => ?_) (fun j u hu hj => ?_) (fun c hc => ?_) (by omega) hk
    · simp only [zQuick]
      rw [upd_t _ _ _ _ _ _ (cm_lt hu) (by omega)]
      by_cases e : u = 7
      · rw [if_pos ⟨rfl, (cm_iff hu (by omega)).mpr e⟩, e, upd_e]
      · rw [upd_n _ _ e, if_neg (fun c => e ((cm_iff hu (by omega)).mp c.2))]
        exact hI'.2.1 i hi u hu
    · simp only [zQuick]
      rw [upd_t _ _ _ _ _ _ hu (by omega), if_neg (fun c => hj c.1)]
    · simp only [zQuick]
      rw [upd_l _ _ _ _ hc]
  have loop : ∀ d j a4, j + d = m → qO z n d j = qO z n m 0 → Sy l 52 (149, 1788) 4 [some (.ref B), some (.ref (B + 2 + σ i)), some (.int (nI j)), some (.int (nI j)), a4] [] (SC L, I, Q) P := by
    intro d
    induction d with
    | zero =>
      intro j a4 hj hq
      have : j = m := by omega
      subst this
      simp only [qO] at hq
      refine wk ((fn0_ok l)) ok_52 30 (fun pc => pc == 49) ?_
      simp only [fn0, kk_52, Option.toList_some, Option.toList_none, ex, catS, vC, isMk, sym, popN, goC, callOK, swL, List.map_cons, List.map_nil, List.replicate_zero, List.replicate_succ, List.append_nil, List.nil_append, List.cons_append, List.getElem?_cons_zero, List.getElem?_cons_succ, List.set_cons_zero, List.set_cons_succ, List.length_cons, List.length_nil, List.head?_cons, Nat.reduceAdd, Nat.reduceLT, Nat.reduceLeDiff, Nat.reduceBEq, Nat.reduceEqDiff, Nat.succ_ne_zero, Nat.zero_lt_succ, Nat.le_refl, sc_rows, kc_lit, nc_lit, wlk_rows, uR_s, uR_uR, true_and, and_true, true_or, or_true, false_or, or_false, and_false, false_and, or_self, and_self, if_true, if_false, Bool.false_eq_true, Bool.or_false, Bool.or_true, Bool.false_or, Bool.true_or, not_true_eq_false, not_false_eq_true, forall_const, true_implies, false_implies, implies_true, reduceIte, reduceCtorEq, e1, tbk hB, tbx hB, leT (Nat.le_refl j) (show j < 2147483648 by omega)]
      have := fin a4 (some (.int (nI j)))
      rw [← hq] at this
      exact this
    | succ d ih =>
      intro j a4 hj hq
      obtain ⟨t, t1, t2, t3, t4⟩ := hL1 j (by omega)
      have elx : lx z n j = t := fTx_eq hU t1 t3
      simp only [qO, elx] at hq
      refine wk ((fn0_ok l)) ok_52 30 (fun pc => pc == 49) ?_
      simp only [fn0, kk_52, Option.toList_some, Option.toList_none, ex, catS, vC, isMk, sym, popN, goC, callOK, swL, List.map_cons, List.map_nil, List.replicate_zero, List.replicate_succ, List.append_nil, List.nil_append, List.cons_append, List.getElem?_cons_zero, List.getElem?_cons_succ, List.set_cons_zero, List.set_cons_succ, List.length_cons, List.length_nil, List.head?_cons, Nat.reduceAdd, Nat.reduceLT, Nat.reduceLeDiff, Nat.reduceBEq, Nat.reduceEqDiff, Nat.succ_ne_zero, Nat.zero_lt_succ, Nat.le_refl, sc_rows, kc_lit, nc_lit, wlk_rows, uR_s, uR_uR, true_and, and_true, true_or, or_true, false_or, or_false, and_false, false_and, or_self, and_self, if_true, if_false, Bool.false_eq_true, Bool.or_false, Bool.or_true, Bool.false_or, Bool.true_or, not_true_eq_false, not_false_eq_true, forall_const, true_implies, false_implies, implies_true, reduceIte, reduceCtorEq, e1, tbk hB, tbx hB, tbn L hB, qt hQ, leF (show j < m by omega) (show m < 2147483648 by omega), ixp (show j < 12 by omega) (by omega), hC.2.2.2.1 j (by omega)]
      refine c_find hB hQ hS hC hn hn2 _ (fun i' hi' he => ?_) (fun hno => absurd t3 (hno t t1))
      obtain rfl : i' = t := hU i' t hi' t1 (he.trans t3.symm)
      have e8 := (hC.tx t1).2.2.2.2.2.2.2.2.1
      rcases hT i' t1 with g | g
      · rw [if_neg (by rw [g]; decide)] at hq
        refine wk ((fn0_ok l)) ok_52 30 (fun pc => pc == 49) ?_
        simp only [fn0, kk_52, Option.toList_some, Option.toList_none, ex, catS, vC, isMk, sym, popN, goC, callOK, swL, List.map_cons, List.map_nil, List.replicate_zero, List.replicate_succ, List.append_nil, List.nil_append, List.cons_append, List.getElem?_cons_zero, List.getElem?_cons_succ, List.set_cons_zero, List.set_cons_succ, List.length_cons, List.length_nil, List.head?_cons, Nat.reduceAdd, Nat.reduceLT, Nat.reduceLeDiff, Nat.reduceBEq, Nat.reduceEqDiff, Nat.succ_ne_zero, Nat.zero_lt_succ, Nat.le_refl, sc_rows, kc_lit, nc_lit, wlk_rows, uR_s, uR_uR, true_and, and_true, true_or, or_true, false_or, or_false, and_false, false_and, or_self, and_self, if_true, if_false, Bool.false_eq_true, Bool.or_false, Bool.or_true, Bool.false_or, Bool.true_or, not_true_eq_false, not_false_eq_true, forall_const, true_implies, false_implies, implies_true, reduceIte, reduceCtorEq, tbt hB (hS.2.1 i' (by omega)), e8, g]
        have := fin (some (.ref (B + 2 + σ i'))) (some (.int (nI j)))
        rw [← hq] at this
        exact this
      · rw [if_pos g] at hq
        refine wk ((fn0_ok l)) ok_52 30 (fun pc => pc == 4) ?_
        simp only [fn0, kk_52, Option.toList_some, Option.toList_none, ex, catS, vC, isMk, sym, popN, goC, callOK, swL, List.map_cons, List.map_nil, List.replicate_zero, List.replicate_succ, List.append_nil, List.nil_append, List.cons_append, List.getElem?_cons_zero, List.getElem?_cons_succ, List.set_cons_zero, List.set_cons_succ, List.length_cons, List.length_nil, List.head?_cons, Nat.reduceAdd, Nat.reduceLT, Nat.reduceLeDiff, Nat.reduceBEq, Nat.reduceEqDiff, Nat.succ_ne_zero, Nat.zero_lt_succ, Nat.le_refl, sc_rows, kc_lit, nc_lit, wlk_rows, uR_s, uR_uR, true_and, and_true, true_or, or_true, false_or, or_false, and_false, false_and, or_self, and_self, if_true, if_false, Bool.false_eq_true, Bool.or_false, Bool.or_true, Bool.false_or, Bool.true_or, not_true_eq_false, not_false_eq_true, forall_const, true_implies, false_implies, implies_true, reduceIte, reduceCtorEq, tbt hB (hS.2.1 i' (by omega)), e8, g, nz_lit, nI_up]
        exact ih (j + 1) _ (by omega) hq
  refine run0 (n := 3) mok_52 ⟨rfl, rfl⟩ rfl ?_
  refine wk ((fn0_ok l)) ok_52 30 (fun pc => pc == 4) ?_
  simp only [fn0, kk_52, Option.toList_some, Option.toList_none, ex, catS, vC, isMk, sym, popN, goC, callOK, swL, List.map_cons, List.map_nil, List.replicate_zero, List.replicate_succ, List.append_nil, List.nil_append, List.cons_append, List.getElem?_cons_zero, List.getElem?_cons_succ, List.set_cons_zero, List.set_cons_succ, List.length_cons, List.length_nil, List.head?_cons, Nat.reduceAdd, Nat.reduceLT, Nat.reduceLeDiff, Nat.reduceBEq, Nat.reduceEqDiff, Nat.succ_ne_zero, Nat.zero_lt_succ, Nat.le_refl, sc_rows, kc_lit, nc_lit, wlk_rows, uR_s, uR_uR, true_and, and_true, true_or, or_true, false_or, or_false, and_false, false_and, or_self, and_self, if_true, if_false, Bool.false_eq_true, Bool.or_false, Bool.or_true, Bool.false_or, Bool.true_or, not_true_eq_false, not_false_eq_true, forall_const, true_implies, false_implies, implies_true, reduceIte, reduceCtorEq]
  exact loop m 0 none (by omega) rfl
end C5

