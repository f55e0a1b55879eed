/-! the class: leaving the line, taking a fare, riding, coming back -/
theorem uR_comm {α : Type} (f : Nat → Nat → α) {p q : Nat} (a b : Nat → α) (h : p ≠ q) : uR (uR f p a) q b = uR (uR f q b) p a := by
  funext x
  by_cases h1 : x = p
  · subst h1; simp [uR, h]
  · by_cases h2 : x = q
    · subst h2; simp [uR, h1]
    · simp [uR, h1, h2]
theorem uR_n2 (f : Nat → Nat → Int32) {p q : Nat} (g : Nat → Int32) (h : q ≠ p) : uR (uR f p g) q (f q) = uR f p g := by
  funext x
  by_cases e : x = q
  · subst e; rw [uR_s, uR_n _ _ h]
  · rw [uR_n _ _ e]
section C6
variable {l : Launch} {L : Nat} {I : Nat → Nat → Int32} {Q : Nat → Nat → Option Nat} {P : Option Value → PH → Prop} {B : Nat} {σ : Nat → Nat} {z : Nat → Int32} {n m k : Nat}
/-- one field of a taxi -/
theorem CA.fld (h : CA I B σ z n m k) (hS : QS Q B σ) (hn : n ≤ 12) (hm : m ≤ 12) (hk : k ≤ 15) {i : Nat} (hi : i < n) (u : Nat) (hu : u < 12) (v : Int32) : CA (uR I (B + 2 + σ i) (upd (I (B + 2 + σ i)) u v)) B σ (upd z (tp i (cm u)) v) n m k := by
  refine h.row hn hS.2 hi (fun w hw => ?_) (fun j w hw hj => ?_) (fun c hc => upd_l _ _ _ _ hc) hm hk
  · rw [upd_t _ _ _ _ _ _ (cm_lt hw) (cm_lt hu)]
    by_cases e : w = u
    · rw [e, upd_e, if_pos ⟨rfl, rfl⟩]
    · rw [upd_n _ _ e, if_neg (fun c => e (by have := c.2; unfold cm at this; split at this <;> split at this <;> omega))]
      exact h.2.1 i hi w hw
  · rw [upd_t _ _ _ _ _ _ hw (cm_lt hu), if_neg (fun c => hj c.1)]
theorem CA.leave (hC : CA I B σ z n m k) (hS : QS Q B σ) (hn : n ≤ 12) (hm : m ≤ 12) (hk : k ≤ 15) {i p : Nat} (hi : i < n) (hp : p < m) : CA (uR (uR (uR I B (upd (I B) 3 (nI (m - 1)))) (B + 14) (slC (I (B + 14)) p (m - 1))) (B + 2 + σ i) (upd (I (B + 2 + σ i)) 8 0)) B σ (zLeave z i p m) n (m - 1) k := by
  have h1 : CA (uR (uR I (B + 14) (slC (I (B + 14)) p (m - 1))) B (upd (I B) 3 (nI (m - 1)))) B σ (shL (upd z 12 (nI (m - 1))) p (m - 1)) n (m - 1) k := by
    refine hC.line (by omega) hk hS.2.1 hn (by simp only [shL]; rw [if_neg (by omega), upd_e]) (fun j hj => ?_) (fun j u hu => ?_) (fun c hc => ?_)
    · simp only [slC, shL]
      by_cases e : p ≤ j
      · rw [if_pos (by omega), if_pos (by omega), upd_n _ _ (by omega)]
        exact hC.2.2.2.1 (j + 1) (by omega)
      · rw [if_neg (by omega), if_neg (by omega), upd_n _ _ (by omega)]
        exact hC.2.2.2.1 j (by omega)
    · simp only [shL]
      have := tp_ge j u
      rw [if_neg (by omega), upd_n _ _ (by omega)]
    · simp only [shL]
      rw [if_neg (by omega), upd_n _ _ (by omega)]
  have e1 : I (B + 2 + σ i) = uR (uR I (B + 14) (slC (I (B + 14)) p (m - 1))) B (upd (I B) 3 (nI (m - 1))) (B + 2 + σ i) := by
    have := hS.2.1 i (by omega)
    rw [uR_n _ _ (by omega), uR_n _ _ (by omega)]
  rw [uR_comm I _ _ (show B ≠ B + 14 by omega)]
  have h2 := h1.fld hS hn (by omega) hk hi 8 (by omega) 0
  rw [← e1] at h2
  exact h2
set_option maxRecDepth 100000 in
theorem c_leaveLine (hB : TB B) (hQ : QT0 Q B) (hS : QS Q B σ) (hC : CA I B σ z n m k) (hmz : z 12 = nI m) (hn : n ≤ 12) (hm : m ≤ 12) (hk : k ≤ 15) {i : Nat} (hi : i < n) (h1 : ∀ p, p < m → z (15 + p) = z (tp i 0) → ∀ I', CA I' B σ (zLeave z i p m) n (m - 1) k → Fr I I' B → P none (SC L, I', Q)) (h2 : (∀ p, p < m → z (15 + p) ≠ z (tp i 0)) → P none (SC L, I, Q)) : Runs l 54 [.ref B, .ref (B + 2 + σ i)] (SC L, I, Q) P := by
  have e1 : I B 3 = nI m := hC.tw.2.1.trans hmz
  have hs := hS.2.1 i (by omega)
  refine run0 (n := 2) mok_54 ⟨rfl, rfl⟩ rfl ?_
  refine wk ((fn0_ok l)) ok_54 30 (fun pc => false) ?_
  simp only [fn0, kk_54, Option.toList_some, Option.toList_none, ex, catS, vC, isMk, sym, popN, goC, callOK, swL, List.map_cons, List.map_nil, List.replicate_zero, List.replicate_succ, List.append_nil, List.nil_append, List.cons_append, List.getElem?_cons_zero, List.getElem?_cons_succ, List.set_cons_zero, List.set_cons_succ, List.length_cons, List.length_nil, List.head?_cons, Nat.reduceAdd, Nat.reduceLT, Nat.reduceLeDiff, Nat.reduceBEq, Nat.reduceEqDiff, Nat.succ_ne_zero, Nat.zero_lt_succ, Nat.le_refl, sc_rows, kc_lit, nc_lit, wlk_rows, uR_s, uR_uR, true_and, and_true, true_or, or_true, false_or, or_false, and_false, false_and, or_self, and_self, if_true, if_false, Bool.false_eq_true, Bool.or_false, Bool.or_true, Bool.false_or, Bool.true_or, not_true_eq_false, not_false_eq_true, forall_const, true_implies, false_implies, implies_true, reduceIte, reduceCtorEq, tbk hB, tbx hB]
  refine c_placeOf hB hQ hS hC hmz hm hi hn (fun p hp he => ?_) (fun hno => ?_)
  · have e0 : (0 ≤ nI p) = True := by rw [show (0 : Int32) = nI 0 from rfl]; exact leT (by omega) (by omega)
    have loop : ∀ d j, j + d = m - 1 → p ≤ j → Sy l 54 (149, 1788) 23 [some (.ref B), some (.ref (B + 2 + σ i)), some (.int (nI p)), some (.int (nI j))] [] (SC L, uR (uR I B (upd (I B) 3 (nI (m - 1)))) (B + 14) (slC (I (B + 14)) p j), Q) P := by
      intro d
      induction d with
      | zero =>
        intro j hj hpj
        have : j = m - 1 := by omega
        subst this
        refine wk ((fn0_ok l)) ok_54 60 (fun pc => pc == 23) ?_
        simp only [fn0, kk_54, Option.toList_some, Option.toList_none, ex, catS, vC, isMk, sym, popN, goC, callOK, swL, List.map_cons, List.map_nil, List.replicate_zero, List.replicate_succ, List.append_nil, List.nil_append, List.cons_append, List.getElem?_cons_zero, List.getElem?_cons_succ, List.set_cons_zero, List.set_cons_succ, List.length_cons, List.length_nil, List.head?_cons, Nat.reduceAdd, Nat.reduceLT, Nat.reduceLeDiff, Nat.reduceBEq, Nat.reduceEqDiff, Nat.succ_ne_zero, Nat.zero_lt_succ, Nat.le_refl, sc_rows, kc_lit, nc_lit, wlk_rows, uR_s, uR_uR, true_and, and_true, true_or, or_true, false_or, or_false, and_false, false_and, or_self, and_self, if_true, if_false, Bool.false_eq_true, Bool.or_false, Bool.or_true, Bool.false_or, Bool.true_or, not_true_eq_false, not_false_eq_true, forall_const, true_implies, false_implies, implies_true, reduceIte, reduceCtorEq, tbk hB, tbx hB, tbn L hB, qt hQ, rws B hs, upd_e, leT (Nat.le_refl (m - 1)) (show m - 1 < 2147483648 by omega), tbt hB hs]
        exact h1 p hp he _ (hC.leave hS hn hm hk hi hp) (((Fr.up I _ (by omega)).tr (Fr.up _ _ (by omega))).tr (Fr.up _ _ (by omega)))
      | succ d ih =>
        intro j hj hpj
        have := ih (j + 1) (by omega) (by omega)
        rw [← slC_step _ hpj] at this
        refine wk ((fn0_ok l)) ok_54 60 (fun pc => pc == 23) ?_
        simp only [fn0, kk_54, Option.toList_some, Option.toList_none, ex, catS, vC, isMk, sym, popN, goC, callOK, swL, List.map_cons, List.map_nil, List.replicate_zero, List.replicate_succ, List.append_nil, List.nil_append, List.cons_append, List.getElem?_cons_zero, List.getElem?_cons_succ, List.set_cons_zero, List.set_cons_succ, List.length_cons, List.length_nil, List.head?_cons, Nat.reduceAdd, Nat.reduceLT, Nat.reduceLeDiff, Nat.reduceBEq, Nat.reduceEqDiff, Nat.succ_ne_zero, Nat.zero_lt_succ, Nat.le_refl, sc_rows, kc_lit, nc_lit, wlk_rows, uR_s, uR_uR, true_and, and_true, true_or, or_true, false_or, or_false, and_false, false_and, or_self, and_self, if_true, if_false, Bool.false_eq_true, Bool.or_false, Bool.or_true, Bool.false_or, Bool.true_or, not_true_eq_false, not_false_eq_true, forall_const, true_implies, false_implies, implies_true, reduceIte, reduceCtorEq, tbk hB, tbx hB, tbn L hB, qt hQ, rws B hs, upd_e, leF (show j < m - 1 by omega) (show m - 1 < 2147483648 by omega), ixp (show j < 12 by omega) (by omega), ixp (show j + 1 < 12 by omega) (by omega), nI_up]
        exact this
    refine wk ((fn0_ok l)) ok_54 60 (fun pc => pc == 23) ?_
    simp only [fn0, kk_54, Option.toList_some, Option.toList_none, ex, catS, vC, isMk, sym, popN, goC, callOK, swL, List.map_cons, List.map_nil, List.replicate_zero, List.replicate_succ, List.append_nil, List.nil_append, List.cons_append, List.getElem?_cons_zero, List.getElem?_cons_succ, List.set_cons_zero, List.set_cons_succ, List.length_cons, List.length_nil, List.head?_cons, Nat.reduceAdd, Nat.reduceLT, Nat.reduceLeDiff, Nat.reduceBEq, Nat.reduceEqDiff, Nat.succ_ne_zero, Nat.zero_lt_succ, Nat.le_refl, sc_rows, kc_lit, nc_lit, wlk_rows, uR_s, uR_uR, true_and, and_true, true_or, or_true, false_or, or_false, and_false, false_and, or_self, and_self, if_true, if_false, Bool.false_eq_true, Bool.or_false, Bool.or_true, Bool.false_or, Bool.true_or, not_true_eq_false, not_false_eq_true, forall_const, true_implies, false_implies, implies_true, reduceIte, reduceCtorEq, e1, e0, tbk hB, tbx hB, nI_dn (show 0 < m by omega)]
    have := loop (m - 1 - p) p (by omega) (Nat.le_refl p)
    rw [slC_0, uR_n2 I (upd (I B) 3 (nI (m - 1))) (show B + 14 ≠ B by omega)] at this
    exact this
  · have e0 : ((0 : Int32) ≤ -5) = False := by decide
    refine wk ((fn0_ok l)) ok_54 30 (fun pc => false) ?_
    simp only [fn0, kk_54, Option.toList_some, Option.toList_none, ex, catS, vC, isMk, sym, popN, goC, callOK, swL, List.map_cons, List.map_nil, List.replicate_zero, List.replicate_succ, List.append_nil, List.nil_append, List.cons_append, List.getElem?_cons_zero, List.getElem?_cons_succ, List.set_cons_zero, List.set_cons_succ, List.length_cons, List.length_nil, List.head?_cons, Nat.reduceAdd, Nat.reduceLT, Nat.reduceLeDiff, Nat.reduceBEq, Nat.reduceEqDiff, Nat.succ_ne_zero, Nat.zero_lt_succ, Nat.le_refl, sc_rows, kc_lit, nc_lit, wlk_rows, uR_s, uR_uR, true_and, and_true, true_or, or_true, false_or, or_false, and_false, false_and, or_self, and_self, if_true, if_false, Bool.false_eq_true, Bool.or_false, Bool.or_true, Bool.false_or, Bool.true_or, not_true_eq_false, not_false_eq_true, forall_const, true_implies, false_implies, implies_true, reduceIte, reduceCtorEq, e0]
    exact h2 hno
set_option maxRecDepth 100000 in
theorem c_startRide (hB : TB B) (hQ : QT0 Q B) (hS : QS Q B σ) (hC : CA I B σ z n m k) (hn : n ≤ 12) (hm : m ≤ 12) (hk : k ≤ 15) {i : Nat} (hi : i < n) (h1 : ∀ I', CA I' B σ (zRide z i) n m k → Fr I I' B → P none (SC L, I', Q)) : Runs l 48 [.ref B, .ref (B + 2 + σ i)] (SC L, I, Q) P := by
  have hs := hS.2.1 i (by omega)
  refine run0 (n := 0) mok_48 ⟨rfl, rfl⟩ rfl ?_
  have t := hC.tx hi
  have w := hC.tw
  refine wk (gn1_ok l L) ok_48 60 (fun pc => false) ?_
  simp only [gn1, kk_48, Option.toList_some, Option.toList_none, ex, catS, vC, isMk, sym, popN, goC, callOK, swL, List.map_cons, List.map_nil, List.replicate_zero, List.replicate_succ, List.append_nil, List.nil_append, List.cons_append, List.getElem?_cons_zero, List.getElem?_cons_succ, List.set_cons_zero, List.set_cons_succ, List.length_cons, List.length_nil, List.head?_cons, Nat.reduceAdd, Nat.reduceLT, Nat.reduceLeDiff, Nat.reduceBEq, Nat.reduceEqDiff, Nat.succ_ne_zero, Nat.zero_lt_succ, Nat.le_refl, sc_rows, kc_lit, nc_lit, wlk_rows, uR_s, uR_uR, true_and, and_true, true_or, or_true, false_or, or_false, and_false, false_and, or_self, and_self, if_true, if_false, Bool.false_eq_true, Bool.or_false, Bool.or_true, Bool.false_or, Bool.true_or, not_true_eq_false, not_false_eq_true, forall_const, true_implies, false_implies, implies_true, reduceIte, reduceCtorEq, tbk hB, tbx hB, tbn L hB, qt hQ, rws B hs, tbt hB hs, t, w, fC_at, fC_begin, fC_place, fC_setg, fC_fare, fC_stays, fC_tired, fC_long, fC_min, CTh_eq, CXh_eq, ix_lit, lt_lit, cl_lit, nz_lit, in5, in12, abs_sz]
  refine h1 _ ?_ ((Fr.up I _ (by omega)).tr (Fr.up _ _ (by omega)))
  have c1 := hC.cnt hm hk hS.2.1 hn 7 (by omega) (z 6 + 1)
  have c2 := c1.fld hS hn hm hk hi 1 (by omega) 2
  have c3 := c2.fld hS hn hm hk hi 2 (by omega) (sz32 (z (tp i 11) - z (tp i 10)) * z 0)
  simp only [uR_s, uR_uR, rws B hs, cm_lit] at c3
  refine c3.same hm hk (fun j u hj hu _ => ?_) (fun c hc => ?_)
  · simp only [zRide]
    rw [upd_S _ _ _ _ (by omega), upd_t _ _ _ _ _ _ hu (by omega), upd_t _ _ _ _ _ _ hu (by omega), upd_t _ _ _ _ _ _ hu (by omega), upd_t _ _ _ _ _ _ hu (by omega), upd_S _ _ _ _ (by omega)]
  · rw [zRide_o z (by omega), upd_l _ _ _ _ (by omega), upd_l _ _ _ _ (by omega)]
    simp only [upd]
set_option maxRecDepth 100000 in
theorem c_payFare (hB : TB B) (hQ : QT0 Q B) (hS : QS Q B σ) (hC : CA I B σ z n m k) (hn : n ≤ 12) (hm : m ≤ 12) (hk : k ≤ 15) {i : Nat} (hi : i < n) (h1 : ∀ I', CA I' B σ (zPaid1 z i) n m k → Fr I I' B → P none (SC L, I', Q)) : Runs l 49 [.ref B, .ref (B + 2 + σ i)] (SC L, I, Q) P := by
  have hs := hS.2.1 i (by omega)
  refine run0 (n := 1) mok_49 ⟨rfl, rfl⟩ rfl ?_
  have t := hC.tx hi
  have w := hC.tw
  refine wk (gn1_ok l L) ok_49 60 (fun pc => false) ?_
  simp only [gn1, kk_49, Option.toList_some, Option.toList_none, ex, catS, vC, isMk, sym, popN, goC, callOK, swL, List.map_cons, List.map_nil, List.replicate_zero, List.replicate_succ, List.append_nil, List.nil_append, List.cons_append, List.getElem?_cons_zero, List.getElem?_cons_succ, List.set_cons_zero, List.set_cons_succ, List.length_cons, List.length_nil, List.head?_cons, Nat.reduceAdd, Nat.reduceLT, Nat.reduceLeDiff, Nat.reduceBEq, Nat.reduceEqDiff, Nat.succ_ne_zero, Nat.zero_lt_succ, Nat.le_refl, sc_rows, kc_lit, nc_lit, wlk_rows, uR_s, uR_uR, true_and, and_true, true_or, or_true, false_or, or_false, and_false, false_and, or_self, and_self, if_true, if_false, Bool.false_eq_true, Bool.or_false, Bool.or_true, Bool.false_or, Bool.true_or, not_true_eq_false, not_false_eq_true, forall_const, true_implies, false_implies, implies_true, reduceIte, reduceCtorEq, tbk hB, tbx hB, tbn L hB, qt hQ, rws B hs, tbt hB hs, t, w, fC_at, fC_begin, fC_place, fC_setg, fC_fare, fC_stays, fC_tired, fC_long, fC_min, CTh_eq, CXh_eq, ix_lit, lt_lit, cl_lit, nz_lit, in5, in12, abs_sz]
  refine h1 _ ?_ ((Fr.up I _ (by omega)).tr (Fr.up _ _ (by omega)))
  have c1 := hC.fld hS hn hm hk hi 6 (by omega) (z (tp i 6) + fare32 (z (tp i 10)) (z (tp i 11)))
  have c2 := c1.cnt hm hk hS.2.1 hn 10 (by omega) (z 9 + fare32 (z (tp i 10)) (z (tp i 11)))
  simp only [uR_s, uR_uR, rws B hs, cm_lit] at c2
  exact c2
set_option maxRecDepth 100000 in
theorem c_comeBack (hB : TB B) (hQ : QT0 Q B) (hS : QS Q B σ) (hC : CA I B σ z n m k) {i : Nat} {z' : Nat → Int32} (hX : LnX z n m i) (hk : k ≤ 15) (hi : i < n) (h8 : z (tp i 8) = 0) (h12 : z (tp i 12) = 0 ∨ z (tp i 12) = 1) (hT : ∀ j, j < n → z (tp j 8) = 0 ∨ z (tp j 8) = 1) (h1 : ∀ I' m', m' ≤ 12 → z' 12 = nI m' → CA I' B σ z' n m' k → Fr I I' B → P none (SC L, I', Q)) (hz : z' = zBack z i n m) : Runs l 50 [.ref B, .ref (B + 2 + σ i)] (SC L, I, Q) P := by
  obtain ⟨hnz, hn, hmz, hU, hL1, hL2, hL3, hm2⟩ := id hX
  have hm : m < 12 := by have := hX.lt hi; omega
  have hs := hS.2.1 i (by omega)
  have t := hC.tx hi
  have w := hC.tw
  refine run0 (n := 0) mok_50 ⟨rfl, rfl⟩ rfl ?_
  have etired : (I (B + 19) 3 ≤ I (B + 2 + σ i) 3) = tired z i := by rw [t.2.2.2.1, w.2.2.2.2.2.2.2.2.2.2.2.1]
  refine wk (gn1_ok l L) ok_50 60 (fun pc => false) ?_
  simp only [gn1, kk_50, Option.toList_some, Option.toList_none, ex, catS, vC, isMk, sym, popN, goC, callOK, swL, List.map_cons, List.map_nil, List.replicate_zero, List.replicate_succ, List.append_nil, List.nil_append, List.cons_append, List.getElem?_cons_zero, List.getElem?_cons_succ, List.set_cons_zero, List.set_cons_succ, List.length_cons, List.length_nil, List.head?_cons, Nat.reduceAdd, Nat.reduceLT, Nat.reduceLeDiff, Nat.reduceBEq, Nat.reduceEqDiff, Nat.succ_ne_zero, Nat.zero_lt_succ, Nat.le_refl, sc_rows, kc_lit, nc_lit, wlk_rows, uR_s, uR_uR, true_and, and_true, true_or, or_true, false_or, or_false, and_false, false_and, or_self, and_self, if_true, if_false, Bool.false_eq_true, Bool.or_false, Bool.or_true, Bool.false_or, Bool.true_or, not_true_eq_false, not_false_eq_true, forall_const, true_implies, false_implies, implies_true, reduceIte, reduceCtorEq, hB, hQ, tbk hB, tbx hB, tbn L hB, qt hQ, rws B hs, tbt hB hs, etired, b2_0, b2_n0, Decidable.not_not, t, w, fC_at, fC_begin, fC_place, fC_setg, fC_fare, fC_stays, fC_tired, fC_long, fC_min, CTh_eq, CXh_eq, ix_lit, lt_lit, cl_lit, nz_lit, in5, in12, abs_sz]
  subst hz
  refine ⟨fun g => ⟨fun g2 => ?_, fun g2 => ?_⟩, fun g => ?_⟩
  · have e : zBack z i n m = zStand z i m m := by unfold zBack; rw [if_neg g, if_neg (by rw [g2]; decide)]
    refine c_standLast hB hQ hS hC hmz hn hm hk hi h8 (fun I' hI' hF => ?_)
    refine wk (gn1_ok l L) ok_50 10 (fun pc => false) ?_
    simp only [gn1, kk_50, Option.toList_some, Option.toList_none, ex, catS, vC, isMk, sym, popN, goC, callOK, swL, List.map_cons, List.map_nil, List.replicate_zero, List.replicate_succ, List.append_nil, List.nil_append, List.cons_append, List.getElem?_cons_zero, List.getElem?_cons_succ, List.set_cons_zero, List.set_cons_succ, List.length_cons, List.length_nil, List.head?_cons, Nat.reduceAdd, Nat.reduceLT, Nat.reduceLeDiff, Nat.reduceBEq, Nat.reduceEqDiff, Nat.succ_ne_zero, Nat.zero_lt_succ, Nat.le_refl, sc_rows, kc_lit, nc_lit, wlk_rows, uR_s, uR_uR, true_and, and_true, true_or, or_true, false_or, or_false, and_false, false_and, or_self, and_self, if_true, if_false, Bool.false_eq_true, Bool.or_false, Bool.or_true, Bool.false_or, Bool.true_or, not_true_eq_false, not_false_eq_true, forall_const, true_implies, false_implies, implies_true, reduceIte, reduceCtorEq, fC_at, fC_begin, fC_place, fC_setg, fC_fare, fC_stays, fC_tired, fC_long, fC_min, CTh_eq, CXh_eq, ix_lit, lt_lit, cl_lit, nz_lit, in5, in12, abs_sz]
    rw [e] at h1
    exact h1 I' (m + 1) (by omega) (zStand_12 z) hI' hF
  · have g3 : z (tp i 12) = 1 := h12.resolve_left g2
    have e : zBack z i n m = zQuick z i (qO z n m 0) m := by unfold zBack; rw [if_neg g, if_pos g3]
    refine c_standQuick hB hQ hS hC hX hm hk hT hi (fun I' hI' hF => ?_)
    refine wk (gn1_ok l L) ok_50 10 (fun pc => false) ?_
    simp only [gn1, kk_50, Option.toList_some, Option.toList_none, ex, catS, vC, isMk, sym, popN, goC, callOK, swL, List.map_cons, List.map_nil, List.replicate_zero, List.replicate_succ, List.append_nil, List.nil_append, List.cons_append, List.getElem?_cons_zero, List.getElem?_cons_succ, List.set_cons_zero, List.set_cons_succ, List.length_cons, List.length_nil, List.head?_cons, Nat.reduceAdd, Nat.reduceLT, Nat.reduceLeDiff, Nat.reduceBEq, Nat.reduceEqDiff, Nat.succ_ne_zero, Nat.zero_lt_succ, Nat.le_refl, sc_rows, kc_lit, nc_lit, wlk_rows, uR_s, uR_uR, true_and, and_true, true_or, or_true, false_or, or_false, and_false, false_and, or_self, and_self, if_true, if_false, Bool.false_eq_true, Bool.or_false, Bool.or_true, Bool.false_or, Bool.true_or, not_true_eq_false, not_false_eq_true, forall_const, true_implies, false_implies, implies_true, reduceIte, reduceCtorEq, fC_at, fC_begin, fC_place, fC_setg, fC_fare, fC_stays, fC_tired, fC_long, fC_min, CTh_eq, CXh_eq, ix_lit, lt_lit, cl_lit, nz_lit, in5, in12, abs_sz]
    rw [e] at h1
    exact h1 I' (m + 1) (by omega) (by rw [zQuick_l z (by omega)]; exact zStand_12 z) hI' hF
  · have e : zBack z i n m = upd (upd z (tp i 1) 4) (tp i 2) (z 4) := by unfold zBack; rw [if_pos g]
    rw [e] at h1
    refine h1 _ m hm2 (by rw [upd_l _ _ _ _ (by omega), upd_l _ _ _ _ (by omega)]; exact hmz) ?_ (Fr.up _ _ (by omega))
    have c2 := hC.fld hS hn hm2 hk hi 1 (by omega) 4
    have c3 := c2.fld hS hn hm2 hk hi 2 (by omega) (z 4)
    simp only [uR_s, uR_uR, rws B hs, cm_lit] at c3
    exact c3
end C6

