/-! the class: taking a fare; passengers that go -/
section C7
variable {l : Launch} {L : Nat} {I : Nat → Nat → Int32} {Q : Nat → Nat → Option Nat} {P : Option Value → PH → Prop} {B : Nat} {σ : Nat → Nat} {z : Nat → Int32} {n m k : Nat}
theorem nine {p : Nat → Prop} (h : p 0 ∧ p 1 ∧ p 2 ∧ p 3 ∧ p 4 ∧ p 5 ∧ p 6 ∧ p 7 ∧ p 8 ∧ p 9 ∧ p 10 ∧ p 11 ∧ p 12) : ∀ u, u < 13 → p u := by
  intro u hu
  obtain ⟨h0, h1, h2, h3, h4, h5, h6, h7, h8, h9, h10, h11, h12⟩ := h
  match u, hu with
  | 0, _ => exact h0
  | 1, _ => exact h1
  | 2, _ => exact h2
  | 3, _ => exact h3
  | 4, _ => exact h4
  | 5, _ => exact h5
  | 6, _ => exact h6
  | 7, _ => exact h7
  | 8, _ => exact h8
  | 9, _ => exact h9
  | 10, _ => exact h10
  | 11, _ => exact h11
  | 12, _ => exact h12
set_option maxRecDepth 100000 in
theorem c_accept2 (hB : TB B) (hQ : QT0 Q B) (hS : QS Q B σ) (hC : CA I B σ z n m k) (hn : n ≤ 12) (hm : m ≤ 12) (hk : k ≤ 15) {i : Nat} (hi : i < n) (a b : Int32) (h1 : ∀ I', CA I' B σ (zFare z i a b 0) n m k → Fr I I' B → P none (SC L, I', Q)) : Sy l 47 (149, 1788) 5 [some (.ref B), some (.ref (B + 2 + σ i)), some (.int a), some (.int b)] [] (SC L, I, Q) P := by
  have hs := hS.2.1 i (by omega)
  have t := hC.tx hi
  have w := hC.tw
  have elong : (I (B + 19) 2 ≤ sz32 (b - a)) = isLongZ z a b := by rw [w.2.2.2.2.2.2.2.2.2.2.1]
  have c1 := hC.fld hS hn hm hk hi 10 (by omega) a
  have c2 := c1.fld hS hn hm hk hi 11 (by omega) b
  have c3 := c2.fld hS hn hm hk hi 9 (by omega) 0
  have c4 := c3.fld hS hn hm hk hi 4 (by omega) (z (tp i 4) + 1)
  have c5 := c4.fld hS hn hm hk hi 5 (by omega) (z (tp i 5) + 1)
  simp only [uR_s, uR_uR, cm_lit] at c4 c5
  have e0 : b2 (¬ (0 : Int32) = 0 ∧ ¬ isLongZ z a b) = 0 := b2_f (fun c => c.1 rfl)
  have q4 : upd (upd (upd (I (B + 2 + σ i)) 10 a) 11 b) 9 0 4 = z (tp i 4) := by
    rw [upd_n _ _ (by omega), upd_n _ _ (by omega), upd_n _ _ (by omega)]; exact t.2.2.2.2.1
  have q5 : upd (upd (upd (upd (I (B + 2 + σ i)) 10 a) 11 b) 9 0) 4 (z (tp i 4) + 1) 5 = z (tp i 5) := by
    rw [upd_n _ _ (by omega), upd_n _ _ (by omega), upd_n _ _ (by omega), upd_n _ _ (by omega)]; exact t.2.2.2.2.2.1
  refine wk (gn1_ok l L) ok_47 100 (fun pc => false) ?_
  simp only [gn1, kk_47, Option.toList_some, Option.toList_none, ex, catS, vC, isMk, sym, popN, goC, callOK, swL, List.map_cons, List.map_nil, List.replicate_zero, List.replicate_succ, List.append_nil, List.nil_append, List.cons_append, List.getElem?_cons_zero, List.getElem?_cons_succ, List.set_cons_zero, List.set_cons_succ, List.length_cons, List.length_nil, List.head?_cons, Nat.reduceAdd, Nat.reduceLT, Nat.reduceLeDiff, Nat.reduceBEq, Nat.reduceEqDiff, Nat.succ_ne_zero, Nat.zero_lt_succ, Nat.le_refl, sc_rows, kc_lit, nc_lit, wlk_rows, uR_s, uR_uR, true_and, and_true, true_or, or_true, false_or, or_false, and_false, false_and, or_self, and_self, if_true, if_false, Bool.false_eq_true, Bool.or_false, Bool.or_true, Bool.false_or, Bool.true_or, not_true_eq_false, not_false_eq_true, forall_const, true_implies, false_implies, implies_true, reduceIte, reduceCtorEq, hB, hQ, tbk hB, tbx hB, tbn L hB, qt hQ, rws B hs, tbt hB hs, t, q4, q5, elong, b2_0, b2_n0, Decidable.not_not, fC_at, fC_begin, fC_place, fC_setg, fC_fare, fC_stays, fC_tired, fC_long, fC_min, CTh_eq, CXh_eq, ix_lit, lt_lit, cl_lit, nz_lit, in5, in12, abs_sz]
  refine ⟨fun g => ?_, fun g => ?_⟩
  · refine h1 _ (c4.same hm hk (fun j u hj hu _ => ?_) (fun c hc => ?_)) (Fr.up _ _ (by omega))
    · rw [zFare_t _ _ _ _ j u hu, e0, b2_f g]
      by_cases q : j = i
      · subst q
        rw [if_pos rfl, upd_t _ _ _ _ _ _ hu (by omega), upd_t _ _ _ _ _ _ hu (by omega), upd_t _ _ _ _ _ _ hu (by omega), upd_t _ _ _ _ _ _ hu (by omega)]
        revert u
        refine fun u hu _ => ?_
        revert u
        refine nine ⟨?_, ?_, ?_, ?_, ?_, ?_, ?_, ?_, ?_, ?_, ?_, ?_, ?_⟩ <;> simp
      · rw [if_neg q, upd_t _ _ _ _ _ _ hu (by omega), if_neg (fun c => q c.1), upd_t _ _ _ _ _ _ hu (by omega), if_neg (fun c => q c.1), upd_t _ _ _ _ _ _ hu (by omega), if_neg (fun c => q c.1), upd_t _ _ _ _ _ _ hu (by omega), if_neg (fun c => q c.1)]
    · rw [zFare_o _ _ _ _ (by omega), upd_l _ _ _ _ (by omega), upd_l _ _ _ _ (by omega), upd_l _ _ _ _ (by omega), upd_l _ _ _ _ (by omega)]
  · refine h1 _ (c5.same hm hk (fun j u hj hu _ => ?_) (fun c hc => ?_)) (Fr.up _ _ (by omega))
    · rw [zFare_t _ _ _ _ j u hu, e0, b2_t g]
      by_cases q : j = i
      · subst q
        rw [if_pos rfl, upd_t _ _ _ _ _ _ hu (by omega), upd_t _ _ _ _ _ _ hu (by omega), upd_t _ _ _ _ _ _ hu (by omega), upd_t _ _ _ _ _ _ hu (by omega), upd_t _ _ _ _ _ _ hu (by omega)]
        revert u
        refine fun u hu _ => ?_
        revert u
        refine nine ⟨?_, ?_, ?_, ?_, ?_, ?_, ?_, ?_, ?_, ?_, ?_, ?_, ?_⟩ <;> simp
      · rw [if_neg q, upd_t _ _ _ _ _ _ hu (by omega), if_neg (fun c => q c.1), upd_t _ _ _ _ _ _ hu (by omega), if_neg (fun c => q c.1), upd_t _ _ _ _ _ _ hu (by omega), if_neg (fun c => q c.1), upd_t _ _ _ _ _ _ hu (by omega), if_neg (fun c => q c.1), upd_t _ _ _ _ _ _ hu (by omega), if_neg (fun c => q c.1)]
    · rw [zFare_o _ _ _ _ (by omega), upd_l _ _ _ _ (by omega), upd_l _ _ _ _ (by omega), upd_l _ _ _ _ (by omega), upd_l _ _ _ _ (by omega), upd_l _ _ _ _ (by omega)]
set_option maxRecDepth 100000 in
theorem c_accept (hB : TB B) (hQ : QT0 Q B) (hS : QS Q B σ) (hC : CA I B σ z n m k) (hmz : z 12 = nI m) (hn : n ≤ 12) (hm : m ≤ 12) (hk : k ≤ 15) {i : Nat} (hi : i < n) (a b : Int32) (h1 : ∀ p, p < m → z (15 + p) = z (tp i 0) → ∀ I', CA I' B σ (zFare (zLeave z i p m) i a b 0) n (m - 1) k → Fr I I' B → P none (SC L, I', Q)) (h2 : (∀ p, p < m → z (15 + p) ≠ z (tp i 0)) → ∀ I', CA I' B σ (zFare z i a b 0) n m k → Fr I I' B → P none (SC L, I', Q)) : Runs l 47 [.ref B, .ref (B + 2 + σ i), .int a, .int b] (SC L, I, Q) P := by
  refine run0 (n := 0) mok_47 ⟨rfl, rfl⟩ rfl ?_
  refine wk (gn1_ok l L) ok_47 3 (fun pc => false) ?_
  simp only [gn1, kk_47, Option.toList_some, Option.toList_none, ex, catS, vC, isMk, sym, popN, goC, callOK, swL, List.map_cons, List.map_nil, List.replicate_zero, List.replicate_succ, List.append_nil, List.nil_append, List.cons_append, List.getElem?_cons_zero, List.getElem?_cons_succ, List.set_cons_zero, List.set_cons_succ, List.length_cons, List.length_nil, List.head?_cons, Nat.reduceAdd, Nat.reduceLT, Nat.reduceLeDiff, Nat.reduceBEq, Nat.reduceEqDiff, Nat.succ_ne_zero, Nat.zero_lt_succ, Nat.le_refl, sc_rows, kc_lit, nc_lit, wlk_rows, uR_s, uR_uR, true_and, and_true, true_or, or_true, false_or, or_false, and_false, false_and, or_self, and_self, if_true, if_false, Bool.false_eq_true, Bool.or_false, Bool.or_true, Bool.false_or, Bool.true_or, not_true_eq_false, not_false_eq_true, forall_const, true_implies, false_implies, implies_true, reduceIte, reduceCtorEq, tbk hB, tbx hB, fC_at, fC_begin, fC_place, fC_setg, fC_fare, fC_stays, fC_tired, fC_long, fC_min, CTh_eq, CXh_eq, ix_lit, lt_lit, cl_lit, nz_lit, in5, in12, abs_sz]
  refine c_leaveLine hB hQ hS hC hmz hn hm hk hi (fun p hp he I1 hI1 hF1 => ?_) (fun hno => ?_)
  · exact c_accept2 hB hQ hS hI1 hn (by omega) hk hi a b (fun I' hI' hF => h1 p hp he I' hI' (hF1.tr hF))
  · exact c_accept2 hB hQ hS hC hn hm hk hi a b (fun I' hI' hF => h2 hno I' hI' hF)
theorem w3a (f : Nat → Nat → Int32) (B : Nat) (x x' y w : Nat → Int32) : uR (uR (uR (uR f (B + 16) x) (B + 17) y) (B + 18) w) (B + 16) x' = uR (uR (uR f (B + 16) x') (B + 17) y) (B + 18) w := by
  rw [uR_comm _ w x' (by omega), uR_comm _ y x' (by omega), uR_uR]
theorem w3b (f : Nat → Nat → Int32) (B : Nat) (y y' w : Nat → Int32) : uR (uR (uR f (B + 17) y) (B + 18) w) (B + 17) y' = uR (uR f (B + 17) y') (B + 18) w := by
  rw [uR_comm _ w y' (by omega), uR_uR]
/-- the cells once a passenger has gone -/
theorem CA.goes (hC : CA I B σ z n m k) (hS : ∀ i, i < 12 → σ i < 12) (hn : n ≤ 12) (hm : m ≤ 12) (hk : k ≤ 15) {r : Nat} (hr : r < k) : CA (uR (uR (uR (uR I (B + 16) (slC (I (B + 16)) r (k - 1))) (B + 17) (slC (I (B + 17)) r (k - 1))) (B + 18) (slC (I (B + 18)) r (k - 1))) (B + 15) (upd (I (B + 15)) 0 (nI (k - 1)))) B σ (zGoes z r k) n m (k - 1) := by
  obtain ⟨⟨⟨a1, a2⟩, a3⟩, b, c, d, e, ⟨w1, w2⟩, w3⟩ := hC
  have far : ∀ q, q < B + 15 ∨ B + 19 ≤ q → uR (uR (uR (uR I (B + 16) (slC (I (B + 16)) r (k - 1))) (B + 17) (slC (I (B + 17)) r (k - 1))) (B + 18) (slC (I (B + 18)) r (k - 1))) (B + 15) (upd (I (B + 15)) 0 (nI (k - 1))) q = I q := fun q hq => by
    rw [uR_n _ _ (by omega), uR_n _ _ (by omega), uR_n _ _ (by omega), uR_n _ _ (by omega)]
  have zo : ∀ c, c < 27 ∧ c ≠ 13 → zGoes z r k c = z c := fun c hc => zGoes_o z hk hc
  refine ⟨⟨⟨?_, ?_⟩, fun u h1 h2 => ?_⟩, fun j hj u hu => ?_, fun j h1 h2 u hu => ?_, fun j hj => ?_, fun j hj => ?_, ⟨?_, ?_⟩, fun q hq => ⟨?_, ?_, ?_⟩⟩
  · rw [far _ (by omega), zo _ (by omega)]; exact a1
  · rw [far _ (by omega), zo _ (by omega)]; exact a2
  · rw [far _ (by omega), zo _ (by omega)]; exact a3 u h1 h2
  · rw [far _ (by have := hS j (by omega); omega), zGoes_t z j _ hk]; exact b j hj u hu
  · rw [far _ (by have := hS j (by omega); omega)]; exact c j h1 h2 u hu
  · rw [far _ (by omega), zo _ (by omega)]; exact d j hj
  · rw [far _ (by omega), zo _ (by omega)]; exact e j hj
  · rw [uR_s, upd_e, zGoes_13]
  · rw [uR_s, upd_n _ _ (by omega), zo _ (by omega)]; exact w2
  · have eg := zGoes_w z (r := r) (k := k) (q := q) (w := 0) hq (by omega)
    simp only [Nat.add_zero] at eg
    rw [eg, uR_n _ _ (by omega), uR_n _ _ (by omega), uR_n _ _ (by omega), uR_s]
    simp only [slC]
    by_cases h : q < r
    · rw [if_neg (by omega), if_pos h]; exact (w3 q (by omega)).1
    · rw [if_pos (by omega), if_neg h]; exact (w3 (q + 1) (by omega)).1
  · rw [zGoes_w z hq (by omega), uR_n _ _ (by omega), uR_n _ _ (by omega), uR_s]
    simp only [slC]
    by_cases h : q < r
    · rw [if_neg (by omega), if_pos h]; exact (w3 q (by omega)).2.1
    · rw [if_pos (by omega), if_neg h]; exact (w3 (q + 1) (by omega)).2.1
  · rw [zGoes_w z hq (by omega), uR_n _ _ (by omega), uR_s]
    simp only [slC]
    by_cases h : q < r
    · rw [if_neg (by omega), if_pos h]; exact (w3 q (by omega)).2.2
    · rw [if_pos (by omega), if_neg h]; exact (w3 (q + 1) (by omega)).2.2
set_option maxRecDepth 100000 in
theorem c_removeAt (hB : TB B) (hQ : QT0 Q B) (hS : QS Q B σ) (hC : CA I B σ z n m k) (hkz : z 13 = nI k) (hn : n ≤ 12) (hm : m ≤ 12) (hk : k ≤ 15) {r : Nat} (hr : r < k) (h1 : ∀ I', CA I' B σ (zGoes z r k) n m (k - 1) → Fr I I' B → P none (SC L, I', Q)) : Runs l 14 [.ref (B + 15), .int (nI r)] (SC L, I, Q) P := by
  have e1 : I (B + 15) 0 = nI k := hC.2.2.2.2.2.1.1.trans hkz
  have loop : ∀ d j, j + d = k - 1 → r ≤ j → Sy l 14 (149, 1788) 15 [some (.ref (B + 15)), some (.int (nI r)), some (.int (nI j))] [] (SC L, uR (uR (uR I (B + 16) (slC (I (B + 16)) r j)) (B + 17) (slC (I (B + 17)) r j)) (B + 18) (slC (I (B + 18)) r j), Q) P := by
    intro d
    induction d with
    | zero =>
      intro j hj hrj
      have : j = k - 1 := by omega
      subst this
      refine wk ((fn0_ok l)) ok_14 60 (fun pc => pc == 15) ?_
      simp only [fn0, kk_14, Option.toList_some, Option.toList_none, ex, catS, vC, isMk, sym, popN, goC, callOK, swL, List.map_cons, List.map_nil, List.replicate_zero, List.replicate_succ, List.append_nil, List.nil_append, List.cons_append, List.getElem?_cons_zero, List.getElem?_cons_succ, List.set_cons_zero, List.set_cons_succ, List.length_cons, List.length_nil, List.head?_cons, Nat.reduceAdd, Nat.reduceLT, Nat.reduceLeDiff, Nat.reduceBEq, Nat.reduceEqDiff, Nat.succ_ne_zero, Nat.zero_lt_succ, Nat.le_refl, sc_rows, kc_lit, nc_lit, wlk_rows, uR_s, uR_uR, true_and, and_true, true_or, or_true, false_or, or_false, and_false, false_and, or_self, and_self, if_true, if_false, Bool.false_eq_true, Bool.or_false, Bool.or_true, Bool.false_or, Bool.true_or, not_true_eq_false, not_false_eq_true, forall_const, true_implies, false_implies, implies_true, reduceIte, reduceCtorEq, tbk hB, tbx hB, tbn L hB, qt hQ, rws B (show 0 < 12 by omega), e1, nI_dn (show 0 < k by omega), leT (Nat.le_refl (k - 1)) (show k - 1 < 2147483648 by omega)]
      exact h1 _ (hC.goes hS.2.1 hn hm hk hr) ((((Fr.up I _ (by omega)).tr (Fr.up _ _ (by omega))).tr (Fr.up _ _ (by omega))).tr (Fr.up _ _ (by omega)))
    | succ d ih =>
      intro j hj hrj
      have := ih (j + 1) (by omega) (by omega)
      rw [← slC_step _ hrj, ← slC_step _ hrj, ← slC_step _ hrj] at this
      refine wk ((fn0_ok l)) ok_14 60 (fun pc => pc == 15) ?_
      simp only [fn0, kk_14, Option.toList_some, Option.toList_none, ex, catS, vC, isMk, sym, popN, goC, callOK, swL, List.map_cons, List.map_nil, List.replicate_zero, List.replicate_succ, List.append_nil, List.nil_append, List.cons_append, List.getElem?_cons_zero, List.getElem?_cons_succ, List.set_cons_zero, List.set_cons_succ, List.length_cons, List.length_nil, List.head?_cons, Nat.reduceAdd, Nat.reduceLT, Nat.reduceLeDiff, Nat.reduceBEq, Nat.reduceEqDiff, Nat.succ_ne_zero, Nat.zero_lt_succ, Nat.le_refl, sc_rows, kc_lit, nc_lit, wlk_rows, uR_s, uR_uR, true_and, and_true, true_or, or_true, false_or, or_false, and_false, false_and, or_self, and_self, if_true, if_false, Bool.false_eq_true, Bool.or_false, Bool.or_true, Bool.false_or, Bool.true_or, not_true_eq_false, not_false_eq_true, forall_const, true_implies, false_implies, implies_true, reduceIte, reduceCtorEq, tbk hB, tbx hB, tbn L hB, qt hQ, rws B (show 0 < 12 by omega), w3a, w3b, e1, nI_dn (show 0 < k by omega), leF (show j < k - 1 by omega) (show k - 1 < 2147483648 by omega), ixp (show j < 15 by omega) (by omega), ixp (show j + 1 < 15 by omega) (by omega), nI_up]
      exact this
  refine run0 (n := 1) mok_14 ⟨rfl, rfl⟩ rfl ?_
  refine wk ((fn0_ok l)) ok_14 60 (fun pc => pc == 15) ?_
  simp only [fn0, kk_14, Option.toList_some, Option.toList_none, ex, catS, vC, isMk, sym, popN, goC, callOK, swL, List.map_cons, List.map_nil, List.replicate_zero, List.replicate_succ, List.append_nil, List.nil_append, List.cons_append, List.getElem?_cons_zero, List.getElem?_cons_succ, List.set_cons_zero, List.set_cons_succ, List.length_cons, List.length_nil, List.head?_cons, Nat.reduceAdd, Nat.reduceLT, Nat.reduceLeDiff, Nat.reduceBEq, Nat.reduceEqDiff, Nat.succ_ne_zero, Nat.zero_lt_succ, Nat.le_refl, sc_rows, kc_lit, nc_lit, wlk_rows, uR_s, uR_uR, true_and, and_true, true_or, or_true, false_or, or_false, and_false, false_and, or_self, and_self, if_true, if_false, Bool.false_eq_true, Bool.or_false, Bool.or_true, Bool.false_or, Bool.true_or, not_true_eq_false, not_false_eq_true, forall_const, true_implies, false_implies, implies_true, reduceIte, reduceCtorEq, tbk hB, tbx hB, e1, smI (show r < 2147483648 by omega), ltT (show r < k by omega) (show k < 2147483648 by omega)]
  have := loop (k - 1 - r) r (by omega) (Nat.le_refl r)
  rw [slC_0, slC_0, slC_0, uR_self, uR_self, uR_self] at this
  exact this
end C7

