/-! a taxi that comes: the class -/
section F1
variable {l : Launch} {L : Nat} {I : Nat → Nat → Int32} {Q : Nat → Nat → Option Nat} {P : Option Value → PH → Prop} {B : Nat} {σ : Nat → Nat} {z : Nat → Int32} {n m k : Nat}
def sgI (σ : Nat → Nat) (q n : Nat) : Nat → Nat := fun i => if i < q then σ i else if i = q then σ n else if i ≤ n then σ (i - 1) else σ i
theorem sgI_lt {σ : Nat → Nat} {q n : Nat} (hs : ∀ i, i < 12 → σ i < 12) (hn : n < 12) : ∀ i, i < 12 → sgI σ q n i < 12 := by
  intro i hi
  unfold sgI
  split
  · exact hs i hi
  · split
    · exact hs n hn
    · split
      · exact hs _ (by omega)
      · exact hs i hi
theorem sgI_inj {σ : Nat → Nat} {q n : Nat} (hs : ∀ i j, i < 12 → j < 12 → σ i = σ j → i = j) (hn : n < 12) (hq : q ≤ n) : ∀ i j, i < 12 → j < 12 → sgI σ q n i = sgI σ q n j → i = j := by
  have key : ∀ i, i < 12 → ∃ a, a < 12 ∧ sgI σ q n i = σ a ∧ ((i < q ∧ a = i) ∨ (i = q ∧ a = n) ∨ (q < i ∧ i ≤ n ∧ a + 1 = i) ∨ (q < i ∧ n < i ∧ a = i)) := by
    intro i hi
    unfold sgI
    by_cases h1 : i < q
    · exact ⟨i, hi, by rw [if_pos h1], by omega⟩
    · rw [if_neg h1]
      by_cases h2 : i = q
      · exact ⟨n, hn, by rw [if_pos h2], by omega⟩
      · rw [if_neg h2]
        by_cases h3 : i ≤ n
        · exact ⟨i - 1, by omega, by rw [if_pos h3], by omega⟩
        · exact ⟨i, hi, by rw [if_neg h3], by omega⟩
  intro i j hi hj e
  obtain ⟨a, a1, a2, a3⟩ := key i hi
  obtain ⟨b, b1, b2', b3⟩ := key j hj
  have : a = b := hs a b a1 b1 (by rw [← a2, ← b2', e])
  subst this
  omega
def shQ (f : Nat → Option Nat) (a n : Nat) : Nat → Option Nat := fun j => if a < j ∧ j ≤ n then f (j - 1) else f j
theorem shQ_step (f : Nat → Option Nat) {a n : Nat} {r : Nat} (ha : a < n) (h : f a = some r) : va_up (shQ f (a + 1) n) (a + 1) (some r) = shQ f a n := by
  funext j
  simp only [va_up, shQ]
  by_cases e : j = a + 1
  · subst e
    rw [if_pos rfl, if_pos (by omega)]
    exact h.symm
  · rw [if_neg e]
    by_cases h1 : a + 1 < j ∧ j ≤ n
    · rw [if_pos h1, if_pos (by omega)]
    · rw [if_neg h1, if_neg (by omega)]
theorem shQ_0 (f : Nat → Option Nat) (n : Nat) : shQ f n n = f := by
  funext j
  simp only [shQ]
  rw [if_neg (by omega)]
theorem CA.ins (hC : CA I B σ z n m k) (hs : (∀ i, i < 12 → σ i < 12) ∧ ∀ i j, i < 12 → j < 12 → σ i = σ j → i = j) (hn : n < 12) (hm : m ≤ 12) (hk : k ≤ 15) (p : Int32) : CA (uR (uR I B (upd (I B) 1 (nI (n + 1)))) (B + 2 + σ n) (upd (I (B + 2 + σ n)) 0 p)) B (sgI σ (insAt z p n) n) (zIns z p n) (n + 1) m k := by
  obtain ⟨⟨⟨a1, a2⟩, a3⟩, b, c, d, e, ⟨w1, w2⟩, w3⟩ := hC
  have hq := insAt_le z p n
  have hsn := hs.1 n hn
  have o : ∀ j, j < 72 → j ≠ 11 → zIns z p n j = z j := fun j hj h => by rw [zIns_o z p hj, if_neg h]
  have far : ∀ q, q ≠ B → q ≠ B + 2 + σ n → uR (uR I B (upd (I B) 1 (nI (n + 1)))) (B + 2 + σ n) (upd (I (B + 2 + σ n)) 0 p) q = I q := fun q h1 h2 => by rw [uR_n _ _ h2, uR_n _ _ h1]
  have atB : uR (uR I B (upd (I B) 1 (nI (n + 1)))) (B + 2 + σ n) (upd (I (B + 2 + σ n)) 0 p) B = upd (I B) 1 (nI (n + 1)) := by rw [uR_n _ _ (by omega), uR_s]
  have old : ∀ i, i < 12 → i ≠ n → uR (uR I B (upd (I B) 1 (nI (n + 1)))) (B + 2 + σ n) (upd (I (B + 2 + σ n)) 0 p) (B + 2 + σ i) = I (B + 2 + σ i) := fun i hi hin => by
    have := hs.1 i hi
    exact far _ (by omega) (fun q => hin (hs.2 i n hi hn (by omega)))
  refine ⟨⟨⟨?_, ?_⟩, fun u h1 h2 => ?_⟩, fun i hi u hu => ?_, fun i h1 h2 u hu => ?_, fun j hj => ?_, fun j hj => ?_, ⟨?_, ?_⟩, fun r hr => ?_⟩
  · rw [atB, upd_e, zIns_o z p (by omega), if_pos rfl]
  · rw [atB, upd_n _ _ (by omega), o 12 (by omega) (by omega)]; exact a2
  · rw [atB, upd_n _ _ (by omega), o _ (by omega) (by omega)]; exact a3 u h1 h2
  · rw [zIns_t z p (cm_lt hu) (by omega)]
    unfold sgI
    by_cases h1 : i < insAt z p n
    · rw [if_pos h1, if_pos h1, old i (by omega) (by omega)]
      exact b i (by omega) u hu
    · rw [if_neg h1, if_neg h1]
      by_cases h2 : i = insAt z p n
      · rw [if_pos h2, if_pos h2, uR_s]
        by_cases h3 : u = 0
        · subst h3
          rw [upd_e]
          rfl
        · rw [upd_n _ _ h3, if_neg (fun q => h3 ((cm_iff hu (by omega)).mp q))]
          exact c n (Nat.le_refl n) hn u hu
      · rw [if_neg h2, if_neg h2, if_pos (by omega), old (i - 1) (by omega) (by omega)]
        exact b (i - 1) (by omega) u hu
  · unfold sgI
    rw [if_neg (by omega), if_neg (by omega), if_neg (by omega), old i h2 (by omega)]
    exact c i (by omega) h2 u hu
  · rw [far _ (by omega) (by omega), o _ (by omega) (by omega)]; exact d j hj
  · rw [far _ (by omega) (by omega), o _ (by omega) (by omega)]; exact e j hj
  · rw [far _ (by omega) (by omega), o _ (by omega) (by omega)]; exact w1
  · rw [far _ (by omega) (by omega), o _ (by omega) (by omega)]; exact w2
  · rw [far _ (by omega) (by omega), far _ (by omega) (by omega), far _ (by omega) (by omega), o _ (by omega) (by omega), o _ (by omega) (by omega), o _ (by omega) (by omega)]; exact w3 r hr
theorem QT0.row {Q : Nat → Nat → Option Nat} {B : Nat} (h : QT0 Q B) (g : Nat → Option Nat) : QT0 (uR Q (B + 1) g) B := by
  unfold QT0
  rw [uR_n _ _ (by omega), uR_n _ _ (by omega)]
  exact h
set_option maxRecDepth 100000 in
theorem c_register (hB : TB B) (hQ : QT0 Q B) (hS : QS Q B σ) (hL : Ln z n m) (hC : CA I B σ z n m k) (hk : k ≤ 15) (hn : n < 12) (p : Int32) (h1 : ∀ I' Q', QT0 Q' B → QS Q' B (sgI σ (insAt z p n) n) → CA I' B (sgI σ (insAt z p n) n) (zIns z p n) (n + 1) m k → Fr I I' B → (∀ r, r ≠ B + 1 → Q' r = Q r) → P (some (.ref (B + 2 + sgI σ (insAt z p n) n (insAt z p n)))) (SC L, I', Q')) : Runs l 55 [.ref B, .int p] (SC L, I, Q) P := by
  have e1 : I B 1 = nI n := hC.tw.1.trans hL.1
  have hm := hL.2.2.2.2.2.2.2
  have hs := hS.2.1 n hn
  have eq1 : sgI σ (insAt z p n) n (insAt z p n) = σ n := by unfold sgI; rw [if_neg (by omega), if_pos rfl]
  rw [eq1] at h1
  have hqn := insAt_le z p n
  have fin : ∀ a4, Sy l 55 (149, 1788) 78 [some (.ref B), some (.int p), some (.ref (B + 2 + σ n)), some (.int (nI (insAt z p n))), a4] [] (SC L, I, uR Q (B + 1) (shQ (Q (B + 1)) (insAt z p n) n)) P := by
    intro a4
    have hQ1 := hQ.row (shQ (Q (B + 1)) (insAt z p n) n)
    refine wk ((fn0_ok l)) ok_55 60 (fun pc => false) ?_
    simp only [fn0, kk_55, Option.toList_some, Option.toList_none, ex, catS, vC, isMk, sym, popN, goC, callOK, swL, List.map_cons, List.map_nil, List.replicate_zero, List.replicate_succ, List.append_nil, List.nil_append, List.cons_append, List.getElem?_cons_zero, List.getElem?_cons_succ, List.set_cons_zero, List.set_cons_succ, List.length_cons, List.length_nil, List.head?_cons, Nat.reduceAdd, Nat.reduceLT, Nat.reduceLeDiff, Nat.reduceBEq, Nat.reduceEqDiff, Nat.succ_ne_zero, Nat.zero_lt_succ, Nat.le_refl, sc_rows, kc_lit, nc_lit, wlk_rows, uR_s, uR_uR, true_and, and_true, true_or, or_true, false_or, or_false, and_false, false_and, or_self, and_self, if_true, if_false, Bool.false_eq_true, Bool.or_false, Bool.or_true, Bool.false_or, Bool.true_or, not_true_eq_false, not_false_eq_true, forall_const, true_implies, false_implies, implies_true, reduceIte, reduceCtorEq, tbk hB, tbx hB, tbn L hB, qt hQ1, e1, ixp (show insAt z p n < 12 by omega) (by omega), tbt hB hs, rws B hs, nI_up]
    refine h1 _ _ (hQ.row _) ⟨fun i hi => ?_, sgI_lt hS.2.1 hn, sgI_inj hS.2.2 hn hqn⟩ (hC.ins hS.2 hn hm hk p) ((Fr.up I _ (by omega)).tr (Fr.up _ _ (by omega))) (fun r hr => uR_n _ _ hr)
    rw [uR_s]
    simp only [va_up, shQ, sgI]
    by_cases h2 : i < insAt z p n
    · rw [if_neg (by omega), if_neg (by omega), if_pos h2]
      exact hS.1 i hi
    · rw [if_neg h2]
      by_cases h3 : i = insAt z p n
      · rw [if_pos h3, if_pos h3]
      · rw [if_neg h3, if_neg h3]
        by_cases h4 : i ≤ n
        · rw [if_pos (by omega), if_pos h4]
          exact hS.1 (i - 1) (by omega)
        · rw [if_neg (by omega), if_neg h4]
          exact hS.1 i hi
  have loop : ∀ a, a ≤ n → insAt z p a = insAt z p n → Sy l 55 (149, 1788) 34 [some (.ref B), some (.int p), some (.ref (B + 2 + σ n)), some (.int (nI a)), some (.int (nI a + (-1)))] [] (SC L, I, uR Q (B + 1) (shQ (Q (B + 1)) a n)) P := by
    intro a
    induction a with
    | zero =>
      intro _ hi
      have e0 : insAt z p n = 0 := hi.symm
      have := fin (some (.int (-1)))
      rw [e0] at this
      refine wk ((fn0_ok l)) ok_55 30 (fun pc => pc == 78) ?_
      simp only [fn0, kk_55, Option.toList_some, Option.toList_none, ex, catS, vC, isMk, sym, popN, goC, callOK, swL, List.map_cons, List.map_nil, List.replicate_zero, List.replicate_succ, List.append_nil, List.nil_append, List.cons_append, List.getElem?_cons_zero, List.getElem?_cons_succ, List.set_cons_zero, List.set_cons_succ, List.length_cons, List.length_nil, List.head?_cons, Nat.reduceAdd, Nat.reduceLT, Nat.reduceLeDiff, Nat.reduceBEq, Nat.reduceEqDiff, Nat.succ_ne_zero, Nat.zero_lt_succ, Nat.le_refl, sc_rows, kc_lit, nc_lit, wlk_rows, uR_s, uR_uR, true_and, and_true, true_or, or_true, false_or, or_false, and_false, false_and, or_self, and_self, if_true, if_false, Bool.false_eq_true, Bool.or_false, Bool.or_true, Bool.false_or, Bool.true_or, not_true_eq_false, not_false_eq_true, forall_const, true_implies, false_implies, implies_true, reduceIte, reduceCtorEq, show nI 0 + -1 = (-1 : Int32) from rfl, show ((-1 : Int32) < 0) = True by decide]
      exact this
    | succ a ih =>
      intro ha hi
      have t := (hC.tx (show a < n by omega)).1
      have hsa := hS.2.1 a (by omega)
      have hQ1 := hQ.row (shQ (Q (B + 1)) (a + 1) n)
      have eqa : shQ (Q (B + 1)) (a + 1) n a = some (B + 2 + σ a) := by simp only [shQ]; rw [if_neg (by omega)]; exact hS.1 a (by omega)
      simp only [insAt] at hi
      by_cases g : p < z (tp a 0)
      · rw [if_pos g] at hi
        have := ih (by omega) hi
        rw [← shQ_step _ (show a < n by omega) (hS.1 a (by omega))] at this
        refine wk ((fn0_ok l)) ok_55 60 (fun pc => pc == 78 || pc == 34) ?_
        simp only [fn0, kk_55, Option.toList_some, Option.toList_none, ex, catS, vC, isMk, sym, popN, goC, callOK, swL, List.map_cons, List.map_nil, List.replicate_zero, List.replicate_succ, List.append_nil, List.nil_append, List.cons_append, List.getElem?_cons_zero, List.getElem?_cons_succ, List.set_cons_zero, List.set_cons_succ, List.length_cons, List.length_nil, List.head?_cons, Nat.reduceAdd, Nat.reduceLT, Nat.reduceLeDiff, Nat.reduceBEq, Nat.reduceEqDiff, Nat.succ_ne_zero, Nat.zero_lt_succ, Nat.le_refl, sc_rows, kc_lit, nc_lit, wlk_rows, uR_s, uR_uR, true_and, and_true, true_or, or_true, false_or, or_false, and_false, false_and, or_self, and_self, if_true, if_false, Bool.false_eq_true, Bool.or_false, Bool.or_true, Bool.false_or, Bool.true_or, not_true_eq_false, not_false_eq_true, forall_const, true_implies, false_implies, implies_true, reduceIte, reduceCtorEq, tbk hB, tbx hB, tbn L hB, qt hQ1, (nI_dn (show 0 < a + 1 by omega)).1, Nat.add_sub_cancel, smI (show a < 2147483648 by omega), ixp (show a < 12 by omega) (by omega), ixp (show a + 1 < 12 by omega) (by omega), eqa, tbt hB hsa, t, eq_false (Int32.not_le.mpr g), nI_up]
        exact this
      · rw [if_neg g] at hi
        have := fin (some (.int (nI a)))
        rw [← hi] at this
        refine wk ((fn0_ok l)) ok_55 60 (fun pc => pc == 78 || pc == 34) ?_
        simp only [fn0, kk_55, Option.toList_some, Option.toList_none, ex, catS, vC, isMk, sym, popN, goC, callOK, swL, List.map_cons, List.map_nil, List.replicate_zero, List.replicate_succ, List.append_nil, List.nil_append, List.cons_append, List.getElem?_cons_zero, List.getElem?_cons_succ, List.set_cons_zero, List.set_cons_succ, List.length_cons, List.length_nil, List.head?_cons, Nat.reduceAdd, Nat.reduceLT, Nat.reduceLeDiff, Nat.reduceBEq, Nat.reduceEqDiff, Nat.succ_ne_zero, Nat.zero_lt_succ, Nat.le_refl, sc_rows, kc_lit, nc_lit, wlk_rows, uR_s, uR_uR, true_and, and_true, true_or, or_true, false_or, or_false, and_false, false_and, or_self, and_self, if_true, if_false, Bool.false_eq_true, Bool.or_false, Bool.or_true, Bool.false_or, Bool.true_or, not_true_eq_false, not_false_eq_true, forall_const, true_implies, false_implies, implies_true, reduceIte, reduceCtorEq, tbk hB, tbx hB, tbn L hB, qt hQ1, (nI_dn (show 0 < a + 1 by omega)).1, Nat.add_sub_cancel, smI (show a < 2147483648 by omega), ixp (show a < 12 by omega) (by omega), eqa, tbt hB hsa, t, Int32.not_lt.mp g]
        exact this
  refine run0 (n := 3) mok_55 ⟨rfl, rfl⟩ rfl ?_
  have e12 : (nI n < 12) = True := by rw [show (12 : Int32) = nI 12 from rfl]; exact ltT (by omega) (by omega)
  refine wk ((fn0_ok l)) ok_55 40 (fun pc => pc == 34) ?_
  simp only [fn0, kk_55, Option.toList_some, Option.toList_none, ex, catS, vC, isMk, sym, popN, goC, callOK, swL, List.map_cons, List.map_nil, List.replicate_zero, List.replicate_succ, List.append_nil, List.nil_append, List.cons_append, List.getElem?_cons_zero, List.getElem?_cons_succ, List.set_cons_zero, List.set_cons_succ, List.length_cons, List.length_nil, List.head?_cons, Nat.reduceAdd, Nat.reduceLT, Nat.reduceLeDiff, Nat.reduceBEq, Nat.reduceEqDiff, Nat.succ_ne_zero, Nat.zero_lt_succ, Nat.le_refl, sc_rows, kc_lit, nc_lit, wlk_rows, uR_s, uR_uR, true_and, and_true, true_or, or_true, false_or, or_false, and_false, false_and, or_self, and_self, if_true, if_false, Bool.false_eq_true, Bool.or_false, Bool.or_true, Bool.false_or, Bool.true_or, not_true_eq_false, not_false_eq_true, forall_const, true_implies, false_implies, implies_true, reduceIte, reduceCtorEq, tbk hB, tbx hB, tbn L hB, qt hQ, e1, e12, ixp (show n < 12 by omega) (by omega), hS.1 n hn]
  rw [Int32.sub_eq_add_neg]
  have := loop n (Nat.le_refl n) rfl
  rw [shQ_0, uR_self] at this
  exact this
set_option maxRecDepth 100000 in
theorem c_registerNo (hB : TB B) (e1 : I B 1 = nI 12) (p : Int32) (h1 : P (some .null) (SC L, I, Q)) : Runs l 55 [.ref B, .int p] (SC L, I, Q) P := by
  refine run0 (n := 3) mok_55 ⟨rfl, rfl⟩ rfl ?_
  refine wk ((fn0_ok l)) ok_55 40 (fun pc => pc == 34 || pc == 11) ?_
  simp only [fn0, kk_55, Option.toList_some, Option.toList_none, ex, catS, vC, isMk, sym, popN, goC, callOK, swL, List.map_cons, List.map_nil, List.replicate_zero, List.replicate_succ, List.append_nil, List.nil_append, List.cons_append, List.getElem?_cons_zero, List.getElem?_cons_succ, List.set_cons_zero, List.set_cons_succ, List.length_cons, List.length_nil, List.head?_cons, Nat.reduceAdd, Nat.reduceLT, Nat.reduceLeDiff, Nat.reduceBEq, Nat.reduceEqDiff, Nat.succ_ne_zero, Nat.zero_lt_succ, Nat.le_refl, sc_rows, kc_lit, nc_lit, wlk_rows, uR_s, uR_uR, true_and, and_true, true_or, or_true, false_or, or_false, and_false, false_and, or_self, and_self, if_true, if_false, Bool.false_eq_true, Bool.or_false, Bool.or_true, Bool.false_or, Bool.true_or, not_true_eq_false, not_false_eq_true, forall_const, true_implies, false_implies, implies_true, reduceIte, reduceCtorEq, tbk hB, tbx hB, e1, show (nI 12 < 12) = False by decide]
  exact h1
set_option maxRecDepth 100000 in
theorem c_welEnd (hB : TB B) (hQ : QT0 Q B) (hS : QS Q B σ) {x : Nat} (hL : LnX z n m x) (hC : CA I B σ z n m k) (hk : k ≤ 15) {i : Nat} (hi : i < n) (hx : x = i) (h8 : z (tp i 8) = 0) (p : Int32) (h1 : ∀ I', CA I' B σ (zWe1 z i m) n (m + 1) k → Fr I I' B → P (some (.int (nI m))) (SC L, I', Q)) : Sy l 25 (149, 1788) 52 [some (.ref B), some (.int p), some (.ref (B + 2 + σ i))] [] (SC L, I, Q) P := by
  subst hx
  have hn := hL.2.1
  have hm : m < 12 := by have := hL.lt hi; omega
  have hs := hS.2.1 x (by omega)
  have c1 := hC.fld hS hn (by omega) hk hi 3 (by omega) 0
  simp only [cm_lit] at c1
  refine wk ((fn0_ok l)) ok_25 30 (fun pc => false) ?_
  simp only [fn0, kk_25, Option.toList_some, Option.toList_none, ex, catS, vC, isMk, sym, popN, goC, callOK, swL, List.map_cons, List.map_nil, List.replicate_zero, List.replicate_succ, List.append_nil, List.nil_append, List.cons_append, List.getElem?_cons_zero, List.getElem?_cons_succ, List.set_cons_zero, List.set_cons_succ, List.length_cons, List.length_nil, List.head?_cons, Nat.reduceAdd, Nat.reduceLT, Nat.reduceLeDiff, Nat.reduceBEq, Nat.reduceEqDiff, Nat.succ_ne_zero, Nat.zero_lt_succ, Nat.le_refl, sc_rows, kc_lit, nc_lit, wlk_rows, uR_s, uR_uR, true_and, and_true, true_or, or_true, false_or, or_false, and_false, false_and, or_self, and_self, if_true, if_false, Bool.false_eq_true, Bool.or_false, Bool.or_true, Bool.false_or, Bool.true_or, not_true_eq_false, not_false_eq_true, forall_const, true_implies, false_implies, implies_true, reduceIte, reduceCtorEq, tbk hB, tbx hB, tbt hB hs]
  refine c_standLast hB hQ hS c1 (by rw [upd_l _ _ _ _ (by omega)]; exact hL.2.2.1) hn hm hk hi (by rw [upd_t _ _ _ _ _ _ (by omega) (by omega), if_neg (by omega)]; exact h8) (fun I' hI' hF => ?_)
  have e3 : I' B 3 = nI (m + 1) := by rw [hI'.tw.2.1]; exact zStand_12 _
  refine wk ((fn0_ok l)) ok_25 30 (fun pc => false) ?_
  simp only [fn0, kk_25, Option.toList_some, Option.toList_none, ex, catS, vC, isMk, sym, popN, goC, callOK, swL, List.map_cons, List.map_nil, List.replicate_zero, List.replicate_succ, List.append_nil, List.nil_append, List.cons_append, List.getElem?_cons_zero, List.getElem?_cons_succ, List.set_cons_zero, List.set_cons_succ, List.length_cons, List.length_nil, List.head?_cons, Nat.reduceAdd, Nat.reduceLT, Nat.reduceLeDiff, Nat.reduceBEq, Nat.reduceEqDiff, Nat.succ_ne_zero, Nat.zero_lt_succ, Nat.le_refl, sc_rows, kc_lit, nc_lit, wlk_rows, uR_s, uR_uR, true_and, and_true, true_or, or_true, false_or, or_false, and_false, false_and, or_self, and_self, if_true, if_false, Bool.false_eq_true, Bool.or_false, Bool.or_true, Bool.false_or, Bool.true_or, not_true_eq_false, not_false_eq_true, forall_const, true_implies, false_implies, implies_true, reduceIte, reduceCtorEq, tbk hB, tbx hB, e3, (nI_dn (show 0 < m + 1 by omega)).2, Nat.add_sub_cancel]
  exact h1 I' hI' ((Fr.up I _ (by omega)).tr hF)
set_option maxRecDepth 100000 in
theorem c_welcome (hB : TB B) (hQ : QT0 Q B) (hS : QS Q B σ) (hM : MV z n k) (hL : Ln z n m) (hC : CA I B σ z n m k) (p : Int32) (h1 : whyW z n p < 0 → P (some (.int (whyW z n p))) (SC L, I, Q)) (h2 : whyW z n p = 0 → ∀ I' Q' σ', QT0 Q' B → QS Q' B σ' → CA I' B σ' (zWel z n m p) (nWel z n p) (m + 1) k → Fr I I' B → (∀ r, r ≠ B + 1 → Q' r = Q r) → P (some (.int (nI m))) (SC L, I', Q')) : Runs l 25 [.ref B, .int p] (SC L, I, Q) P := by
  have hk := hM.2.2.2.2.1
  have hn := hM.n.2
  have e1 : I B 1 = nI n := hC.tw.1.trans hL.1
  refine run0 (n := 1) mok_25 ⟨rfl, rfl⟩ rfl ?_
  unfold whyW at h1 h2
  by_cases g : 0 ≤ p ∧ p ≤ 999
  · rw [if_neg (fun q => q g)] at h1 h2
    refine wk ((fn0_ok l)) ok_25 30 (fun pc => pc == 11) ?_
    simp only [fn0, kk_25, Option.toList_some, Option.toList_none, ex, catS, vC, isMk, sym, popN, goC, callOK, swL, List.map_cons, List.map_nil, List.replicate_zero, List.replicate_succ, List.append_nil, List.nil_append, List.cons_append, List.getElem?_cons_zero, List.getElem?_cons_succ, List.set_cons_zero, List.set_cons_succ, List.length_cons, List.length_nil, List.head?_cons, Nat.reduceAdd, Nat.reduceLT, Nat.reduceLeDiff, Nat.reduceBEq, Nat.reduceEqDiff, Nat.succ_ne_zero, Nat.zero_lt_succ, Nat.le_refl, sc_rows, kc_lit, nc_lit, wlk_rows, uR_s, uR_uR, true_and, and_true, true_or, or_true, false_or, or_false, and_false, false_and, or_self, and_self, if_true, if_false, Bool.false_eq_true, Bool.or_false, Bool.or_true, Bool.false_or, Bool.true_or, not_true_eq_false, not_false_eq_true, forall_const, true_implies, false_implies, implies_true, reduceIte, reduceCtorEq, tbk hB, tbx hB, eq_false (Int32.not_lt.mpr g.1), g.2]
    refine c_ftz hB hQ hS hC hL p (fun i hf hi => ?_) (fun hf => ?_)
    · unfold zWel nWel at h2
      rw [hf] at h1 h2
      simp only at h1 h2
      have t := hC.tx hi
      have hs := hS.2.1 i (by omega)
      by_cases g5 : z (tp i 1) = 5
      · rw [if_pos g5] at h2
        refine wk ((fn0_ok l)) ok_25 30 (fun pc => pc == 52) ?_
        simp only [fn0, kk_25, Option.toList_some, Option.toList_none, ex, catS, vC, isMk, sym, popN, goC, callOK, swL, List.map_cons, List.map_nil, List.replicate_zero, List.replicate_succ, List.append_nil, List.nil_append, List.cons_append, List.getElem?_cons_zero, List.getElem?_cons_succ, List.set_cons_zero, List.set_cons_succ, List.length_cons, List.length_nil, List.head?_cons, Nat.reduceAdd, Nat.reduceLT, Nat.reduceLeDiff, Nat.reduceBEq, Nat.reduceEqDiff, Nat.succ_ne_zero, Nat.zero_lt_succ, Nat.le_refl, sc_rows, kc_lit, nc_lit, wlk_rows, uR_s, uR_uR, true_and, and_true, true_or, or_true, false_or, or_false, and_false, false_and, or_self, and_self, if_true, if_false, Bool.false_eq_true, Bool.or_false, Bool.or_true, Bool.false_or, Bool.true_or, not_true_eq_false, not_false_eq_true, forall_const, true_implies, false_implies, implies_true, reduceIte, reduceCtorEq, tbk hB, tbx hB, tbt hB hs, t, g5]
        have hd : ¬ z (tp i 1) = 0 := by rw [g5]; decide
        exact c_welEnd hB hQ hS (LnX.out hL hi hd) hC hk hi rfl ((hM.2.1 i hi).1.2.1 hd) p (fun I' a f => h2 rfl I' Q σ hQ hS a f (fun _ _ => rfl))
      · rw [if_neg g5] at h1
        refine wk ((fn0_ok l)) ok_25 30 (fun pc => pc == 52) ?_
        simp only [fn0, kk_25, Option.toList_some, Option.toList_none, ex, catS, vC, isMk, sym, popN, goC, callOK, swL, List.map_cons, List.map_nil, List.replicate_zero, List.replicate_succ, List.append_nil, List.nil_append, List.cons_append, List.getElem?_cons_zero, List.getElem?_cons_succ, List.set_cons_zero, List.set_cons_succ, List.length_cons, List.length_nil, List.head?_cons, Nat.reduceAdd, Nat.reduceLT, Nat.reduceLeDiff, Nat.reduceBEq, Nat.reduceEqDiff, Nat.succ_ne_zero, Nat.zero_lt_succ, Nat.le_refl, sc_rows, kc_lit, nc_lit, wlk_rows, uR_s, uR_uR, true_and, and_true, true_or, or_true, false_or, or_false, and_false, false_and, or_self, and_self, if_true, if_false, Bool.false_eq_true, Bool.or_false, Bool.or_true, Bool.false_or, Bool.true_or, not_true_eq_false, not_false_eq_true, forall_const, true_implies, false_implies, implies_true, reduceIte, reduceCtorEq, tbk hB, tbx hB, tbt hB hs, t, eq_false g5]
        exact h1 (by decide)
    · unfold zWel nWel at h2
      rw [hf] at h1 h2
      simp only at h1 h2
      by_cases g12 : n = 12
      · subst g12
        rw [if_pos rfl] at h1
        refine wk ((fn0_ok l)) ok_25 30 (fun pc => pc == 52) ?_
        simp only [fn0, kk_25, Option.toList_some, Option.toList_none, ex, catS, vC, isMk, sym, popN, goC, callOK, swL, List.map_cons, List.map_nil, List.replicate_zero, List.replicate_succ, List.append_nil, List.nil_append, List.cons_append, List.getElem?_cons_zero, List.getElem?_cons_succ, List.set_cons_zero, List.set_cons_succ, List.length_cons, List.length_nil, List.head?_cons, Nat.reduceAdd, Nat.reduceLT, Nat.reduceLeDiff, Nat.reduceBEq, Nat.reduceEqDiff, Nat.succ_ne_zero, Nat.zero_lt_succ, Nat.le_refl, sc_rows, kc_lit, nc_lit, wlk_rows, uR_s, uR_uR, true_and, and_true, true_or, or_true, false_or, or_false, and_false, false_and, or_self, and_self, if_true, if_false, Bool.false_eq_true, Bool.or_false, Bool.or_true, Bool.false_or, Bool.true_or, not_true_eq_false, not_false_eq_true, forall_const, true_implies, false_implies, implies_true, reduceIte, reduceCtorEq, tbk hB, tbx hB]
        refine c_registerNo hB e1 p ?_
        refine wk ((fn0_ok l)) ok_25 30 (fun pc => pc == 52) ?_
        simp only [fn0, kk_25, Option.toList_some, Option.toList_none, ex, catS, vC, isMk, sym, popN, goC, callOK, swL, List.map_cons, List.map_nil, List.replicate_zero, List.replicate_succ, List.append_nil, List.nil_append, List.cons_append, List.getElem?_cons_zero, List.getElem?_cons_succ, List.set_cons_zero, List.set_cons_succ, List.length_cons, List.length_nil, List.head?_cons, Nat.reduceAdd, Nat.reduceLT, Nat.reduceLeDiff, Nat.reduceBEq, Nat.reduceEqDiff, Nat.succ_ne_zero, Nat.zero_lt_succ, Nat.le_refl, sc_rows, kc_lit, nc_lit, wlk_rows, uR_s, uR_uR, true_and, and_true, true_or, or_true, false_or, or_false, and_false, false_and, or_self, and_self, if_true, if_false, Bool.false_eq_true, Bool.or_false, Bool.or_true, Bool.false_or, Bool.true_or, not_true_eq_false, not_false_eq_true, forall_const, true_implies, false_implies, implies_true, reduceIte, reduceCtorEq]
        exact h1 (by decide)
      · rw [if_neg g12] at h2
        refine wk ((fn0_ok l)) ok_25 30 (fun pc => pc == 52) ?_
        simp only [fn0, kk_25, Option.toList_some, Option.toList_none, ex, catS, vC, isMk, sym, popN, goC, callOK, swL, List.map_cons, List.map_nil, List.replicate_zero, List.replicate_succ, List.append_nil, List.nil_append, List.cons_append, List.getElem?_cons_zero, List.getElem?_cons_succ, List.set_cons_zero, List.set_cons_succ, List.length_cons, List.length_nil, List.head?_cons, Nat.reduceAdd, Nat.reduceLT, Nat.reduceLeDiff, Nat.reduceBEq, Nat.reduceEqDiff, Nat.succ_ne_zero, Nat.zero_lt_succ, Nat.le_refl, sc_rows, kc_lit, nc_lit, wlk_rows, uR_s, uR_uR, true_and, and_true, true_or, or_true, false_or, or_false, and_false, false_and, or_self, and_self, if_true, if_false, Bool.false_eq_true, Bool.or_false, Bool.or_true, Bool.false_or, Bool.true_or, not_true_eq_false, not_false_eq_true, forall_const, true_implies, false_implies, implies_true, reduceIte, reduceCtorEq, tbk hB, tbx hB]
        refine c_register hB hQ hS hL hC hk (by omega) p (fun I1 Q1 a1 a2 a3 a4 a5 => ?_)
        refine wk ((fn0_ok l)) ok_25 30 (fun pc => pc == 52) ?_
        simp only [fn0, kk_25, Option.toList_some, Option.toList_none, ex, catS, vC, isMk, sym, popN, goC, callOK, swL, List.map_cons, List.map_nil, List.replicate_zero, List.replicate_succ, List.append_nil, List.nil_append, List.cons_append, List.getElem?_cons_zero, List.getElem?_cons_succ, List.set_cons_zero, List.set_cons_succ, List.length_cons, List.length_nil, List.head?_cons, Nat.reduceAdd, Nat.reduceLT, Nat.reduceLeDiff, Nat.reduceBEq, Nat.reduceEqDiff, Nat.succ_ne_zero, Nat.zero_lt_succ, Nat.le_refl, sc_rows, kc_lit, nc_lit, wlk_rows, uR_s, uR_uR, true_and, and_true, true_or, or_true, false_or, or_false, and_false, false_and, or_self, and_self, if_true, if_false, Bool.false_eq_true, Bool.or_false, Bool.or_true, Bool.false_or, Bool.true_or, not_true_eq_false, not_false_eq_true, forall_const, true_implies, false_implies, implies_true, reduceIte, reduceCtorEq]
        have hX := LnX.ins hL (show n < 12 by omega) (ftz_n hf)
        exact c_welEnd hB a1 a2 hX a3 hk (by have := insAt_le z p n; omega) rfl (by rw [ins_q z p (by omega), if_neg (by omega)]) p (fun I' a f => h2 rfl I' Q1 _ a1 a2 a (a4.tr f) a5)
  · rw [if_pos g] at h1
    by_cases g1 : p < 0
    · refine wk ((fn0_ok l)) ok_25 30 (fun pc => false) ?_
      simp only [fn0, kk_25, Option.toList_some, Option.toList_none, ex, catS, vC, isMk, sym, popN, goC, callOK, swL, List.map_cons, List.map_nil, List.replicate_zero, List.replicate_succ, List.append_nil, List.nil_append, List.cons_append, List.getElem?_cons_zero, List.getElem?_cons_succ, List.set_cons_zero, List.set_cons_succ, List.length_cons, List.length_nil, List.head?_cons, Nat.reduceAdd, Nat.reduceLT, Nat.reduceLeDiff, Nat.reduceBEq, Nat.reduceEqDiff, Nat.succ_ne_zero, Nat.zero_lt_succ, Nat.le_refl, sc_rows, kc_lit, nc_lit, wlk_rows, uR_s, uR_uR, true_and, and_true, true_or, or_true, false_or, or_false, and_false, false_and, or_self, and_self, if_true, if_false, Bool.false_eq_true, Bool.or_false, Bool.or_true, Bool.false_or, Bool.true_or, not_true_eq_false, not_false_eq_true, forall_const, true_implies, false_implies, implies_true, reduceIte, reduceCtorEq, g1]
      exact h1 (by decide)
    · have g2 : ¬ p ≤ 999 := fun q => g ⟨Int32.not_lt.mp g1, q⟩
      refine wk ((fn0_ok l)) ok_25 30 (fun pc => false) ?_
      simp only [fn0, kk_25, Option.toList_some, Option.toList_none, ex, catS, vC, isMk, sym, popN, goC, callOK, swL, List.map_cons, List.map_nil, List.replicate_zero, List.replicate_succ, List.append_nil, List.nil_append, List.cons_append, List.getElem?_cons_zero, List.getElem?_cons_succ, List.set_cons_zero, List.set_cons_succ, List.length_cons, List.length_nil, List.head?_cons, Nat.reduceAdd, Nat.reduceLT, Nat.reduceLeDiff, Nat.reduceBEq, Nat.reduceEqDiff, Nat.succ_ne_zero, Nat.zero_lt_succ, Nat.le_refl, sc_rows, kc_lit, nc_lit, wlk_rows, uR_s, uR_uR, true_and, and_true, true_or, or_true, false_or, or_false, and_false, false_and, or_self, and_self, if_true, if_false, Bool.false_eq_true, Bool.or_false, Bool.or_true, Bool.false_or, Bool.true_or, not_true_eq_false, not_false_eq_true, forall_const, true_implies, false_implies, implies_true, reduceIte, reduceCtorEq, eq_false g1, eq_false g2]
      exact h1 (by decide)
end F1

