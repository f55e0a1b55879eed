/-! the class: copying a town -/
section D3
variable {l : Launch} {L : Nat} {I : Nat → Nat → Int32} {Q : Nat → Nat → Option Nat} {P : Option Value → PH → Prop}
/-- the rows of the taxis copied -/
def cpT (I : Nat → Nat → Int32) (B : Nat) (σ : Nat → Nat) (C : Nat) (τ : Nat → Nat) : Nat → (Nat → Nat → Int32)
  | 0 => I
  | i + 1 => uR (cpT I B σ C τ i) (B + 2 + σ i) (cpN (cpT I B σ C τ i (C + 2 + τ i)) (cpT I B σ C τ i (B + 2 + σ i)) 12)
theorem cpT_o {B C : Nat} {σ τ : Nat → Nat} (hs : ∀ i, i < 12 → σ i < 12) : ∀ i, i ≤ 12 → ∀ p, (p < B + 2 ∨ B + 14 ≤ p) → cpT I B σ C τ i p = I p := by
  intro i
  induction i with
  | zero => intro _ p _; rfl
  | succ i ih =>
    intro hi p hp
    have := hs i (by omega)
    simp only [cpT]
    rw [uR_n _ _ (by omega)]
    exact ih (by omega) p hp
theorem cpT_t {B C : Nat} {σ τ : Nat → Nat} (hs : (∀ i, i < 12 → σ i < 12) ∧ ∀ i j, i < 12 → j < 12 → σ i = σ j → i = j) (ht : ∀ i, i < 12 → τ i < 12) (hne : B + 20 ≤ C ∨ C + 20 ≤ B) : ∀ i, i ≤ 12 → ∀ j, j < i → ∀ u, u < 12 → cpT I B σ C τ i (B + 2 + σ j) u = I (C + 2 + τ j) u := by
  intro i
  induction i with
  | zero => intro _ j hj; omega
  | succ i ih =>
    intro hi j hj u hu
    have h1 := hs.1 i (by omega)
    have h2 := ht i (by omega)
    simp only [cpT]
    by_cases q : j = i
    · subst q
      rw [uR_s]
      simp only [cpN]
      rw [if_pos hu, cpT_o hs.1 j (by omega) _ (by omega)]
    · rw [uR_n _ _ (fun e => q (hs.2 j i (by omega) (by omega) (by omega)))]
      exact ih (by omega) j (by omega) u hu
def CPY (I I' : Nat → Nat → Int32) (B C : Nat) : Prop := ((I' B 1 = I C 1 ∧ I' B 3 = I C 3) ∧ (I' B 6 = I C 6 ∧ I' B 7 = I C 7 ∧ I' B 8 = I C 8 ∧ I' B 9 = I C 9 ∧ I' B 10 = I C 10 ∧ I' B 11 = I C 11)) ∧ (∀ j, j < 12 → I' (B + 14) j = I (C + 14) j) ∧ (∀ j, j < 5 → I' (B + 19) j = I (C + 19) j) ∧ (I' (B + 15) 0 = I (C + 15) 0 ∧ I' (B + 15) 4 = I (C + 15) 4) ∧ (∀ j, j < 15 → I' (B + 16) j = I (C + 16) j ∧ I' (B + 17) j = I (C + 17) j ∧ I' (B + 18) j = I (C + 18) j) ∧ ∀ p, (p < B ∨ B < p ∧ p < B + 14 ∨ B + 20 ≤ p) → I' p = I p
set_option maxRecDepth 100000 in
theorem c_copyRest {B C : Nat} {a2 : Option Value} (hB : TB B) (hC : TB C) (hne : B ≠ C) (hQ : QT0 Q B) (hQC : QT0 Q C) (h1 : ∀ I', CPY I I' B C → P none (SC L, I', Q)) : Sy l 21 (149, 1788) 29 [some (.ref B), some (.ref C), a2] [] (SC L, I, Q) P := by
  have c12 : ¬ (12 : Int32) < 0 ∧ ((12 : Int32).toNatClampNeg = 12) := by decide
  have c5 : ¬ (5 : Int32) < 0 ∧ ((5 : Int32).toNatClampNeg = 5) := by decide
  have c0 : ¬ (0 : Int32) < 0 ∧ ((0 : Int32).toNatClampNeg = 0) := by decide
  refine wk ((fn0_ok l)) ok_21 60 (fun pc => false) ?_
  simp only [fn0, kk_21, Option.toList_some, Option.toList_none, ex, catS, vC, isMk, sym, popN, goC, callOK, swL, List.map_cons, List.map_nil, List.replicate_zero, List.replicate_succ, List.append_nil, List.nil_append, List.cons_append, List.getElem?_cons_zero, List.getElem?_cons_succ, List.set_cons_zero, List.set_cons_succ, List.length_cons, List.length_nil, List.head?_cons, Nat.reduceAdd, Nat.reduceLT, Nat.reduceLeDiff, Nat.reduceBEq, Nat.reduceEqDiff, Nat.succ_ne_zero, Nat.zero_lt_succ, Nat.le_refl, sc_rows, kc_lit, nc_lit, wlk_rows, uR_s, uR_uR, true_and, and_true, true_or, or_true, false_or, or_false, and_false, false_and, or_self, and_self, if_true, if_false, Bool.false_eq_true, Bool.or_false, Bool.or_true, Bool.false_or, Bool.true_or, not_true_eq_false, not_false_eq_true, forall_const, true_implies, false_implies, implies_true, reduceIte, reduceCtorEq, tbk hB, tbx hB, tbn L hB, tbk hC, tbx hC, tbn L hC, qt hQ, qt hQC, rws B (show 0 < 12 by omega), rwx (tb_ne hB hC hne), va_cpy0, c12, c0, Nat.zero_add, Nat.le_refl]
  refine c_copyQueue hB hC hne hQ hQC ?_
  refine wk ((fn0_ok l)) ok_21 60 (fun pc => false) ?_
  simp only [fn0, kk_21, Option.toList_some, Option.toList_none, ex, catS, vC, isMk, sym, popN, goC, callOK, swL, List.map_cons, List.map_nil, List.replicate_zero, List.replicate_succ, List.append_nil, List.nil_append, List.cons_append, List.getElem?_cons_zero, List.getElem?_cons_succ, List.set_cons_zero, List.set_cons_succ, List.length_cons, List.length_nil, List.head?_cons, Nat.reduceAdd, Nat.reduceLT, Nat.reduceLeDiff, Nat.reduceBEq, Nat.reduceEqDiff, Nat.succ_ne_zero, Nat.zero_lt_succ, Nat.le_refl, sc_rows, kc_lit, nc_lit, wlk_rows, uR_s, uR_uR, true_and, and_true, true_or, or_true, false_or, or_false, and_false, false_and, or_self, and_self, if_true, if_false, Bool.false_eq_true, Bool.or_false, Bool.or_true, Bool.false_or, Bool.true_or, not_true_eq_false, not_false_eq_true, forall_const, true_implies, false_implies, implies_true, reduceIte, reduceCtorEq, tbk hB, tbx hB, tbn L hB, tbk hC, tbx hC, tbn L hC, qt hQ, qt hQC, rws B (show 0 < 12 by omega), rwx (tb_ne hB hC hne), va_cpy0, show Int32.ofNat 5 = (5 : Int32) from rfl, c5, c0, Nat.zero_add, Nat.le_refl]
  have rb := rws B (show 0 < 12 by omega)
  refine h1 _ ⟨⟨⟨?_, ?_⟩, ⟨?_, ?_, ?_, ?_, ?_, ?_⟩⟩, fun j hj => ?_, fun j hj => ?_, ⟨?_, ?_⟩, fun j hj => ⟨?_, ?_, ?_⟩, fun p hp => ?_⟩
  · simp only [uR_s]; simp [upd]
  · simp only [uR_s]; simp [upd]
  · simp only [uR_s]; simp [upd]
  · simp only [uR_s]; simp [upd]
  · simp only [uR_s]; simp [upd]
  · simp only [uR_s]; simp [upd]
  · simp only [uR_s]; simp [upd]
  · simp only [uR_s]; simp [upd]
  · simp only [rb, uR_s, cpN, if_pos hj]
  · simp only [rb, uR_s, cpN, if_pos hj]
  · simp only [rb, uR_s]; simp [upd]
  · simp only [rb, uR_s]; simp [upd]
  · simp only [rb, uR_s, cpN, if_pos hj]
  · simp only [rb, uR_s, cpN, if_pos hj]
  · simp only [rb, uR_s, cpN, if_pos hj]
  · repeat rw [uR_n _ _ (by omega)]
variable {B C : Nat} {σ τ : Nat → Nat} {z : Nat → Int32} {n m k : Nat}
theorem CA.bits (hC : CA I C τ z n m k) (hW : ∀ i, i < n → TxW z i) (j : Nat) (hj : j < 12) : (I (C + 2 + τ j) 8 = 0 ∨ I (C + 2 + τ j) 8 = 1) ∧ (I (C + 2 + τ j) 9 = 0 ∨ I (C + 2 + τ j) 9 = 1) := by
  by_cases h : j < n
  · have t := hC.tx h
    obtain ⟨-, -, w3, w4, -, -⟩ := hW j h
    rw [t.2.2.2.2.2.2.2.2.1, t.2.2.2.2.2.2.2.2.2.1]
    exact ⟨w3, w4⟩
  · exact ⟨Or.inl (hC.2.2.1 j (by omega) hj 8 (by omega)), Or.inl (hC.2.2.1 j (by omega) hj 9 (by omega))⟩
set_option maxRecDepth 100000 in
theorem c_copyTown (hB : TB B) (hTC : TB C) (hne : B ≠ C) (hQ : QT0 Q B) (hQC : QT0 Q C) (hS : QS Q B σ) (hSC : QS Q C τ) (hC : CA I C τ z n m k) (hW : ∀ i, i < n → TxW z i) (hn : n ≤ 12) (hm : m ≤ 12) (hk : k ≤ 15) (h1 : ∀ I', CA I' B σ z n m k → Fr I I' B → P none (SC L, I', Q)) : Runs l 21 [.ref B, .ref C] (SC L, I, Q) P := by
  have hd := tb_ne hB hTC hne
  have loop : ∀ d i, i + d = 12 → Sy l 21 (149, 1788) 2 [some (.ref B), some (.ref C), some (.int (nI i))] [] (SC L, cpT I B σ C τ i, Q) P := by
    intro d
    induction d with
    | zero =>
      intro i hi
      have : i = 12 := by omega
      subst this
      refine wk ((fn0_ok l)) ok_21 30 (fun pc => pc == 29) ?_
      simp only [fn0, kk_21, Option.toList_some, Option.toList_none, ex, catS, vC, isMk, sym, popN, goC, callOK, swL, List.map_cons, List.map_nil, List.replicate_zero, List.replicate_succ, List.append_nil, List.nil_append, List.cons_append, List.getElem?_cons_zero, List.getElem?_cons_succ, List.set_cons_zero, List.set_cons_succ, List.length_cons, List.length_nil, List.head?_cons, Nat.reduceAdd, Nat.reduceLT, Nat.reduceLeDiff, Nat.reduceBEq, Nat.reduceEqDiff, Nat.succ_ne_zero, Nat.zero_lt_succ, Nat.le_refl, sc_rows, kc_lit, nc_lit, wlk_rows, uR_s, uR_uR, true_and, and_true, true_or, or_true, false_or, or_false, and_false, false_and, or_self, and_self, if_true, if_false, Bool.false_eq_true, Bool.or_false, Bool.or_true, Bool.false_or, Bool.true_or, not_true_eq_false, not_false_eq_true, forall_const, true_implies, false_implies, implies_true, reduceIte, reduceCtorEq, show nI 12 = (12 : Int32) from rfl, Int32.le_refl]
      refine c_copyRest hB hTC hne hQ hQC (fun I' hc => h1 I' ?_ (fun p hp => ?_))
      · obtain ⟨⟨⟨a1, a2⟩, ⟨b6, b7, b8, b9, b10, b11⟩⟩, c, d, ⟨e0, e4⟩, f, g⟩ := hc
        have co : ∀ p, (p < B + 2 ∨ B + 14 ≤ p) → cpT I B σ C τ 12 p = I p := cpT_o hS.2.1 12 (by omega)
        have ct : ∀ j, j < 12 → ∀ u, u < 12 → I' (B + 2 + σ j) u = I (C + 2 + τ j) u := fun j hj u hu => by
          have := hS.2.1 j hj
          rw [g _ (by omega)]
          exact cpT_t hS.2 hSC.2.1 hd 12 (by omega) j hj u hu
        have w := hC.tw
        refine ⟨⟨⟨?_, ?_⟩, fun u h1 h2 => ?_⟩, fun j hj u hu => ?_, fun j h1 h2 u hu => ?_, fun j hj => ?_, fun j hj => ?_, ⟨?_, ?_⟩, fun r hr => ?_⟩
        · rw [a1, co _ (by omega)]; exact w.1
        · rw [a2, co _ (by omega)]; exact w.2.1
        · have key : I' B u = I C u := by
            rw [← co C (by omega)]
            have : u = 6 ∨ u = 7 ∨ u = 8 ∨ u = 9 ∨ u = 10 ∨ u = 11 := by omega
            rcases this with rfl | rfl | rfl | rfl | rfl | rfl
            · exact b6
            · exact b7
            · exact b8
            · exact b9
            · exact b10
            · exact b11
          rw [key]; exact hC.1.2 u h1 h2
        · rw [ct j (by omega) u hu]; exact hC.2.1 j hj u hu
        · rw [ct j h2 u hu]; exact hC.2.2.1 j h1 h2 u hu
        · rw [c j (by omega), co _ (by omega)]; exact hC.2.2.2.1 j hj
        · rw [d j hj, co _ (by omega)]; exact hC.2.2.2.2.1 j hj
        · rw [e0, co _ (by omega)]; exact hC.2.2.2.2.2.1.1
        · rw [e4, co _ (by omega)]; exact hC.2.2.2.2.2.1.2
        · obtain ⟨f1, f2, f3⟩ := f r (by omega)
          rw [f1, f2, f3, co _ (by omega), co _ (by omega), co _ (by omega)]
          exact hC.2.2.2.2.2.2 r hr
      · rw [hc.2.2.2.2.2 p (by omega), cpT_o hS.2.1 12 (by omega) p (by omega)]
    | succ d ih =>
      intro i hi
      have hs := hS.2.1 i (by omega)
      have ht := hSC.2.1 i (by omega)
      have e12 : ((12 : Int32) ≤ nI i) = False := by rw [show (12 : Int32) = nI 12 from rfl]; exact leF (by omega) (by omega)
      have eC : cpT I B σ C τ i (C + 2 + τ i) = I (C + 2 + τ i) := cpT_o hS.2.1 i (by omega) _ (by omega)
      refine wk ((fn0_ok l)) ok_21 30 (fun pc => false) ?_
      simp only [fn0, kk_21, Option.toList_some, Option.toList_none, ex, catS, vC, isMk, sym, popN, goC, callOK, swL, List.map_cons, List.map_nil, List.replicate_zero, List.replicate_succ, List.append_nil, List.nil_append, List.cons_append, List.getElem?_cons_zero, List.getElem?_cons_succ, List.set_cons_zero, List.set_cons_succ, List.length_cons, List.length_nil, List.head?_cons, Nat.reduceAdd, Nat.reduceLT, Nat.reduceLeDiff, Nat.reduceBEq, Nat.reduceEqDiff, Nat.succ_ne_zero, Nat.zero_lt_succ, Nat.le_refl, sc_rows, kc_lit, nc_lit, wlk_rows, uR_s, uR_uR, true_and, and_true, true_or, or_true, false_or, or_false, and_false, false_and, or_self, and_self, if_true, if_false, Bool.false_eq_true, Bool.or_false, Bool.or_true, Bool.false_or, Bool.true_or, not_true_eq_false, not_false_eq_true, forall_const, true_implies, false_implies, implies_true, reduceIte, reduceCtorEq, tbk hB, tbx hB, tbn L hB, tbk hTC, tbx hTC, tbn L hTC, qt hQ, qt hQC, e12, ixp (show i < 12 by omega) (by omega), hS.1 i (by omega), hSC.1 i (by omega), tbt hB hs, tbt hTC ht]
      have eb := hC.bits hW i (by omega)
      rw [← eC] at eb
      refine c_copyTaxi (I := cpT I B σ C τ i) (tbt hB hs) (tbt hTC ht) (by omega) eb.1 eb.2 ?_
      refine wk ((fn0_ok l)) ok_21 30 (fun pc => pc == 2) ?_
      simp only [fn0, kk_21, Option.toList_some, Option.toList_none, ex, catS, vC, isMk, sym, popN, goC, callOK, swL, List.map_cons, List.map_nil, List.replicate_zero, List.replicate_succ, List.append_nil, List.nil_append, List.cons_append, List.getElem?_cons_zero, List.getElem?_cons_succ, List.set_cons_zero, List.set_cons_succ, List.length_cons, List.length_nil, List.head?_cons, Nat.reduceAdd, Nat.reduceLT, Nat.reduceLeDiff, Nat.reduceBEq, Nat.reduceEqDiff, Nat.succ_ne_zero, Nat.zero_lt_succ, Nat.le_refl, sc_rows, kc_lit, nc_lit, wlk_rows, uR_s, uR_uR, true_and, and_true, true_or, or_true, false_or, or_false, and_false, false_and, or_self, and_self, if_true, if_false, Bool.false_eq_true, Bool.or_false, Bool.or_true, Bool.false_or, Bool.true_or, not_true_eq_false, not_false_eq_true, forall_const, true_implies, false_implies, implies_true, reduceIte, reduceCtorEq, nI_up]
      exact ih (i + 1) (by omega)
  refine run0 (n := 1) mok_21 ⟨rfl, rfl⟩ rfl ?_
  refine wk ((fn0_ok l)) ok_21 30 (fun pc => pc == 2) ?_
  simp only [fn0, kk_21, Option.toList_some, Option.toList_none, ex, catS, vC, isMk, sym, popN, goC, callOK, swL, List.map_cons, List.map_nil, List.replicate_zero, List.replicate_succ, List.append_nil, List.nil_append, List.cons_append, List.getElem?_cons_zero, List.getElem?_cons_succ, List.set_cons_zero, List.set_cons_succ, List.length_cons, List.length_nil, List.head?_cons, Nat.reduceAdd, Nat.reduceLT, Nat.reduceLeDiff, Nat.reduceBEq, Nat.reduceEqDiff, Nat.succ_ne_zero, Nat.zero_lt_succ, Nat.le_refl, sc_rows, kc_lit, nc_lit, wlk_rows, uR_s, uR_uR, true_and, and_true, true_or, or_true, false_or, or_false, and_false, false_and, or_self, and_self, if_true, if_false, Bool.false_eq_true, Bool.or_false, Bool.or_true, Bool.false_or, Bool.true_or, not_true_eq_false, not_false_eq_true, forall_const, true_implies, false_implies, implies_true, reduceIte, reduceCtorEq]
  exact loop 12 0 (by omega)
end D3

