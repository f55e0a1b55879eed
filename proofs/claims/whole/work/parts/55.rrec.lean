/-! the reference: its past -/
section D7
variable {l : Launch} {L : Nat} {I : Nat → Nat → Int32} {Q : Nat → Nat → Option Nat} {P : Option Value → PH → Prop}
def shP (f : Nat → Int32) (i : Nat) : Nat → Int32 := fun j => if j < i then f (j + 228) else f j
theorem shP_0 (f : Nat → Int32) : shP f 0 = f := by
  funext j
  simp [shP]
theorem shP_step (f : Nat → Int32) (i : Nat) : upd (shP f i) i (shP f i (i + 228)) = shP f (i + 1) := by
  funext j
  simp only [upd, shP]
  by_cases e : j = i
  · rw [if_pos e, if_neg (by omega), if_pos (by omega), e]
  · rw [if_neg e]
    by_cases h : j < i
    · rw [if_pos h, if_pos (by omega)]
    · rw [if_neg h, if_neg (by omega)]
/-- the past with one state more -/
def recP (f row : Nat → Int32) (a : Nat) : Nat → Int32 := if a = 4 then va_cpy row (shP f 684) 0 684 228 else va_cpy row f 0 (228 * a) 228
theorem rq (L : Nat) : KC 149 = 6 ∧ KC 150 = 7 ∧ KC 151 = 7 ∧ KC 152 = 7 ∧ KC 153 = 7 ∧ NC L 150 = 228 ∧ NC L 151 = 228 ∧ NC L 152 = 912 ∧ NC L 153 = 228 := ⟨rfl, rfl, rfl, rfl, rfl, rfl, rfl, rfl, rfl⟩
theorem nI_m228 (a : Nat) : (228 : Int32) * nI a = nI (228 * a) := by rw [show (228 : Int32) = nI 228 from rfl, pk_mul]
set_option maxRecDepth 100000 in
theorem r_recordRow (hQ : QM Q) {a r : Nat} (hr : r = 150 ∨ r = 151) (ha : a ≤ 4) (e1 : I 149 3 = nI a) (h1 : ∀ I', I' 152 = recP (I 152) (I r) a → I' 149 = upd (I 149) 3 (nI (aSt a)) → (∀ p, p ≠ 152 → p ≠ 149 → I' p = I p) → P none (SC L, I', Q)) : Runs l 91 [.ref 149, .ref r] (SC L, I, Q) P := by
  have hk : KC r = 7 ∧ r < 156 ∧ NC L r = 228 ∧ r ≠ 152 ∧ r ≠ 149 := by rcases hr with rfl | rfl <;> exact ⟨rfl, by omega, rfl, by omega, by omega⟩
  refine run0 (n := 1) mok_91 ⟨rfl, rfl⟩ rfl ?_
  by_cases g : a = 4
  · subst g
    have ea : aSt 4 = 4 := rfl
    have e4 : I 149 3 = 4 := e1
    have loop : ∀ c i, i + c = 684 → Sy l 91 (156, 3525) 10 [some (.ref 149), some (.ref r), some (.int (nI i))] [] (SC L, uR I 152 (shP (I 152) i), Q) P := by
      intro c
      induction c with
      | zero =>
        intro i hi
        have : i = 684 := by omega
        subst this
        have u9 : ∀ g : Nat → Int32, uR I 152 g 149 = I 149 := fun g => uR_n _ _ (by omega)
        refine wk ((fn0_ok l)) ok_91 40 (fun pc => pc == 10) ?_
        simp only [fn0, kk_91, Option.toList_some, Option.toList_none, ex, sym, popN, goC, callOK, swL, List.map_cons, List.map_nil, List.replicate_zero, List.replicate_succ, List.append_nil, List.nil_append, List.cons_append, List.getElem?_cons_zero, List.getElem?_cons_succ, List.set_cons_zero, List.set_cons_succ, List.length_cons, List.length_nil, List.head?_cons, Nat.reduceAdd, Nat.reduceLT, Nat.reduceLeDiff, Nat.reduceBEq, Nat.reduceEqDiff, Nat.succ_ne_zero, Nat.zero_lt_succ, Nat.le_refl, sc_rows, kc_lit, nc_lit, wlk_rows, uR_s, uR_uR, true_and, and_true, true_or, or_true, false_or, or_false, and_false, false_and, or_self, and_self, if_true, if_false, Bool.false_eq_true, Bool.or_false, Bool.or_true, Bool.false_or, Bool.true_or, not_true_eq_false, not_false_eq_true, forall_const, true_implies, false_implies, implies_true, reduceIte, reduceCtorEq, show nI 684 = (684 : Int32) from rfl, Int32.le_refl, rq L, hQ.2.2.1, u9, e4, show (4 : Int32) - 1 = 3 by decide, uR_s, upd_e, show (228 : Int32) * 3 = nI 684 from rfl]
        refine r_copyState (s := 0) (d := 684) ⟨hk.1, hk.2.1⟩ ⟨rfl, by omega⟩ hk.2.2.2.1 (by rw [hk.2.2.1]; omega) (by rw [(rq L).2.2.2.2.2.2.2.1]; omega) (by rw [hk.2.2.1]; omega) (by rw [(rq L).2.2.2.2.2.2.2.1]; omega) ?_
        have u8 : ∀ (f : Nat → Nat → Int32) (g : Nat → Int32), uR f 152 g 149 = f 149 := fun f g => uR_n _ _ (by omega)
        have u7 : ∀ (f : Nat → Nat → Int32) (g : Nat → Int32), uR f 149 g 152 = f 152 := fun f g => uR_n _ _ (by omega)
        refine wk ((fn0_ok l)) ok_91 40 (fun pc => pc == 10) ?_
        simp only [fn0, kk_91, Option.toList_some, Option.toList_none, ex, sym, popN, goC, callOK, swL, List.map_cons, List.map_nil, List.replicate_zero, List.replicate_succ, List.append_nil, List.nil_append, List.cons_append, List.getElem?_cons_zero, List.getElem?_cons_succ, List.set_cons_zero, List.set_cons_succ, List.length_cons, List.length_nil, List.head?_cons, Nat.reduceAdd, Nat.reduceLT, Nat.reduceLeDiff, Nat.reduceBEq, Nat.reduceEqDiff, Nat.succ_ne_zero, Nat.zero_lt_succ, Nat.le_refl, sc_rows, kc_lit, nc_lit, wlk_rows, uR_s, uR_uR, true_and, and_true, true_or, or_true, false_or, or_false, and_false, false_and, or_self, and_self, if_true, if_false, Bool.false_eq_true, Bool.or_false, Bool.or_true, Bool.false_or, Bool.true_or, not_true_eq_false, not_false_eq_true, forall_const, true_implies, false_implies, implies_true, reduceIte, reduceCtorEq, rq L, uR_s, upd_e, u8, u7, show (3 : Int32) + 1 = 4 by decide]
        refine h1 _ ?_ ?_ (fun p hp hp2 => ?_)
        · rw [u7, uR_s, uR_n _ _ hk.2.2.2.2, uR_n _ _ hk.2.2.2.1]; rfl
        · rw [uR_s, ea, upd_upd]; rfl
        · rw [uR_n _ _ hp2, uR_n _ _ hp, uR_n _ _ hp2, uR_n _ _ hp]
      | succ c ih =>
        intro i hi
        have := ih (i + 1) (by omega)
        rw [← shP_step] at this
        have e684 : ((684 : Int32) ≤ nI i) = False := by rw [show (684 : Int32) = nI 684 from rfl]; exact leF (by omega) (by omega)
        refine wk ((fn0_ok l)) ok_91 40 (fun pc => pc == 10) ?_
        simp only [fn0, kk_91, Option.toList_some, Option.toList_none, ex, sym, popN, goC, callOK, swL, List.map_cons, List.map_nil, List.replicate_zero, List.replicate_succ, List.append_nil, List.nil_append, List.cons_append, List.getElem?_cons_zero, List.getElem?_cons_succ, List.set_cons_zero, List.set_cons_succ, List.length_cons, List.length_nil, List.head?_cons, Nat.reduceAdd, Nat.reduceLT, Nat.reduceLeDiff, Nat.reduceBEq, Nat.reduceEqDiff, Nat.succ_ne_zero, Nat.zero_lt_succ, Nat.le_refl, sc_rows, kc_lit, nc_lit, wlk_rows, uR_s, uR_uR, true_and, and_true, true_or, or_true, false_or, or_false, and_false, false_and, or_self, and_self, if_true, if_false, Bool.false_eq_true, Bool.or_false, Bool.or_true, Bool.false_or, Bool.true_or, not_true_eq_false, not_false_eq_true, forall_const, true_implies, false_implies, implies_true, reduceIte, reduceCtorEq, e684, rq L, hQ.2.2.1, uR_s, show nI i + 228 = nI (i + 228) from nI_add i 228, ixp (show i < 912 by omega) (by omega), ixp (show i + 228 < 912 by omega) (by omega), nI_up]
        exact this
    refine wk ((fn0_ok l)) ok_91 40 (fun pc => pc == 10) ?_
    simp only [fn0, kk_91, Option.toList_some, Option.toList_none, ex, sym, popN, goC, callOK, swL, List.map_cons, List.map_nil, List.replicate_zero, List.replicate_succ, List.append_nil, List.nil_append, List.cons_append, List.getElem?_cons_zero, List.getElem?_cons_succ, List.set_cons_zero, List.set_cons_succ, List.length_cons, List.length_nil, List.head?_cons, Nat.reduceAdd, Nat.reduceLT, Nat.reduceLeDiff, Nat.reduceBEq, Nat.reduceEqDiff, Nat.succ_ne_zero, Nat.zero_lt_succ, Nat.le_refl, sc_rows, kc_lit, nc_lit, wlk_rows, uR_s, uR_uR, true_and, and_true, true_or, or_true, false_or, or_false, and_false, false_and, or_self, and_self, if_true, if_false, Bool.false_eq_true, Bool.or_false, Bool.or_true, Bool.false_or, Bool.true_or, not_true_eq_false, not_false_eq_true, forall_const, true_implies, false_implies, implies_true, reduceIte, reduceCtorEq, rq L, e4]
    have := loop 684 0 (by omega)
    rw [shP_0, uR_self] at this
    exact this
  · have e4 : (nI a = 4) = False := by rw [show (4 : Int32) = nI 4 from rfl]; exact eqF g (by omega) (by omega)
    have ea : aSt a = a + 1 := by unfold aSt; rw [if_neg g]
    refine wk ((fn0_ok l)) ok_91 40 (fun pc => false) ?_
    simp only [fn0, kk_91, Option.toList_some, Option.toList_none, ex, sym, popN, goC, callOK, swL, List.map_cons, List.map_nil, List.replicate_zero, List.replicate_succ, List.append_nil, List.nil_append, List.cons_append, List.getElem?_cons_zero, List.getElem?_cons_succ, List.set_cons_zero, List.set_cons_succ, List.length_cons, List.length_nil, List.head?_cons, Nat.reduceAdd, Nat.reduceLT, Nat.reduceLeDiff, Nat.reduceBEq, Nat.reduceEqDiff, Nat.succ_ne_zero, Nat.zero_lt_succ, Nat.le_refl, sc_rows, kc_lit, nc_lit, wlk_rows, uR_s, uR_uR, true_and, and_true, true_or, or_true, false_or, or_false, and_false, false_and, or_self, and_self, if_true, if_false, Bool.false_eq_true, Bool.or_false, Bool.or_true, Bool.false_or, Bool.true_or, not_true_eq_false, not_false_eq_true, forall_const, true_implies, false_implies, implies_true, reduceIte, reduceCtorEq, rq L, e1, e4, hQ.2.2.1, nI_m228]
    refine r_copyState (s := 0) (d := 228 * a) ⟨hk.1, hk.2.1⟩ ⟨rfl, by omega⟩ hk.2.2.2.1 (by rw [hk.2.2.1]; omega) (by rw [(rq L).2.2.2.2.2.2.2.1]; omega) (by rw [hk.2.2.1]; omega) (by rw [(rq L).2.2.2.2.2.2.2.1]; omega) ?_
    have u9 : ∀ g : Nat → Int32, uR I 152 g 149 = I 149 := fun g => uR_n _ _ (by omega)
    refine wk ((fn0_ok l)) ok_91 40 (fun pc => false) ?_
    simp only [fn0, kk_91, Option.toList_some, Option.toList_none, ex, sym, popN, goC, callOK, swL, List.map_cons, List.map_nil, List.replicate_zero, List.replicate_succ, List.append_nil, List.nil_append, List.cons_append, List.getElem?_cons_zero, List.getElem?_cons_succ, List.set_cons_zero, List.set_cons_succ, List.length_cons, List.length_nil, List.head?_cons, Nat.reduceAdd, Nat.reduceLT, Nat.reduceLeDiff, Nat.reduceBEq, Nat.reduceEqDiff, Nat.succ_ne_zero, Nat.zero_lt_succ, Nat.le_refl, sc_rows, kc_lit, nc_lit, wlk_rows, uR_s, uR_uR, true_and, and_true, true_or, or_true, false_or, or_false, and_false, false_and, or_self, and_self, if_true, if_false, Bool.false_eq_true, Bool.or_false, Bool.or_true, Bool.false_or, Bool.true_or, not_true_eq_false, not_false_eq_true, forall_const, true_implies, false_implies, implies_true, reduceIte, reduceCtorEq, rq L, u9, e1, nI_up]
    refine h1 _ ?_ ?_ (fun p hp hp2 => ?_)
    · rw [uR_n _ _ (by omega), uR_s]; unfold recP; rw [if_neg g]
    · rw [uR_s, ea]
    · rw [uR_n _ _ hp2, uR_n _ _ hp]
end D7
