/-! the class: the history -/
section D4
variable {l : Launch} {L : Nat} {I : Nat → Nat → Int32} {Q : Nat → Nat → Option Nat} {P : Option Value → PH → Prop}
theorem in4 : vp_in 0 4 ∧ vp_in 1 4 ∧ vp_in 2 4 ∧ vp_in 3 4 := by unfold vp_in; decide
theorem kH (L : Nat) : KC 61 = 0 ∧ KC 62 = 10 ∧ NC L 62 = 4 := ⟨rfl, rfl, rfl⟩
/-- the four places of the history, once the oldest has gone to the back -/
def rot (f : Nat → Option Nat) (b : Nat → Nat) : Nat → Option Nat := va_up (va_up (va_up (va_up f 0 (some (b 1))) 1 (some (b 2))) 2 (some (b 3))) 3 (some (b 0))
theorem vup_n {α : Type} (f : Nat → α) {i k : Nat} (v : α) (h : k ≠ i) : va_up f i v k = f k := by simp [va_up, h]
set_option maxRecDepth 100000 in
theorem c_dropOldest (b : Nat → Nat) (hq : Q 61 0 = some 62) (e4 : I 61 1 = 4) (hb : ∀ i, i < 4 → Q 62 i = some (b i) ∧ KC (b i) = 4 ∧ b i < 149) (h1 : P none (SC L, uR I 61 (upd (I 61) 1 3), uR Q 62 (rot (Q 62) b))) : Runs l 3 [.ref 61] (SC L, I, Q) P := by
  refine run0 (n := 2) mok_3 ⟨rfl, rfl⟩ rfl ?_
  have a : ((1 : Int32) + 1 = 2) ∧ ((2 : Int32) + 1 = 3) ∧ ((3 : Int32) + 1 = 4) ∧ ((1 : Int32) - 1 = 0) ∧ ((2 : Int32) - 1 = 1) ∧ ((3 : Int32) - 1 = 2) ∧ (((4 : Int32) ≤ 1) = False) ∧ (((4 : Int32) ≤ 2) = False) ∧ (((4 : Int32) ≤ 3) = False) ∧ (((4 : Int32) ≤ 4) = True) := by decide
  have u1 : ∀ (f : Nat → Option Nat) v, va_up f 0 v 2 = f 2 := fun f v => vup_n f v (by omega)
  have u2 : ∀ (f : Nat → Option Nat) v, va_up f 1 v 3 = f 3 := fun f v => vup_n f v (by omega)
  have u3 : ∀ (f : Nat → Option Nat) v, va_up f 0 v 3 = f 3 := fun f v => vup_n f v (by omega)
  have ur : ∀ (f : Nat → Nat → Option Nat) g, uR f 62 g 61 = f 61 := fun f g => uR_n _ _ (by omega)
  have b0 := hb 0 (by omega)
  have b1 := hb 1 (by omega)
  have b2' := hb 2 (by omega)
  have b3 := hb 3 (by omega)
  refine wk ((fn0_ok l)) ok_3 120 (fun pc => false) ?_
  simp only [fn0, kk_3, Option.toList_some, Option.toList_none, ex, catS, vC, isMk, sym, popN, goC, callOK, swL, List.map_cons, List.map_nil, List.replicate_zero, List.replicate_succ, List.append_nil, List.nil_append, List.cons_append, List.getElem?_cons_zero, List.getElem?_cons_succ, List.set_cons_zero, List.set_cons_succ, List.length_cons, List.length_nil, List.head?_cons, Nat.reduceAdd, Nat.reduceLT, Nat.reduceLeDiff, Nat.reduceBEq, Nat.reduceEqDiff, Nat.succ_ne_zero, Nat.zero_lt_succ, Nat.le_refl, sc_rows, kc_lit, nc_lit, wlk_rows, uR_s, uR_uR, true_and, and_true, true_or, or_true, false_or, or_false, and_false, false_and, or_self, and_self, if_true, if_false, Bool.false_eq_true, Bool.or_false, Bool.or_true, Bool.false_or, Bool.true_or, not_true_eq_false, not_false_eq_true, forall_const, true_implies, false_implies, implies_true, reduceIte, reduceCtorEq, kH L, in4, cl_lit, hq, e4, ur, show (4 : Int32) - 1 = 3 by decide, a, u1, u2, u3, b0, b1, b2', b3]
  exact h1
end D4

