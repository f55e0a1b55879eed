/-! the class: its small methods, as functions of the cells -/
def TB (B : Nat) : Prop := B = 1 ∨ B = 21 ∨ B = 41 ∨ B = 63 ∨ B = 83 ∨ B = 103 ∨ B = 123
theorem tbk {B : Nat} (h : TB B) : KC B = 4 ∧ KC (B + 1) = 9 ∧ KC (B + 14) = 7 ∧ KC (B + 15) = 2 ∧ KC (B + 16) = 7 ∧ KC (B + 17) = 7 ∧ KC (B + 18) = 7 ∧ KC (B + 19) = 7 := by
  rcases h with rfl | rfl | rfl | rfl | rfl | rfl | rfl <;> decide
theorem tbt {B s : Nat} (h : TB B) (hs : s < 12) : KC (B + 2 + s) = 3 ∧ B + 2 + s < 149 := by
  have key : ∀ s, s < 12 → ∀ B ∈ [1, 21, 41, 63, 83, 103, 123], KC (B + 2 + s) = 3 ∧ B + 2 + s < 149 := by decide
  refine key s hs B ?_
  rcases h with rfl | rfl | rfl | rfl | rfl | rfl | rfl <;> simp
theorem tbn {B : Nat} (L : Nat) (h : TB B) : NC L (B + 1) = 12 ∧ NC L (B + 14) = 12 ∧ NC L (B + 16) = 15 ∧ NC L (B + 17) = 15 ∧ NC L (B + 18) = 15 ∧ NC L (B + 19) = 5 := by
  rcases h with rfl | rfl | rfl | rfl | rfl | rfl | rfl <;> exact ⟨rfl, rfl, rfl, rfl, rfl, rfl⟩
theorem tbl {B : Nat} (h : TB B) : B + 19 < 143 ∧ 0 < B := by
  rcases h with rfl | rfl | rfl | rfl | rfl | rfl | rfl <;> omega
theorem tbx {B : Nat} (h : TB B) : B < 149 ∧ B + 1 < 149 ∧ B + 14 < 149 ∧ B + 15 < 149 ∧ B + 16 < 149 ∧ B + 17 < 149 ∧ B + 18 < 149 ∧ B + 19 < 149 := by have := tbl h; omega
def QT0 (Q : Nat → Nat → Option Nat) (B : Nat) : Prop := Q B 0 = some (B + 1) ∧ Q B 2 = some (B + 14) ∧ Q B 4 = some (B + 15) ∧ Q B 5 = some (B + 19) ∧ Q (B + 15) 1 = some (B + 16) ∧ Q (B + 15) 2 = some (B + 17) ∧ Q (B + 15) 3 = some (B + 18)
def CTh (L : Nat) (h : PH) (B : Nat) : Prop := h.1 = SC L ∧ TB B ∧ QT0 h.2.2 B
theorem CTh_eq (L : Nat) (I : Nat → Nat → Int32) (Q : Nat → Nat → Option Nat) (B : Nat) : CTh L (SC L, I, Q) B = (TB B ∧ QT0 Q B) := by simp [CTh]
def CXh (L : Nat) (h : PH) (p : Nat) : Prop := h.1 = SC L ∧ KC p = 3 ∧ p < 149
theorem CXh_eq (L : Nat) (I : Nat → Nat → Int32) (Q : Nat → Nat → Option Nat) (p : Nat) : CXh L (SC L, I, Q) p = (KC p = 3 ∧ p < 149) := by simp [CXh]
theorem abs_sz (x : Int32) : (if 0 ≤ x then x else 0 - x) = sz32 x := by
  unfold sz32
  by_cases h : 0 ≤ x
  · rw [if_pos h, if_neg (Int32.not_lt.mpr h)]
  · rw [if_neg h, if_pos (Int32.not_le.mp h)]
    exact Int32.zero_sub x
theorem in5 : vp_in 0 5 ∧ vp_in 1 5 ∧ vp_in 2 5 ∧ vp_in 3 5 ∧ vp_in 4 5 := by unfold vp_in; decide
theorem in12 : vp_in 0 12 := by unfold vp_in; decide
abbrev mayR (I : Nat → Nat → Int32) (B p : Nat) : Prop := ¬ irem (I p 0) 10 = irem (I B 6 / 1440) 10 ∧ ¬ I (B + 19) 3 ≤ I p 3
def awayR (I : Nat → Nat → Int32) (p : Nat) : Int32 := if I p 1 = 3 then (if I p 11 < 10 then -(I p 2) else I p 2) else 0
abbrev minR (I : Nat → Nat → Int32) (B p : Nat) (f : Int32) : Int32 := sz32 ((f - 10) * I (B + 19) 0 - awayR I p)
def fC_at (L : Nat) : FN := fun As h => match As with
  | [.ref p] => (CXh L h p, [.int (b2 (h.2.1 p 1 = 1 ∨ h.2.1 p 1 = 2 ∨ h.2.1 p 1 = 3))], h)
  | _ => (False, [], h)
def fC_begin (L : Nat) : FN := fun As h => match As with
  | [.ref p, .int d, .int m] => (CXh L h p, [], (h.1, uR h.2.1 p (upd (upd (h.2.1 p) 1 d) 2 m), h.2.2))
  | _ => (False, [], h)
def fC_place : FN := fun As h => match As with
  | [.int v] => (True, [.int (b2 (0 ≤ v ∧ v ≤ 20))], h)
  | _ => (False, [], h)
def fC_setg (L : Nat) : FN := fun As h => match As with
  | [.int v] => (h.1 = SC L, [.int (b2 (0 ≤ v ∧ v < 5))], h)
  | _ => (False, [], h)
def fC_fare (L : Nat) : FN := fun As h => match As with
  | [.int a, .int b] => (h.1 = SC L, [.int (fare32 a b)], h)
  | _ => (False, [], h)
def fC_stays (L : Nat) : FN := fun As h => match As with
  | [.ref B, .ref p] => (CTh L h B ∧ CXh L h p, [.int (b2 (irem (h.2.1 p 0) 10 = irem (h.2.1 B 6 / 1440) 10))], h)
  | _ => (False, [], h)
def fC_tired (L : Nat) : FN := fun As h => match As with
  | [.ref B, .ref p] => (CTh L h B ∧ CXh L h p, [.int (b2 (h.2.1 (B + 19) 3 ≤ h.2.1 p 3))], h)
  | _ => (False, [], h)
def fC_may (L : Nat) : FN := fun As h => match As with
  | [.ref B, .ref p] => (CTh L h B ∧ CXh L h p, [.int (b2 (mayR h.2.1 B p))], h)
  | _ => (False, [], h)
def fC_long (L : Nat) : FN := fun As h => match As with
  | [.ref B, .int a, .int b] => (CTh L h B, [.int (b2 (h.2.1 (B + 19) 2 ≤ sz32 (b - a)))], h)
  | _ => (False, [], h)
def fC_min (L : Nat) : FN := fun As h => match As with
  | [.ref B, .ref p, .int f] => (CTh L h B ∧ CXh L h p, [.int (minR h.2.1 B p f)], h)
  | _ => (False, [], h)
def fC_near (L : Nat) : FN := fun As h => match As with
  | [.ref B, .null, .null, .int _] => (CTh L h B, [.null], h)
  | [.ref B, .ref p, .null, .int _] => (CTh L h B, [.ref p], h)
  | [.ref B, .null, .ref q, .int _] => (CTh L h B ∧ CXh L h q, [if mayR h.2.1 B q then .ref q else .null], h)
  | [.ref B, .ref p, .ref q, .int f] => (CTh L h B ∧ CXh L h p ∧ CXh L h q, [if mayR h.2.1 B q ∧ minR h.2.1 B q f < minR h.2.1 B p f then .ref q else .ref p], h)
  | _ => (False, [], h)
theorem CTh_of {L : Nat} {h : PH} {B : Nat} (hm : CTh L h B) : h = (SC L, h.2.1, h.2.2) := by rw [← hm.1]
theorem CXh_of {L : Nat} {h : PH} {p : Nat} (hm : CXh L h p) : h = (SC L, h.2.1, h.2.2) := by rw [← hm.1]
section C1
variable {l : Launch} {L : Nat} {I : Nat → Nat → Int32} {Q : Nat → Nat → Option Nat} {P : Option Value → PH → Prop}
set_option maxRecDepth 100000 in
theorem c_at {p : Nat} (hp : KC p = 3 ∧ p < 149) (h1 : P (some (.int (b2 (I p 1 = 1 ∨ I p 1 = 2 ∨ I p 1 = 3)))) (SC L, I, Q)) : Runs l 18 [.ref p] (SC L, I, Q) P := by
  refine run0 (n := 0) mok_18 ⟨rfl, rfl⟩ rfl ?_
  refine wk ((fn0_ok l)) ok_18 30 (fun pc => false) ?_
  simp only [fn0, kk_18, Option.toList_some, Option.toList_none, ex, catS, vC, isMk, sym, popN, goC, callOK, swL, List.map_cons, List.map_nil, List.replicate_zero, List.replicate_succ, List.append_nil, List.nil_append, List.cons_append, List.getElem?_cons_zero, List.getElem?_cons_succ, List.set_cons_zero, List.set_cons_succ, List.length_cons, List.length_nil, List.head?_cons, Nat.reduceAdd, Nat.reduceLT, Nat.reduceLeDiff, Nat.reduceBEq, Nat.reduceEqDiff, Nat.succ_ne_zero, Nat.zero_lt_succ, Nat.le_refl, sc_rows, kc_lit, nc_lit, wlk_rows, uR_s, uR_uR, true_and, and_true, true_or, or_true, false_or, or_false, and_false, false_and, or_self, and_self, if_true, if_false, Bool.false_eq_true, Bool.or_false, Bool.or_true, Bool.false_or, Bool.true_or, not_true_eq_false, not_false_eq_true, forall_const, true_implies, false_implies, implies_true, reduceIte, reduceCtorEq, hp]
  by_cases g1 : I p 1 = 1
  · rw [b2_t (Or.inl g1)] at h1
    exact ⟨fun _ => h1, fun z => absurd g1 z⟩
  · by_cases g2 : I p 1 = 2
    · rw [b2_t (Or.inr (Or.inl g2))] at h1
      exact ⟨fun z => absurd z g1, fun _ => ⟨fun _ => h1, fun z => absurd g2 z⟩⟩
    · by_cases g3 : I p 1 = 3
      · rw [b2_t (Or.inr (Or.inr g3))] at h1
        exact ⟨fun z => absurd z g1, fun _ => ⟨fun z => absurd z g2, fun _ => ⟨fun z => absurd g3 z, fun _ => h1⟩⟩⟩
      · rw [b2_f (fun z => z.elim g1 (fun z => z.elim g2 g3))] at h1
        exact ⟨fun z => absurd z g1, fun _ => ⟨fun z => absurd z g2, fun _ => ⟨fun _ => h1, fun z => absurd z g3⟩⟩⟩
set_option maxRecDepth 100000 in
theorem c_begin {p : Nat} (hp : KC p = 3 ∧ p < 149) (d m : Int32) (h1 : P none (SC L, uR I p (upd (upd (I p) 1 d) 2 m), Q)) : Runs l 19 [.ref p, .int d, .int m] (SC L, I, Q) P := by
  refine run0 (n := 0) mok_19 ⟨rfl, rfl⟩ rfl ?_
  refine wk ((fn0_ok l)) ok_19 30 (fun pc => false) ?_
  simp only [fn0, kk_19, Option.toList_some, Option.toList_none, ex, catS, vC, isMk, sym, popN, goC, callOK, swL, List.map_cons, List.map_nil, List.replicate_zero, List.replicate_succ, List.append_nil, List.nil_append, List.cons_append, List.getElem?_cons_zero, List.getElem?_cons_succ, List.set_cons_zero, List.set_cons_succ, List.length_cons, List.length_nil, List.head?_cons, Nat.reduceAdd, Nat.reduceLT, Nat.reduceLeDiff, Nat.reduceBEq, Nat.reduceEqDiff, Nat.succ_ne_zero, Nat.zero_lt_succ, Nat.le_refl, sc_rows, kc_lit, nc_lit, wlk_rows, uR_s, uR_uR, true_and, and_true, true_or, or_true, false_or, or_false, and_false, false_and, or_self, and_self, if_true, if_false, Bool.false_eq_true, Bool.or_false, Bool.or_true, Bool.false_or, Bool.true_or, not_true_eq_false, not_false_eq_true, forall_const, true_implies, false_implies, implies_true, reduceIte, reduceCtorEq, hp]
  exact h1
set_option maxRecDepth 100000 in
theorem c_place (h : PH) (v : Int32) (h1 : P (some (.int (b2 (0 ≤ v ∧ v ≤ 20)))) h) : Runs l 22 [.int v] h P := by
  refine run0 (n := 0) mok_22 ⟨rfl, rfl⟩ rfl ?_
  refine wk ((fn0_ok l)) ok_22 30 (fun pc => false) ?_
  simp only [fn0, kk_22, Option.toList_some, Option.toList_none, ex, catS, vC, isMk, sym, popN, goC, callOK, swL, List.map_cons, List.map_nil, List.replicate_zero, List.replicate_succ, List.append_nil, List.nil_append, List.cons_append, List.getElem?_cons_zero, List.getElem?_cons_succ, List.set_cons_zero, List.set_cons_succ, List.length_cons, List.length_nil, List.head?_cons, Nat.reduceAdd, Nat.reduceLT, Nat.reduceLeDiff, Nat.reduceBEq, Nat.reduceEqDiff, Nat.succ_ne_zero, Nat.zero_lt_succ, Nat.le_refl, sc_rows, kc_lit, nc_lit, wlk_rows, uR_s, uR_uR, true_and, and_true, true_or, or_true, false_or, or_false, and_false, false_and, or_self, and_self, if_true, if_false, Bool.false_eq_true, Bool.or_false, Bool.or_true, Bool.false_or, Bool.true_or, not_true_eq_false, not_false_eq_true, forall_const, true_implies, false_implies, implies_true, reduceIte, reduceCtorEq]
  refine ⟨fun g => ?_, fun g => ⟨fun g2 => ?_, fun g2 => ?_⟩⟩
  · rw [b2_f (fun z => absurd g (Int32.not_lt.mpr z.1))] at h1; exact h1
  · rw [b2_f (fun z => absurd g2 (Int32.not_lt.mpr z.2))] at h1; exact h1
  · rw [b2_t ⟨Int32.not_lt.mp g, Int32.not_lt.mp g2⟩] at h1; exact h1
set_option maxRecDepth 100000 in
theorem c_setg (v : Int32) (h1 : P (some (.int (b2 (0 ≤ v ∧ v < 5)))) (SC L, I, Q)) : Runs l 23 [.int v] (SC L, I, Q) P := by
  refine run0 (n := 0) mok_23 ⟨rfl, rfl⟩ rfl ?_
  have e5 : Int32.ofNat 5 = 5 := rfl
  refine wk ((fn0_ok l)) ok_23 30 (fun pc => false) ?_
  simp only [fn0, kk_23, Option.toList_some, Option.toList_none, ex, catS, vC, isMk, sym, popN, goC, callOK, swL, List.map_cons, List.map_nil, List.replicate_zero, List.replicate_succ, List.append_nil, List.nil_append, List.cons_append, List.getElem?_cons_zero, List.getElem?_cons_succ, List.set_cons_zero, List.set_cons_succ, List.length_cons, List.length_nil, List.head?_cons, Nat.reduceAdd, Nat.reduceLT, Nat.reduceLeDiff, Nat.reduceBEq, Nat.reduceEqDiff, Nat.succ_ne_zero, Nat.zero_lt_succ, Nat.le_refl, sc_rows, kc_lit, nc_lit, wlk_rows, uR_s, uR_uR, true_and, and_true, true_or, or_true, false_or, or_false, and_false, false_and, or_self, and_self, if_true, if_false, Bool.false_eq_true, Bool.or_false, Bool.or_true, Bool.false_or, Bool.true_or, not_true_eq_false, not_false_eq_true, forall_const, true_implies, false_implies, implies_true, reduceIte, reduceCtorEq, e5, Nat.le_refl, and_self, or_true, Nat.reduceSub]
  refine ⟨fun g => ?_, fun g => ⟨fun g2 => ?_, fun g2 => ?_⟩⟩
  · rw [b2_f (fun z => absurd g (Int32.not_lt.mpr z.1))] at h1; exact h1
  · rw [b2_f (fun z => absurd g2 (Int32.not_le.mpr z.2))] at h1; exact h1
  · rw [b2_t ⟨Int32.not_lt.mp g, Int32.not_le.mp g2⟩] at h1; exact h1
set_option maxRecDepth 100000 in
theorem c_fare (a b : Int32) (h1 : P (some (.int (fare32 a b))) (SC L, I, Q)) : Runs l 24 [.int a, .int b] (SC L, I, Q) P := by
  refine run0 (n := 0) mok_24 ⟨rfl, rfl⟩ rfl ?_
  refine wk ((fn0_ok l)) ok_24 30 (fun pc => false) ?_
  simp only [fn0, kk_24, Option.toList_some, Option.toList_none, ex, catS, vC, isMk, sym, popN, goC, callOK, swL, List.map_cons, List.map_nil, List.replicate_zero, List.replicate_succ, List.append_nil, List.nil_append, List.cons_append, List.getElem?_cons_zero, List.getElem?_cons_succ, List.set_cons_zero, List.set_cons_succ, List.length_cons, List.length_nil, List.head?_cons, Nat.reduceAdd, Nat.reduceLT, Nat.reduceLeDiff, Nat.reduceBEq, Nat.reduceEqDiff, Nat.succ_ne_zero, Nat.zero_lt_succ, Nat.le_refl, sc_rows, kc_lit, nc_lit, wlk_rows, uR_s, uR_uR, true_and, and_true, true_or, or_true, false_or, or_false, and_false, false_and, or_self, and_self, if_true, if_false, Bool.false_eq_true, Bool.or_false, Bool.or_true, Bool.false_or, Bool.true_or, not_true_eq_false, not_false_eq_true, forall_const, true_implies, false_implies, implies_true, reduceIte, reduceCtorEq, abs_sz]
  exact h1
set_option maxRecDepth 100000 in
theorem c_stays {B p : Nat} (hB : TB B) (hQ : QT0 Q B) (hp : KC p = 3 ∧ p < 149) (h1 : P (some (.int (b2 (irem (I p 0) 10 = irem (I B 6 / 1440) 10)))) (SC L, I, Q)) : Runs l 33 [.ref B, .ref p] (SC L, I, Q) P := by
  refine run0 (n := 0) mok_33 ⟨rfl, rfl⟩ rfl ?_
  refine wk ((fn0_ok l)) ok_33 30 (fun pc => false) ?_
  simp only [fn0, kk_33, Option.toList_some, Option.toList_none, ex, catS, vC, isMk, sym, popN, goC, callOK, swL, List.map_cons, List.map_nil, List.replicate_zero, List.replicate_succ, List.append_nil, List.nil_append, List.cons_append, List.getElem?_cons_zero, List.getElem?_cons_succ, List.set_cons_zero, List.set_cons_succ, List.length_cons, List.length_nil, List.head?_cons, Nat.reduceAdd, Nat.reduceLT, Nat.reduceLeDiff, Nat.reduceBEq, Nat.reduceEqDiff, Nat.succ_ne_zero, Nat.zero_lt_succ, Nat.le_refl, sc_rows, kc_lit, nc_lit, wlk_rows, uR_s, uR_uR, true_and, and_true, true_or, or_true, false_or, or_false, and_false, false_and, or_self, and_self, if_true, if_false, Bool.false_eq_true, Bool.or_false, Bool.or_true, Bool.false_or, Bool.true_or, not_true_eq_false, not_false_eq_true, forall_const, true_implies, false_implies, implies_true, reduceIte, reduceCtorEq, hp, tbk hB, tbx hB, nz_lit]
  refine ⟨fun g => ?_, fun g => ?_⟩
  · rw [b2_f g] at h1; exact h1
  · rw [b2_t g] at h1; exact h1
set_option maxRecDepth 100000 in
theorem c_tired {B p : Nat} (hB : TB B) (hQ : QT0 Q B) (hp : KC p = 3 ∧ p < 149) (h1 : P (some (.int (b2 (I (B + 19) 3 ≤ I p 3)))) (SC L, I, Q)) : Runs l 34 [.ref B, .ref p] (SC L, I, Q) P := by
  refine run0 (n := 0) mok_34 ⟨rfl, rfl⟩ rfl ?_
  refine wk ((fn0_ok l)) ok_34 30 (fun pc => false) ?_
  simp only [fn0, kk_34, Option.toList_some, Option.toList_none, ex, catS, vC, isMk, sym, popN, goC, callOK, swL, List.map_cons, List.map_nil, List.replicate_zero, List.replicate_succ, List.append_nil, List.nil_append, List.cons_append, List.getElem?_cons_zero, List.getElem?_cons_succ, List.set_cons_zero, List.set_cons_succ, List.length_cons, List.length_nil, List.head?_cons, Nat.reduceAdd, Nat.reduceLT, Nat.reduceLeDiff, Nat.reduceBEq, Nat.reduceEqDiff, Nat.succ_ne_zero, Nat.zero_lt_succ, Nat.le_refl, sc_rows, kc_lit, nc_lit, wlk_rows, uR_s, uR_uR, true_and, and_true, true_or, or_true, false_or, or_false, and_false, false_and, or_self, and_self, if_true, if_false, Bool.false_eq_true, Bool.or_false, Bool.or_true, Bool.false_or, Bool.true_or, not_true_eq_false, not_false_eq_true, forall_const, true_implies, false_implies, implies_true, reduceIte, reduceCtorEq, hp, tbk hB, tbx hB, tbn L hB, hQ.2.2.2.1, in5, cl_lit]
  refine ⟨fun g => ?_, fun g => ?_⟩
  · rw [b2_f (Int32.not_le.mpr g)] at h1; exact h1
  · rw [b2_t (Int32.not_lt.mp g)] at h1; exact h1
set_option maxRecDepth 100000 in
theorem c_long {B : Nat} (hB : TB B) (hQ : QT0 Q B) (a b : Int32) (h1 : P (some (.int (b2 (I (B + 19) 2 ≤ sz32 (b - a))))) (SC L, I, Q)) : Runs l 36 [.ref B, .int a, .int b] (SC L, I, Q) P := by
  refine run0 (n := 0) mok_36 ⟨rfl, rfl⟩ rfl ?_
  refine wk ((fn0_ok l)) ok_36 30 (fun pc => false) ?_
  simp only [fn0, kk_36, Option.toList_some, Option.toList_none, ex, catS, vC, isMk, sym, popN, goC, callOK, swL, List.map_cons, List.map_nil, List.replicate_zero, List.replicate_succ, List.append_nil, List.nil_append, List.cons_append, List.getElem?_cons_zero, List.getElem?_cons_succ, List.set_cons_zero, List.set_cons_succ, List.length_cons, List.length_nil, List.head?_cons, Nat.reduceAdd, Nat.reduceLT, Nat.reduceLeDiff, Nat.reduceBEq, Nat.reduceEqDiff, Nat.succ_ne_zero, Nat.zero_lt_succ, Nat.le_refl, sc_rows, kc_lit, nc_lit, wlk_rows, uR_s, uR_uR, true_and, and_true, true_or, or_true, false_or, or_false, and_false, false_and, or_self, and_self, if_true, if_false, Bool.false_eq_true, Bool.or_false, Bool.or_true, Bool.false_or, Bool.true_or, not_true_eq_false, not_false_eq_true, forall_const, true_implies, false_implies, implies_true, reduceIte, reduceCtorEq, tbk hB, tbx hB, tbn L hB, hQ.2.2.2.1, in5, cl_lit, abs_sz]
  refine ⟨fun g => ?_, fun g => ?_⟩
  · rw [b2_f (Int32.not_le.mpr g)] at h1; exact h1
  · rw [b2_t (Int32.not_lt.mp g)] at h1; exact h1
set_option maxRecDepth 100000 in
theorem c_min {B p : Nat} (hB : TB B) (hQ : QT0 Q B) (hp : KC p = 3 ∧ p < 149) (f : Int32) (h1 : P (some (.int (minR I B p f))) (SC L, I, Q)) : Runs l 40 [.ref B, .ref p, .int f] (SC L, I, Q) P := by
  refine run0 (n := 1) mok_40 ⟨rfl, rfl⟩ rfl ?_
  refine wk ((fn0_ok l)) ok_40 60 (fun pc => false) ?_
  simp only [fn0, kk_40, Option.toList_some, Option.toList_none, ex, catS, vC, isMk, sym, popN, goC, callOK, swL, List.map_cons, List.map_nil, List.replicate_zero, List.replicate_succ, List.append_nil, List.nil_append, List.cons_append, List.getElem?_cons_zero, List.getElem?_cons_succ, List.set_cons_zero, List.set_cons_succ, List.length_cons, List.length_nil, List.head?_cons, Nat.reduceAdd, Nat.reduceLT, Nat.reduceLeDiff, Nat.reduceBEq, Nat.reduceEqDiff, Nat.succ_ne_zero, Nat.zero_lt_succ, Nat.le_refl, sc_rows, kc_lit, nc_lit, wlk_rows, uR_s, uR_uR, true_and, and_true, true_or, or_true, false_or, or_false, and_false, false_and, or_self, and_self, if_true, if_false, Bool.false_eq_true, Bool.or_false, Bool.or_true, Bool.false_or, Bool.true_or, not_true_eq_false, not_false_eq_true, forall_const, true_implies, false_implies, implies_true, reduceIte, reduceCtorEq, hp, tbk hB, tbx hB, tbn L hB, hQ.2.2.2.1, in5, cl_lit, abs_sz]
  unfold minR awayR at h1
  refine ⟨fun g => ?_, fun g => ⟨fun g2 => ?_, fun g2 => ?_⟩⟩
  · rw [if_neg g] at h1; exact h1
  · rw [if_pos g, if_neg (Int32.not_lt.mpr g2)] at h1; exact h1
  · rw [if_pos g, if_pos (Int32.not_le.mp g2)] at h1; exact h1
end C1
def gn1 (L : Nat) : Nat → Option FN := fun y => match y with
  | 18 => some (fC_at L)
  | 19 => some (fC_begin L)
  | 22 => some fC_place
  | 23 => some (fC_setg L)
  | 24 => some (fC_fare L)
  | 33 => some (fC_stays L)
  | 34 => some (fC_tired L)
  | 36 => some (fC_long L)
  | 40 => some (fC_min L)
  | _ => none
theorem gn1_ok (l : Launch) (L : Nat) : fnOK l (gn1 L) := by
  intro y f hf As h hpre
  unfold gn1 at hf
  split at hf <;> first | (cases hf; done) | skip
  · cases hf
    unfold fC_at at hpre ⊢
    split at hpre
    · refine ⟨some _, rfl, fun Q hq => ?_⟩
      rw [CXh_of hpre] at hq ⊢
      exact c_at hpre.2 hq
    · exact hpre.elim
  · cases hf
    unfold fC_begin at hpre ⊢
    split at hpre
    · refine ⟨none, rfl, fun Q hq => ?_⟩
      rw [CXh_of hpre] at hq ⊢
      exact c_begin hpre.2 _ _ hq
    · exact hpre.elim
  · cases hf
    unfold fC_place at hpre ⊢
    split at hpre
    · exact ⟨some _, rfl, fun Q hq => c_place h _ hq⟩
    · exact hpre.elim
  · cases hf
    unfold fC_setg at hpre ⊢
    split at hpre
    · refine ⟨some _, rfl, fun Q hq => ?_⟩
      have e : h = (SC L, h.2.1, h.2.2) := by rw [← hpre]
      rw [e] at hq ⊢
      exact c_setg _ hq
    · exact hpre.elim
  · cases hf
    unfold fC_fare at hpre ⊢
    split at hpre
    · refine ⟨some _, rfl, fun Q hq => ?_⟩
      have e : h = (SC L, h.2.1, h.2.2) := by rw [← hpre]
      rw [e] at hq ⊢
      exact c_fare _ _ hq
    · exact hpre.elim
  · cases hf
    unfold fC_stays at hpre ⊢
    split at hpre
    · obtain ⟨hm, hx⟩ := hpre
      refine ⟨some _, rfl, fun Q hq => ?_⟩
      rw [CTh_of hm] at hq ⊢
      exact c_stays hm.2.1 hm.2.2 hx.2 hq
    · exact hpre.elim
  · cases hf
    unfold fC_tired at hpre ⊢
    split at hpre
    · obtain ⟨hm, hx⟩ := hpre
      refine ⟨some _, rfl, fun Q hq => ?_⟩
      rw [CTh_of hm] at hq ⊢
      exact c_tired hm.2.1 hm.2.2 hx.2 hq
    · exact hpre.elim
  · cases hf
    unfold fC_long at hpre ⊢
    split at hpre
    · refine ⟨some _, rfl, fun Q hq => ?_⟩
      rw [CTh_of hpre] at hq ⊢
      exact c_long hpre.2.1 hpre.2.2 _ _ hq
    · exact hpre.elim
  · cases hf
    unfold fC_min at hpre ⊢
    split at hpre
    · obtain ⟨hm, hx⟩ := hpre
      refine ⟨some _, rfl, fun Q hq => ?_⟩
      rw [CTh_of hm] at hq ⊢
      exact c_min hm.2.1 hm.2.2 hx.2 _ hq
    · exact hpre.elim
section C2
variable {l : Launch} {L : Nat} {I : Nat → Nat → Int32} {Q : Nat → Nat → Option Nat} {P : Option Value → PH → Prop}
set_option maxRecDepth 100000 in
theorem c_may {B p : Nat} (hB : TB B) (hQ : QT0 Q B) (hp : KC p = 3 ∧ p < 149) (h1 : P (some (.int (b2 (mayR I B p)))) (SC L, I, Q)) : Runs l 35 [.ref B, .ref p] (SC L, I, Q) P := by
  refine run0 (n := 0) mok_35 ⟨rfl, rfl⟩ rfl ?_
  refine wk (gn1_ok l L) ok_35 30 (fun pc => false) ?_
  simp only [gn1, kk_35, Option.toList_some, Option.toList_none, ex, catS, vC, isMk, sym, popN, goC, callOK, swL, List.map_cons, List.map_nil, List.replicate_zero, List.replicate_succ, List.append_nil, List.nil_append, List.cons_append, List.getElem?_cons_zero, List.getElem?_cons_succ, List.set_cons_zero, List.set_cons_succ, List.length_cons, List.length_nil, List.head?_cons, Nat.reduceAdd, Nat.reduceLT, Nat.reduceLeDiff, Nat.reduceBEq, Nat.reduceEqDiff, Nat.succ_ne_zero, Nat.zero_lt_succ, Nat.le_refl, sc_rows, kc_lit, nc_lit, wlk_rows, uR_s, uR_uR, true_and, and_true, true_or, or_true, false_or, or_false, and_false, false_and, or_self, and_self, if_true, if_false, Bool.false_eq_true, Bool.or_false, Bool.or_true, Bool.false_or, Bool.true_or, not_true_eq_false, not_false_eq_true, forall_const, true_implies, false_implies, implies_true, reduceIte, reduceCtorEq, hp, hB, hQ, tbk hB, tbx hB, b2_0, b2_n0, Decidable.not_not, fC_at, fC_begin, fC_place, fC_setg, fC_fare, fC_stays, fC_tired, fC_long, fC_min, CTh_eq, CXh_eq, ix_lit, lt_lit, cl_lit, nz_lit, in5, in12, abs_sz]
  by_cases g1 : irem (I p 0) 10 = irem (I B 6 / 1440) 10
  · rw [b2_f (fun z => z.1 g1)] at h1
    exact ⟨fun _ => h1, fun z => absurd g1 z⟩
  · by_cases g2 : I (B + 19) 3 ≤ I p 3
    · rw [b2_f (fun z => z.2 g2)] at h1
      exact ⟨fun z => absurd z g1, fun _ => ⟨fun _ => h1, fun z => absurd g2 z⟩⟩
    · rw [b2_t ⟨g1, g2⟩] at h1
      exact ⟨fun z => absurd z g1, fun _ => ⟨fun z => absurd z g2, fun _ => h1⟩⟩
end C2
def gn2 (L : Nat) : Nat → Option FN := fun y => match y with
  | 35 => some (fC_may L)
  | y => gn1 L y
theorem gn2_ok (l : Launch) (L : Nat) : fnOK l (gn2 L) := by
  intro y f hf As h hpre
  unfold gn2 at hf
  split at hf
  · cases hf
    unfold fC_may at hpre ⊢
    split at hpre
    · obtain ⟨hm, hx⟩ := hpre
      refine ⟨some _, rfl, fun Q hq => ?_⟩
      rw [CTh_of hm] at hq ⊢
      exact c_may hm.2.1 hm.2.2 hx.2 hq
    · exact hpre.elim
  · exact gn1_ok l L y f hf As h hpre
section C3
variable {l : Launch} {L : Nat} {I : Nat → Nat → Int32} {Q : Nat → Nat → Option Nat} {P : Option Value → PH → Prop}
set_option maxRecDepth 100000 in
theorem c_near0 {B : Nat} (f : Int32) (h1 : P (some .null) (SC L, I, Q)) : Runs l 39 [.ref B, .null, .null, .int f] (SC L, I, Q) P := by
  refine run0 (n := 0) mok_39 ⟨rfl, rfl⟩ rfl ?_
  refine wk (gn2_ok l L) ok_39 30 (fun pc => false) ?_
  simp only [gn2, kk_39, Option.toList_some, Option.toList_none, ex, catS, vC, isMk, sym, popN, goC, callOK, swL, List.map_cons, List.map_nil, List.replicate_zero, List.replicate_succ, List.append_nil, List.nil_append, List.cons_append, List.getElem?_cons_zero, List.getElem?_cons_succ, List.set_cons_zero, List.set_cons_succ, List.length_cons, List.length_nil, List.head?_cons, Nat.reduceAdd, Nat.reduceLT, Nat.reduceLeDiff, Nat.reduceBEq, Nat.reduceEqDiff, Nat.succ_ne_zero, Nat.zero_lt_succ, Nat.le_refl, sc_rows, kc_lit, nc_lit, wlk_rows, uR_s, uR_uR, true_and, and_true, true_or, or_true, false_or, or_false, and_false, false_and, or_self, and_self, if_true, if_false, Bool.false_eq_true, Bool.or_false, Bool.or_true, Bool.false_or, Bool.true_or, not_true_eq_false, not_false_eq_true, forall_const, true_implies, false_implies, implies_true, reduceIte, reduceCtorEq, fC_at, fC_begin, fC_place, fC_setg, fC_fare, fC_stays, fC_tired, fC_long, fC_min, CTh_eq, CXh_eq, ix_lit, lt_lit, cl_lit, nz_lit, in5, in12, abs_sz, gn1, fC_may]
  exact h1
set_option maxRecDepth 100000 in
theorem c_near1 {B p : Nat} (f : Int32) (h1 : P (some (.ref p)) (SC L, I, Q)) : Runs l 39 [.ref B, .ref p, .null, .int f] (SC L, I, Q) P := by
  refine run0 (n := 0) mok_39 ⟨rfl, rfl⟩ rfl ?_
  refine wk (gn2_ok l L) ok_39 30 (fun pc => false) ?_
  simp only [gn2, kk_39, Option.toList_some, Option.toList_none, ex, catS, vC, isMk, sym, popN, goC, callOK, swL, List.map_cons, List.map_nil, List.replicate_zero, List.replicate_succ, List.append_nil, List.nil_append, List.cons_append, List.getElem?_cons_zero, List.getElem?_cons_succ, List.set_cons_zero, List.set_cons_succ, List.length_cons, List.length_nil, List.head?_cons, Nat.reduceAdd, Nat.reduceLT, Nat.reduceLeDiff, Nat.reduceBEq, Nat.reduceEqDiff, Nat.succ_ne_zero, Nat.zero_lt_succ, Nat.le_refl, sc_rows, kc_lit, nc_lit, wlk_rows, uR_s, uR_uR, true_and, and_true, true_or, or_true, false_or, or_false, and_false, false_and, or_self, and_self, if_true, if_false, Bool.false_eq_true, Bool.or_false, Bool.or_true, Bool.false_or, Bool.true_or, not_true_eq_false, not_false_eq_true, forall_const, true_implies, false_implies, implies_true, reduceIte, reduceCtorEq, fC_at, fC_begin, fC_place, fC_setg, fC_fare, fC_stays, fC_tired, fC_long, fC_min, CTh_eq, CXh_eq, ix_lit, lt_lit, cl_lit, nz_lit, in5, in12, abs_sz, gn1, fC_may]
  exact h1
set_option maxRecDepth 100000 in
theorem c_near2 {B q : Nat} (hB : TB B) (hQ : QT0 Q B) (hq : KC q = 3 ∧ q < 149) (f : Int32) (h1 : P (some (if mayR I B q then .ref q else .null)) (SC L, I, Q)) : Runs l 39 [.ref B, .null, .ref q, .int f] (SC L, I, Q) P := by
  refine run0 (n := 0) mok_39 ⟨rfl, rfl⟩ rfl ?_
  refine wk (gn2_ok l L) ok_39 30 (fun pc => false) ?_
  simp only [gn2, kk_39, Option.toList_some, Option.toList_none, ex, catS, vC, isMk, sym, popN, goC, callOK, swL, List.map_cons, List.map_nil, List.replicate_zero, List.replicate_succ, List.append_nil, List.nil_append, List.cons_append, List.getElem?_cons_zero, List.getElem?_cons_succ, List.set_cons_zero, List.set_cons_succ, List.length_cons, List.length_nil, List.head?_cons, Nat.reduceAdd, Nat.reduceLT, Nat.reduceLeDiff, Nat.reduceBEq, Nat.reduceEqDiff, Nat.succ_ne_zero, Nat.zero_lt_succ, Nat.le_refl, sc_rows, kc_lit, nc_lit, wlk_rows, uR_s, uR_uR, true_and, and_true, true_or, or_true, false_or, or_false, and_false, false_and, or_self, and_self, if_true, if_false, Bool.false_eq_true, Bool.or_false, Bool.or_true, Bool.false_or, Bool.true_or, not_true_eq_false, not_false_eq_true, forall_const, true_implies, false_implies, implies_true, reduceIte, reduceCtorEq, hq, hB, hQ, tbk hB, tbx hB, b2_0, b2_n0, Decidable.not_not, fC_at, fC_begin, fC_place, fC_setg, fC_fare, fC_stays, fC_tired, fC_long, fC_min, CTh_eq, CXh_eq, ix_lit, lt_lit, cl_lit, nz_lit, in5, in12, abs_sz, gn1, fC_may]
  refine ⟨fun g => ?_, fun g => ?_⟩
  · rw [if_pos g] at h1; exact h1
  · rw [if_neg g] at h1; exact h1
set_option maxRecDepth 100000 in
theorem c_near3 {B p q : Nat} (hB : TB B) (hQ : QT0 Q B) (hp : KC p = 3 ∧ p < 149) (hq : KC q = 3 ∧ q < 149) (f : Int32) (h1 : P (some (if mayR I B q ∧ minR I B q f < minR I B p f then .ref q else .ref p)) (SC L, I, Q)) : Runs l 39 [.ref B, .ref p, .ref q, .int f] (SC L, I, Q) P := by
  refine run0 (n := 0) mok_39 ⟨rfl, rfl⟩ rfl ?_
  refine wk (gn2_ok l L) ok_39 30 (fun pc => false) ?_
  simp only [gn2, kk_39, Option.toList_some, Option.toList_none, ex, catS, vC, isMk, sym, popN, goC, callOK, swL, List.map_cons, List.map_nil, List.replicate_zero, List.replicate_succ, List.append_nil, List.nil_append, List.cons_append, List.getElem?_cons_zero, List.getElem?_cons_succ, List.set_cons_zero, List.set_cons_succ, List.length_cons, List.length_nil, List.head?_cons, Nat.reduceAdd, Nat.reduceLT, Nat.reduceLeDiff, Nat.reduceBEq, Nat.reduceEqDiff, Nat.succ_ne_zero, Nat.zero_lt_succ, Nat.le_refl, sc_rows, kc_lit, nc_lit, wlk_rows, uR_s, uR_uR, true_and, and_true, true_or, or_true, false_or, or_false, and_false, false_and, or_self, and_self, if_true, if_false, Bool.false_eq_true, Bool.or_false, Bool.or_true, Bool.false_or, Bool.true_or, not_true_eq_false, not_false_eq_true, forall_const, true_implies, false_implies, implies_true, reduceIte, reduceCtorEq, hp, hq, hB, hQ, tbk hB, tbx hB, b2_0, b2_n0, Decidable.not_not, fC_at, fC_begin, fC_place, fC_setg, fC_fare, fC_stays, fC_tired, fC_long, fC_min, CTh_eq, CXh_eq, ix_lit, lt_lit, cl_lit, nz_lit, in5, in12, abs_sz, gn1, fC_may]
  refine ⟨fun g => ⟨fun g2 => ?_, fun g2 => ?_⟩, fun g => ?_⟩
  · rw [if_neg (fun z => absurd z.2 (Int32.not_lt.mpr g2))] at h1; exact h1
  · rw [if_pos ⟨g, Int32.not_le.mp g2⟩] at h1; exact h1
  · rw [if_neg (fun z => g z.1)] at h1; exact h1
end C3

