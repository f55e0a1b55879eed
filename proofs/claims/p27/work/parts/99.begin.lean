/-! p27: the law's start -/
section ST0
def sat (j : Nat) : Int32 := if j = 0 then 2 else if j = 1 then 30 else if j = 2 then 7 else if j = 3 then 240 else if j = 4 then 45 else 0
theorem sat_up : upd (upd (upd (upd (upd (fun _ => (0 : Int32)) 0 2) 1 30) 2 7) 3 240) 4 45 = sat := by
  funext j
  unfold sat
  simp only [upd]
  by_cases h4 : j = 4
  · subst h4; rfl
  · by_cases h3 : j = 3
    · subst h3; rfl
    · by_cases h2 : j = 2
      · subst h2; rfl
      · by_cases h1 : j = 1
        · subst h1; rfl
        · by_cases h0 : j = 0
          · subst h0; rfl
          · simp [h0, h1, h2, h3, h4]
theorem sat_0 {j : Nat} (h : 5 ≤ j) : sat j = 0 := by
  unfold sat
  rw [if_neg (by omega), if_neg (by omega), if_neg (by omega), if_neg (by omega), if_neg (by omega)]
theorem sat_ln : Ln sat 0 0 := ⟨by rw [sat_0 (by omega)]; rfl, by omega, by rw [sat_0 (by omega)]; rfl, fun i _ hi => absurd hi (by omega), fun i hi => absurd hi (by omega), fun i hi => absurd hi (by omega), fun i _ hi => absurd hi (by omega), by omega⟩
theorem sat_mv : MV sat 0 0 := ⟨⟨0, sat_ln⟩, fun i hi => absurd hi (by omega), by unfold SetOK sat; decide, by rw [sat_0 (by omega)]; rfl, by omega, fun i hi => absurd hi (by omega)⟩
theorem sat_v : sat 0 = 2 ∧ sat 1 = 30 ∧ sat 2 = 7 ∧ sat 3 = 240 ∧ sat 4 = 45 ∧ sat 5 = 0 := by decide
theorem sat_xz : XZ sat 0 0 0 := by
  refine ⟨0, ⟨fun i hi => absurd hi (by omega), by rw [sat_0 (by omega)]; rfl, ⟨0, by rw [sat_0 (by omega)]; rfl, by omega, fun i hi => absurd hi (by omega)⟩, fun i _ hi => absurd hi (by omega)⟩, by omega, ⟨fun t ht => absurd ht (by omega), ⟨0, sat_ln, 0, by omega, fun p hp => absurd hp (by omega)⟩, ⟨?_, ?_⟩, fun i j _ hj => absurd hj (by omega), fun t ht => absurd ht (by omega)⟩, fun r hr => absurd hr (by omega)⟩
  · rw [sat_0 (by omega)]; rfl
  · rw [sat_0 (by omega)]; rfl
theorem ct0 {I I' : Nat → Nat → Int32} {Q' : Nat → Nat → Option Nat} (h0 : ∀ p, p < 1000 → I p = fun _ => 0) (hk : KonI I) (hr : ∀ j, j < 5 → I 1002 j = sat j) (hz : QZ Q') (q61 : Q' 61 0 = some 62) (q62 : ∀ i, i < 4 → Q' 62 i = some (63 + 20 * i)) (hw : TW I' Q' 1 (I 1002) ∧ TW I' Q' 21 (I 1002) ∧ TW I' Q' 41 (I 1002) ∧ ∀ i, i < 4 → TW I' Q' (63 + 20 * i) (I 1002)) (e1 : ∀ p, (p = 0 ∨ p = 61 ∨ 143 ≤ p) → I' p = I p) (e2 : ∀ B, TB B → ∀ p, B ≤ p → p < B + 19 → I' p = I p) : CT I' Q' (fun _ i => i) (fun i => 63 + 20 * i) sat (fun _ _ => 0) 0 0 0 0 ∧ TXI I' ∧ I' 0 3 = 0 := by
  have fz : ∀ p, p < 1000 → (p = 0 ∨ p = 61 ∨ 143 ≤ p) → I' p = fun _ => 0 := fun p h1 h2 => by rw [e1 p h2]; exact h0 p h1
  have tw : ∀ B, TB B → TW I' Q' B (I 1002) := fun B hB => by
    unfold TB at hB
    rcases hB with h | h | h | h | h | h | h <;> subst h
    · exact hw.1
    · exact hw.2.1
    · exact hw.2.2.1
    · exact hw.2.2.2 0 (by omega)
    · exact hw.2.2.2 1 (by omega)
    · exact hw.2.2.2 2 (by omega)
    · exact hw.2.2.2 3 (by omega)
  have hQA : QA Q' (fun _ i => i) := fun B hB => by
    obtain ⟨t1, t2, -⟩ := tw B hB
    exact ⟨t1, fun i hi => t2 i hi, fun i hi => hi, fun i j _ _ e => e⟩
  have cz : ∀ p, 1 ≤ p → p < 20 → I' p = fun _ => 0 := fun p a b => by
    rw [e2 1 tb1.1 p a (by omega)]
    exact h0 p (by omega)
  have c20 := hw.1.2.2
  have hCA : CA I' 1 (fun i => i) sat 0 0 0 := by
    refine ⟨⟨⟨?_, ?_⟩, fun u u1 u2 => ?_⟩, fun i hi => absurd hi (by omega), fun i _ hi u _ => ?_, fun j hj => absurd hj (by omega), fun j hj => ?_, ⟨⟨?_, ?_⟩, fun r hr => absurd hr (by omega)⟩⟩
    · rw [cz 1 (by omega) (by omega), sat_0 (by omega)]
    · rw [cz 1 (by omega) (by omega), sat_0 (by omega)]
    · rw [cz 1 (by omega) (by omega), sat_0 (by omega)]
    · show I' (1 + 2 + i) _ = 0
      rw [cz _ (by omega) (by omega)]
    · exact (c20 j hj).trans (hr j hj)
    · rw [cz _ (by omega) (by omega), sat_0 (by omega)]
    · rw [cz _ (by omega) (by omega), sat_0 (by omega)]
  refine ⟨⟨⟨hQA, ⟨q61, fun i hi => ⟨q62 i hi, ?_⟩, fun i j _ _ e => by have e' : 63 + 20 * i = 63 + 20 * j := e; omega⟩, hz⟩, ⟨hCA, sat_mv, sat_ln⟩, ⟨?_, by omega, fun i hi => absurd hi (by omega)⟩⟩, ⟨?_, fun j => ?_, fun j hj => ?_⟩, ?_⟩
  · show HB (63 + 20 * i); unfold HB; omega
  · rw [fz 61 (by omega) (by omega)]; rfl
  · rw [fz 0 (by omega) (by omega)]; rfl
  · rw [fz 143 (by omega) (by omega)]; rfl
  · rw [e1 1000 (by omega), e1 1001 (by omega)]; exact hk j hj
  · rw [fz 0 (by omega) (by omega)]
end ST0
section ST1
variable {l : Launch} {L : Nat} {I : Nat → Nat → Int32} {P : Option Value → PH → Prop}
theorem olds16 {n : Nat} {a b : Option Value} (ha : ∀ v, a = some v → vOld n v) (hb : ∀ v, b = some v → vOld n v) : ∀ v, some v ∈ [a, b, none, none, none, none, none, none, none, none, none, none, none, none, none, none] → vOld n v := fun v hv => by
  simp only [List.mem_cons, List.not_mem_nil, or_false, reduceCtorEq] at hv
  rcases hv with hv | hv
  · exact ha v hv.symm
  · exact hb v hv.symm
theorem o_none {n : Nat} : ∀ v, (none : Option Value) = some v → vOld n v := fun v h => by cases h
theorem o_ref {n p : Nat} (h : p < n ∨ 1000 ≤ p) : ∀ v, some (Value.ref p) = some v → vOld n v := fun v e => by cases e; exact h
theorem st0 {n : Nat} : ∀ v : Value, v ∈ ([] : List Value) → vOld n v := fun v h => absurd h List.not_mem_nil
set_option maxHeartbeats 1000000 in
set_option maxRecDepth 100000 in
/-- behind the making of the object -/
theorem l_first (hL : L ≤ 260) {J : Nat → Nat → Int32} {Q : Nat → Nat → Option Nat} {b : Nat → Nat} {w : Nat → Nat → Int32} (h : CT J Q (fun _ i => i) b sat w 0 0 0 0) (hT : TXI J) (h3 : J 0 3 = 0) (hP : ∀ I Q, P (some (.int 1)) (SC L, I, Q)) : Sy l 91 (149, 1788) 8 [some (.ref 1003), some (.ref 0), none, none, none, none, none, none, none, none, none, none, none, none, none, none] [] (SC L, J, Q) P := by
  obtain ⟨c, hE, hc, hW, hC⟩ := sat_xz
  have hR := fR_ok (l := l) (L := L) h hT.1
  refine wk2 (fn0_ok l) ok_91 5 (fun pc => false) ?_
  simp only [kk_91, Option.toList_some, Option.toList_none, ex2, ex, catS, vC, isMk, sym2, popN, goC, callOK, swL, List.map_cons, List.map_nil, List.replicate_zero, List.replicate_succ, List.append_nil, List.nil_append, List.cons_append, List.getElem?_cons_zero, List.getElem?_cons_succ, List.set_cons_zero, List.set_cons_succ, List.length_cons, List.length_nil, List.head?_cons, Nat.reduceAdd, Nat.reduceLT, Nat.reduceLeDiff, Nat.reduceBEq, Nat.reduceEqDiff, Nat.succ_ne_zero, Nat.zero_lt_succ, Nat.le_refl, sc_rows, kc_lit, nc_lit, wlk_rows, uR_s, uR_uR, true_and, and_true, true_or, or_true, false_or, or_false, and_false, false_and, or_self, and_self, if_true, if_false, Bool.false_eq_true, Bool.or_false, Bool.or_true, Bool.false_or, Bool.true_or, not_true_eq_false, not_false_eq_true, forall_const, true_implies, false_implies, implies_true, ↓reduceIte, reduceCtorEq, fn0, eq_self, k0 L]
  refine m_undo h (fun _ => ?_) (fun a' e => absurd e (by omega))
  refine wk2 (fn0_ok l) ok_91 10 (fun pc => false) ?_
  simp only [kk_91, Option.toList_some, Option.toList_none, ex2, ex, catS, vC, isMk, sym2, popN, goC, callOK, swL, List.map_cons, List.map_nil, List.replicate_zero, List.replicate_succ, List.append_nil, List.nil_append, List.cons_append, List.getElem?_cons_zero, List.getElem?_cons_succ, List.set_cons_zero, List.set_cons_succ, List.length_cons, List.length_nil, List.head?_cons, Nat.reduceAdd, Nat.reduceLT, Nat.reduceLeDiff, Nat.reduceBEq, Nat.reduceEqDiff, Nat.succ_ne_zero, Nat.zero_lt_succ, Nat.le_refl, sc_rows, kc_lit, nc_lit, wlk_rows, uR_s, uR_uR, true_and, and_true, true_or, or_true, false_or, or_false, and_false, false_and, or_self, and_self, if_true, if_false, Bool.false_eq_true, Bool.or_false, Bool.or_true, Bool.false_or, Bool.true_or, not_true_eq_false, not_false_eq_true, forall_const, true_implies, false_implies, implies_true, ↓reduceIte, reduceCtorEq, fn0, eq_self, k0 L]
  refine m_restore (zk := sat) (n1 := 0) (m1 := 0) (k1 := 0) h (fun q => absurd h3 q) (fun _ => ?_) (fun q => absurd h3 q)
  refine wk2 hR ok_91 60 (fun pc => false) ?_
  simp only [kk_91, Option.toList_some, Option.toList_none, ex2, ex, catS, vC, isMk, sym2, popN, goC, callOK, swL, List.map_cons, List.map_nil, List.replicate_zero, List.replicate_succ, List.append_nil, List.nil_append, List.cons_append, List.getElem?_cons_zero, List.getElem?_cons_succ, List.set_cons_zero, List.set_cons_succ, List.length_cons, List.length_nil, List.head?_cons, Nat.reduceAdd, Nat.reduceLT, Nat.reduceLeDiff, Nat.reduceBEq, Nat.reduceEqDiff, Nat.succ_ne_zero, Nat.zero_lt_succ, Nat.le_refl, sc_rows, kc_lit, nc_lit, wlk_rows, uR_s, uR_uR, true_and, and_true, true_or, or_true, false_or, or_false, and_false, false_and, or_self, and_self, if_true, if_false, Bool.false_eq_true, Bool.or_false, Bool.or_true, Bool.false_or, Bool.true_or, not_true_eq_false, not_false_eq_true, forall_const, true_implies, false_implies, implies_true, ↓reduceIte, reduceCtorEq, fR, rd1, rd2, rd3, eq_self, ansCo_s, sat_v, k0 L]
  refine l_refuses (x := 0) h hT hW.2.2.2 hE (by omega) (by omega) (by omega) (fun J1 Q1 g1 q1 => ?_)
  have t1 := hT.fl q1
  refine wk2 (fn0_ok l) ok_91 10 (fun pc => false) ?_
  simp only [kk_91, Option.toList_some, Option.toList_none, ex2, ex, catS, vC, isMk, sym2, popN, goC, callOK, swL, List.map_cons, List.map_nil, List.replicate_zero, List.replicate_succ, List.append_nil, List.nil_append, List.cons_append, List.getElem?_cons_zero, List.getElem?_cons_succ, List.set_cons_zero, List.set_cons_succ, List.length_cons, List.length_nil, List.head?_cons, Nat.reduceAdd, Nat.reduceLT, Nat.reduceLeDiff, Nat.reduceBEq, Nat.reduceEqDiff, Nat.succ_ne_zero, Nat.zero_lt_succ, Nat.le_refl, sc_rows, kc_lit, nc_lit, wlk_rows, uR_s, uR_uR, true_and, and_true, true_or, or_true, false_or, or_false, and_false, false_and, or_self, and_self, if_true, if_false, Bool.false_eq_true, Bool.or_false, Bool.or_true, Bool.false_or, Bool.true_or, not_true_eq_false, not_false_eq_true, forall_const, true_implies, false_implies, implies_true, ↓reduceIte, reduceCtorEq, fn0, eq_self, nz_lit, k0 L]
  refine l_refuses (x := 1) g1 t1 hW.2.2.2 hE (by omega) (by omega) (by omega) (fun J2 Q2 g2 q2 => ?_)
  have t2 := t1.fl q2
  refine wk2 (fn0_ok l) ok_91 10 (fun pc => false) ?_
  simp only [kk_91, Option.toList_some, Option.toList_none, ex2, ex, catS, vC, isMk, sym2, popN, goC, callOK, swL, List.map_cons, List.map_nil, List.replicate_zero, List.replicate_succ, List.append_nil, List.nil_append, List.cons_append, List.getElem?_cons_zero, List.getElem?_cons_succ, List.set_cons_zero, List.set_cons_succ, List.length_cons, List.length_nil, List.head?_cons, Nat.reduceAdd, Nat.reduceLT, Nat.reduceLeDiff, Nat.reduceBEq, Nat.reduceEqDiff, Nat.succ_ne_zero, Nat.zero_lt_succ, Nat.le_refl, sc_rows, kc_lit, nc_lit, wlk_rows, uR_s, uR_uR, true_and, and_true, true_or, or_true, false_or, or_false, and_false, false_and, or_self, and_self, if_true, if_false, Bool.false_eq_true, Bool.or_false, Bool.or_true, Bool.false_or, Bool.true_or, not_true_eq_false, not_false_eq_true, forall_const, true_implies, false_implies, implies_true, ↓reduceIte, reduceCtorEq, fn0, eq_self, nz_lit, k0 L]
  refine m_keep g2 (fun J3 g3 g4 g5 g6 => ?_)
  have t3 : TXI J3 := ⟨by rw [g5, upd_n _ _ (by omega)]; exact t2.1, fun j => by rw [g6 143 (by omega)]; exact t2.2.1 j, fun j hj => by rw [g6 1000 (by omega), g6 1001 (by omega)]; exact t2.2.2 j hj⟩
  refine wk2 (fn0_ok l) ok_91 20 (fun pc => false) ?_
  simp only [kk_91, Option.toList_some, Option.toList_none, ex2, ex, catS, vC, isMk, sym2, popN, goC, callOK, swL, List.map_cons, List.map_nil, List.replicate_zero, List.replicate_succ, List.append_nil, List.nil_append, List.cons_append, List.getElem?_cons_zero, List.getElem?_cons_succ, List.set_cons_zero, List.set_cons_succ, List.length_cons, List.length_nil, List.head?_cons, Nat.reduceAdd, Nat.reduceLT, Nat.reduceLeDiff, Nat.reduceBEq, Nat.reduceEqDiff, Nat.succ_ne_zero, Nat.zero_lt_succ, Nat.le_refl, sc_rows, kc_lit, nc_lit, wlk_rows, uR_s, uR_uR, true_and, and_true, true_or, or_true, false_or, or_false, and_false, false_and, or_self, and_self, if_true, if_false, Bool.false_eq_true, Bool.or_false, Bool.or_true, Bool.false_or, Bool.true_or, not_true_eq_false, not_false_eq_true, forall_const, true_implies, false_implies, implies_true, ↓reduceIte, reduceCtorEq, fn0, eq_self, sat_v, k0 L]
  refine l_seen g3 t3.1 ?_
  have e := l_loop (l := l) hL hP 70 0 (by omega) J3 Q2 (fun _ i => i) b sat w 0 0 0 0 sat 0 0 0 none none none none none none none none none g3 t3 sat_xz ⟨by rw [g5, upd_e], g4, sat_mv, sat_ln, sat_xz⟩
  rw [sat_v.2.2.2.2.2, show nI 0 = (0 : Int32) from rfl] at e
  refine wk2 (fn0_ok l) ok_91 10 (fun pc => pc == 121) ?_
  simp only [kk_91, Option.toList_some, Option.toList_none, ex2, ex, catS, vC, isMk, sym2, popN, goC, callOK, swL, List.map_cons, List.map_nil, List.replicate_zero, List.replicate_succ, List.append_nil, List.nil_append, List.cons_append, List.getElem?_cons_zero, List.getElem?_cons_succ, List.set_cons_zero, List.set_cons_succ, List.length_cons, List.length_nil, List.head?_cons, Nat.reduceAdd, Nat.reduceLT, Nat.reduceLeDiff, Nat.reduceBEq, Nat.reduceEqDiff, Nat.succ_ne_zero, Nat.zero_lt_succ, Nat.le_refl, sc_rows, kc_lit, nc_lit, wlk_rows, uR_s, uR_uR, true_and, and_true, true_or, or_true, false_or, or_false, and_false, false_and, or_self, and_self, if_true, if_false, Bool.false_eq_true, Bool.or_false, Bool.or_true, Bool.false_or, Bool.true_or, not_true_eq_false, not_false_eq_true, forall_const, true_implies, false_implies, implies_true, ↓reduceIte, reduceCtorEq, fn0, eq_self, k0 L]
  exact e
set_option maxHeartbeats 1000000 in
set_option maxRecDepth 100000 in
theorem law_begin (hL : L ≤ 260) (hP : ∀ I Q, P (some (.int 1)) (SC L, I, Q)) (h0 : ∀ p, p < 1000 → I p = fun _ => 0) (hk : KonI I) (hr : ∀ j, j < 5 → I 1002 j = sat j) : Sy l 91 (149, 1788) 0 [some (.ref 1003), none, none, none, none, none, none, none, none, none, none, none, none, none, none, none] [] ((0, 0, KC, NC L), I, fun _ _ => none) P := by
  have hz : (mrm 91).cells ≠ 0 := show (600000 : Nat) ≠ 0 by omega
  have hfc : FC 0 I (fun _ _ => none) := ⟨by omega, fun p _ hp => h0 p hp, fun _ _ _ => rfl, fun p _ _ hp => absurd hp (by omega)⟩
  have lt : 0 < 1 ∧ 0 < 149 := by omega
  refine wk ((fn0_ok l)) ok_91 0 (fun pc => false) ?_
  simp only [fn0, kk_91, Option.toList_some, Option.toList_none, ex, catS, vC, isMk, sym, popN, goC, callOK, swL, List.map_cons, List.map_nil, List.replicate_zero, List.replicate_succ, List.append_nil, List.nil_append, List.cons_append, List.getElem?_cons_zero, List.getElem?_cons_succ, List.set_cons_zero, List.set_cons_succ, List.length_cons, List.length_nil, List.head?_cons, Nat.reduceAdd, Nat.reduceLT, Nat.reduceLeDiff, Nat.reduceBEq, Nat.reduceEqDiff, Nat.succ_ne_zero, Nat.zero_lt_succ, Nat.le_refl, sc_rows, kc_lit, nc_lit, wlk_rows, uR_s, uR_uR, true_and, and_true, true_or, or_true, false_or, or_false, and_false, false_and, or_self, and_self, if_true, if_false, Bool.false_eq_true, Bool.or_false, Bool.or_true, Bool.false_or, Bool.true_or, not_true_eq_false, not_false_eq_true, forall_const, true_implies, false_implies, implies_true, reduceIte, reduceCtorEq, F1]
  refine ⟨nok_of hz ⟨by omega, by rw [show nFl 5 = 10 from rfl]; omega⟩ hfc (olds16 (o_ref (by omega)) o_none) st0, ?_⟩
  rw [newH_F hfc (show KC 0 = 5 from rfl) (show NC L 0 = 0 from rfl)]
  have fa := hfc.new (by omega)
  refine wk ((fn0_ok l)) ok_91 10 (fun pc => pc == 4) ?_
  simp only [fn0, kk_91, Option.toList_some, Option.toList_none, ex, catS, vC, isMk, sym, popN, goC, callOK, swL, List.map_cons, List.map_nil, List.replicate_zero, List.replicate_succ, List.append_nil, List.nil_append, List.cons_append, List.getElem?_cons_zero, List.getElem?_cons_succ, List.set_cons_zero, List.set_cons_succ, List.length_cons, List.length_nil, List.head?_cons, Nat.reduceAdd, Nat.reduceLT, Nat.reduceLeDiff, Nat.reduceBEq, Nat.reduceEqDiff, Nat.succ_ne_zero, Nat.zero_lt_succ, Nat.le_refl, sc_rows, kc_lit, nc_lit, wlk_rows, uR_s, uR_uR, true_and, and_true, true_or, or_true, false_or, or_false, and_false, false_and, or_self, and_self, if_true, if_false, Bool.false_eq_true, Bool.or_false, Bool.or_true, Bool.false_or, Bool.true_or, not_true_eq_false, not_false_eq_true, forall_const, true_implies, false_implies, implies_true, reduceIte, reduceCtorEq]
  refine wk ((fn0_ok l)) ok_91 0 (fun pc => false) ?_
  simp only [fn0, kk_91, Option.toList_some, Option.toList_none, ex, catS, vC, isMk, sym, popN, goC, swL, List.map_cons, List.map_nil, List.replicate_zero, List.replicate_succ, List.append_nil, List.nil_append, List.cons_append, List.getElem?_cons_zero, List.getElem?_cons_succ, List.set_cons_zero, List.set_cons_succ, List.length_cons, List.length_nil, List.head?_cons, Nat.reduceAdd, Nat.reduceLT, Nat.reduceLeDiff, Nat.reduceBEq, Nat.reduceEqDiff, Nat.succ_ne_zero, Nat.zero_lt_succ, Nat.le_refl, sc_rows, kc_lit, nc_lit, wlk_rows, uR_s, uR_uR, true_and, and_true, true_or, or_true, false_or, or_false, and_false, false_and, or_self, and_self, if_true, if_false, Bool.false_eq_true, Bool.or_false, Bool.or_true, Bool.false_or, Bool.true_or, not_true_eq_false, not_false_eq_true, forall_const, true_implies, false_implies, implies_true, reduceIte, reduceCtorEq, F1, lt, k0 L, Nat.reduceAdd]
  refine ⟨⟨Nat.le_of_ble_eq_true rfl, ⟨by show 0 + 1 + 148 ≤ _; omega, by show _ + nFl 5 + 1778 ≤ _; rw [show nFl 5 = 10 from rfl]; omega⟩, olds16 (o_ref (by omega)) o_none, st1 (old_ref (by show 0 < 0 + 1; omega))⟩, ?_⟩
  refine k_make fa (fun I1 Q1 g1 g2 g3 g4 g5 g6 g7 => ?_)
  obtain ⟨c1, c2, c3⟩ := ct0 h0 hk hr g2 g3 g4 g5 g6 g7
  refine wk ((fn0_ok l)) ok_91 20 (fun pc => pc == 8) ?_
  simp only [fn0, kk_91, Option.toList_some, Option.toList_none, ex, catS, vC, isMk, sym, popN, goC, callOK, swL, List.map_cons, List.map_nil, List.replicate_zero, List.replicate_succ, List.append_nil, List.nil_append, List.cons_append, List.getElem?_cons_zero, List.getElem?_cons_succ, List.set_cons_zero, List.set_cons_succ, List.length_cons, List.length_nil, List.head?_cons, Nat.reduceAdd, Nat.reduceLT, Nat.reduceLeDiff, Nat.reduceBEq, Nat.reduceEqDiff, Nat.succ_ne_zero, Nat.zero_lt_succ, Nat.le_refl, sc_rows, kc_lit, nc_lit, wlk_rows, uR_s, uR_uR, true_and, and_true, true_or, or_true, false_or, or_false, and_false, false_and, or_self, and_self, if_true, if_false, Bool.false_eq_true, Bool.or_false, Bool.or_true, Bool.false_or, Bool.true_or, not_true_eq_false, not_false_eq_true, forall_const, true_implies, false_implies, implies_true, reduceIte, reduceCtorEq, F1, lt, k0 L, Nat.reduceAdd]
  rw [show nFl 5 = 10 from rfl]
  exact l_first hL c1 c2 c3 hP
end ST1
