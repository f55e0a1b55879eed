/-! orders carried out: the class -/
def XW (z : Nat → Int32) (b : Nat) : Prop := XV z b ∧ PV z (ix (z 11))
theorem XW.cg {z z' : Nat → Int32} {b : Nat} (h : XW z b) (e : Eq228 z z') : XW z' b := by
  obtain ⟨h1, h2⟩ := h
  have hn : ix (z 11) ≤ 12 := by
    obtain ⟨n, k, c, hM, -⟩ := h1
    rw [hM.n.1, ix_nI (by have := hM.n.2; omega)]
    exact hM.n.2
  refine ⟨h1.cg e, ?_⟩
  rw [e 11 (by omega)]
  exact h2.same (fun t ht => e _ (tp_lt (by omega) (by omega)))
theorem XW.mono {z : Nat → Int32} {b b' : Nat} (h : XW z b) (hb : b ≤ b') : XW z b' := ⟨h.1.mono hb, h.2⟩
theorem MV.ixn {z : Nat → Int32} {n k : Nat} (h : MV z n k) : ix (z 11) = n := by rw [h.n.1]; exact ix_nI (by have := h.n.2; omega)
theorem Ln.ixm {z : Nat → Int32} {n m : Nat} (h : Ln z n m) : ix (z 12) = m := by rw [h.2.2.1]; exact ix_nI (by have := h.2.2.2.2.2.2.2; omega)
def whyO (z : Nat → Int32) (o : Int32 × Nat × Nat) : Int32 := if o.1 = 119 then whyJ z (nI o.2.1) else if o.1 = 99 then whyC z (ix (z 11)) (ix (z 12)) (nI o.2.1) (nI o.2.2) else whyP z (nI o.2.1)
def actO (z : Nat → Int32) (o : Int32 × Nat × Nat) : Nat → Int32 := if o.1 = 119 then zJoin z (nI o.2.1) else if o.1 = 99 then (match calZ z (ix (z 11)) (ix (z 12)) (nI o.2.1) with
  | some t => zCl z t (nI o.2.1) (nI o.2.2) (ix (z 12))
  | none => z) else zIt z (ix (nI o.2.1))
theorem whyO_c (z : Nat → Int32) (o : Int32 × Nat × Nat) : whyO z o < 0 ∨ whyO z o = 0 := by
  unfold whyO
  split
  · exact whyJ_c _ _
  · split
    · exact whyC_c _ _ _ _ _
    · exact whyP_c _ _
/-- the orders from i on, d of them -/
def prO (c : Nat → Int32) : Nat → Nat → (Nat → Int32) → Option (Nat × Int32) × (Nat → Int32)
  | 0, _, z => (none, z)
  | d + 1, i, z => if whyO z (ordN c (stO c i)).2.2 < 0 then (some (i, whyO z (ordN c (stO c i)).2.2), z) else prO c d (i + 1) (actO z (ordN c (stO c i)).2.2)
theorem XW.act {z : Nat → Int32} {b : Nat} {o : Int32 × Nat × Nat} (h : XW z b) (hb : b < 1000000) (hw : whyO z o = 0) : XW (actO z o) (b + 1) := by
  obtain ⟨h1, h2⟩ := h
  obtain ⟨n, k, c, hM, hE, hc⟩ := id h1
  obtain ⟨⟨m, hL⟩, -⟩ := id hM
  have e11 := hM.ixn
  have e12 := hL.ixm
  rw [e11] at h2
  unfold whyO at hw
  unfold actO
  rw [e11, e12] at hw
  rw [e11, e12]
  by_cases g1 : o.1 = 119
  · rw [if_pos g1] at hw ⊢
    obtain ⟨p1, p2⟩ := whyJ_0 hM.2.2.2.1 hM.2.2.2.2.1 hw
    have hM2 := hM.join p2 p1
    exact ⟨h1.join hb hw, by rw [hM2.ixn]; exact h2.join hM.2.2.2.1 p2 _⟩
  · rw [if_neg g1] at hw ⊢
    by_cases g2 : o.1 = 99
    · rw [if_pos g2] at hw ⊢
      obtain ⟨pf, pt, hne, t, hcal, ht, hcn⟩ := whyC_0 hL hw
      rw [hcal]
      dsimp only
      obtain ⟨hM2, hL2, hE2⟩ := MV.call hM hL hE ht hcn pf pt hne
      exact ⟨⟨n, k, c, hM2, hE2.mono (by omega), hc⟩, by rw [hM2.ixn]; exact h2.call hL ht _ _⟩
    · rw [if_neg g2] at hw ⊢
      obtain ⟨k', hM2, -⟩ := hM.it hE (ix (nI o.2.1))
      exact ⟨(h1.it hw).mono (by omega), by rw [hM2.ixn]; exact h2.it hM _⟩
theorem prO_x (c : Nat → Int32) : ∀ d i (z : Nat → Int32) b, XW z b → b + d ≤ 1000000 → XW (prO c d i z).2 (b + d) := by
  intro d
  induction d with
  | zero => intro i z b h _; exact h
  | succ d ih =>
    intro i z b h hb
    simp only [prO]
    split
    · exact h.mono (by omega)
    · next g =>
      have := ih (i + 1) _ (b + 1) (h.act (by omega) ((whyO_c z _).resolve_left g)) (by omega)
      exact this.mono (by omega)
section J1
variable {l : Launch} {L : Nat} {I : Nat → Nat → Int32} {Q : Nat → Nat → Option Nat} {P : Option Value → PH → Prop} {τ : Nat → Nat → Nat} {b : Nat → Nat} {z : Nat → Int32} {w : Nat → Nat → Int32} {a n m k ln : Nat}
set_option maxRecDepth 100000 in
theorem p_step {a1 : Option Value} {v4 : Option Value} {c : Nat → Int32} {i N bd : Nat} (hQA : QA Q τ) (hZ : QZ Q) (hC : CA I 1 (τ 1) z n m k) (hM : MV z n k) (hL : Ln z n m) (hX : XW z bd) (hON : ON I c N) (hi : i < N) (hN : N ≤ 20) {a3 : Option Value} (h1 : whyO z (ordN c (stO c i)).2.2 < 0 → ∀ a3, Sy l 64 (149, 1788) 138 [some (.ref 0), a1, some (.int (nI i)), a3, some (.int (whyO z (ordN c (stO c i)).2.2))] [] (SC L, I, Q) P) (h2 : whyO z (ordN c (stO c i)).2.2 = 0 → ∀ I' n' m' k' a3 v4, CA I' 1 (τ 1) (actO z (ordN c (stO c i)).2.2) n' m' k' → MV (actO z (ordN c (stO c i)).2.2) n' k' → Ln (actO z (ordN c (stO c i)).2.2) n' m' → Fr I I' 1 → Sy l 64 (149, 1788) 39 [some (.ref 0), a1, some (.int (nI (i + 1))), a3, v4] [] (SC L, I', Q) P) : Sy l 64 (149, 1788) 50 [some (.ref 0), a1, some (.int (nI i)), a3, v4] [] (SC L, I, Q) P := by
  obtain ⟨o1, o2, o3⟩ := hON.2 i hi
  generalize (ordN c (stO c i)).2.2 = o at o1 o2 o3 h1 h2
  obtain ⟨sg, v, u⟩ := o
  dsimp only at o1 o2 o3
  have hB := tb1.1
  have hQ := (hQA _ tb1.1).1
  have hS := (hQA _ tb1.1).2
  have ii := ixp (show i < 20 by omega) (show 20 < 2147483648 by omega)
  have e11 := hM.ixn
  have e12 := hL.ixm
  have neg : ∀ x : Int32, x < 0 → ∀ a3, (∀ a3, Sy l 64 (149, 1788) 138 [some (.ref 0), a1, some (.int (nI i)), a3, some (.int x)] [] (SC L, I, Q) P) → Sy l 64 (149, 1788) 133 [some (.ref 0), a1, some (.int (nI i)), a3, some (.int x)] [] (SC L, I, Q) P := fun x hx a3 h => by
    refine wk ((fn0_ok l)) ok_64 10 (fun pc => pc == 138 || pc == 163) ?_
    simp only [fn0, kk_64, Option.toList_some, Option.toList_none, ex, catS, vC, isMk, sym, popN, goC, callOK, swL, List.map_cons, List.map_nil, List.replicate_zero, List.replicate_succ, List.append_nil, List.nil_append, List.cons_append, List.getElem?_cons_zero, List.getElem?_cons_succ, List.set_cons_zero, List.set_cons_succ, List.length_cons, List.length_nil, List.head?_cons, Nat.reduceAdd, Nat.reduceLT, Nat.reduceLeDiff, Nat.reduceBEq, Nat.reduceEqDiff, Nat.succ_ne_zero, Nat.zero_lt_succ, Nat.le_refl, sc_rows, kc_lit, nc_lit, wlk_rows, uR_s, uR_uR, true_and, and_true, true_or, or_true, false_or, or_false, and_false, false_and, or_self, and_self, if_true, if_false, Bool.false_eq_true, Bool.or_false, Bool.or_true, Bool.false_or, Bool.true_or, not_true_eq_false, not_false_eq_true, forall_const, true_implies, false_implies, implies_true, reduceIte, reduceCtorEq, neg_ge hx]
    exact h _
  have pos : ∀ (x : Int32) I' n' m' k' a3, ¬ x < 0 → whyO z (sg, v, u) = 0 → CA I' 1 (τ 1) (actO z (sg, v, u)) n' m' k' → MV (actO z (sg, v, u)) n' k' → Ln (actO z (sg, v, u)) n' m' → Fr I I' 1 → Sy l 64 (149, 1788) 133 [some (.ref 0), a1, some (.int (nI i)), a3, some (.int x)] [] (SC L, I', Q) P := fun x I' n' m' k' a3 hx hw q1 q2 q3 q4 => by
    have := h2 hw I' n' m' k' a3 (some (.int x)) q1 q2 q3 q4
    refine wk ((fn0_ok l)) ok_64 10 (fun pc => pc == 138 || pc == 39) ?_
    simp only [fn0, kk_64, Option.toList_some, Option.toList_none, ex, catS, vC, isMk, sym, popN, goC, callOK, swL, List.map_cons, List.map_nil, List.replicate_zero, List.replicate_succ, List.append_nil, List.nil_append, List.cons_append, List.getElem?_cons_zero, List.getElem?_cons_succ, List.set_cons_zero, List.set_cons_succ, List.length_cons, List.length_nil, List.head?_cons, Nat.reduceAdd, Nat.reduceLT, Nat.reduceLeDiff, Nat.reduceBEq, Nat.reduceEqDiff, Nat.succ_ne_zero, Nat.zero_lt_succ, Nat.le_refl, sc_rows, kc_lit, nc_lit, wlk_rows, uR_s, uR_uR, true_and, and_true, true_or, or_true, false_or, or_false, and_false, false_and, or_self, and_self, if_true, if_false, Bool.false_eq_true, Bool.or_false, Bool.or_true, Bool.false_or, Bool.true_or, not_true_eq_false, not_false_eq_true, forall_const, true_implies, false_implies, implies_true, reduceIte, reduceCtorEq, Int32.not_lt.mp hx, nI_up]
    exact this
  unfold whyO at h1
  dsimp only at h1
  have nn : ∀ {x y : Int32}, x = 0 → x < 0 → False := fun h q => by rw [h] at q; exact absurd q (by decide)
  by_cases g1 : sg = 119
  · subst g1
    have ew : whyO z (119, v, u) = whyJ z (nI v) := by unfold whyO; rw [if_pos rfl]
    have ea : actO z (119, v, u) = zJoin z (nI v) := by unfold actO; rw [if_pos rfl]
    rw [if_pos rfl] at h1
    refine wk ((fn0_ok l)) ok_64 30 (fun pc => pc == 87) ?_
    simp only [fn0, kk_64, Option.toList_some, Option.toList_none, ex, catS, vC, isMk, sym, popN, goC, callOK, swL, List.map_cons, List.map_nil, List.replicate_zero, List.replicate_succ, List.append_nil, List.nil_append, List.cons_append, List.getElem?_cons_zero, List.getElem?_cons_succ, List.set_cons_zero, List.set_cons_succ, List.length_cons, List.length_nil, List.head?_cons, Nat.reduceAdd, Nat.reduceLT, Nat.reduceLeDiff, Nat.reduceBEq, Nat.reduceEqDiff, Nat.succ_ne_zero, Nat.zero_lt_succ, Nat.le_refl, sc_rows, kc_lit, nc_lit, wlk_rows, uR_s, uR_uR, true_and, and_true, true_or, or_true, false_or, or_false, and_false, false_and, or_self, and_self, if_true, if_false, Bool.false_eq_true, Bool.or_false, Bool.or_true, Bool.false_or, Bool.true_or, not_true_eq_false, not_false_eq_true, forall_const, true_implies, false_implies, implies_true, reduceIte, reduceCtorEq, k0 L, kO L, hZ.1, hZ.2, ii, o1, o2]
    refine c_letJoin hB hQ hS hM hL hC (nI v) (fun hw => ?_) (fun hw I' hC' hF => ?_)
    · refine wk ((fn0_ok l)) ok_64 10 (fun pc => pc == 133) ?_
      simp only [fn0, kk_64, Option.toList_some, Option.toList_none, ex, catS, vC, isMk, sym, popN, goC, callOK, swL, List.map_cons, List.map_nil, List.replicate_zero, List.replicate_succ, List.append_nil, List.nil_append, List.cons_append, List.getElem?_cons_zero, List.getElem?_cons_succ, List.set_cons_zero, List.set_cons_succ, List.length_cons, List.length_nil, List.head?_cons, Nat.reduceAdd, Nat.reduceLT, Nat.reduceLeDiff, Nat.reduceBEq, Nat.reduceEqDiff, Nat.succ_ne_zero, Nat.zero_lt_succ, Nat.le_refl, sc_rows, kc_lit, nc_lit, wlk_rows, uR_s, uR_uR, true_and, and_true, true_or, or_true, false_or, or_false, and_false, false_and, or_self, and_self, if_true, if_false, Bool.false_eq_true, Bool.or_false, Bool.or_true, Bool.false_or, Bool.true_or, not_true_eq_false, not_false_eq_true, forall_const, true_implies, false_implies, implies_true, reduceIte, reduceCtorEq]
      exact neg _ hw _ (fun a3 => h1 hw a3)
    · obtain ⟨p1, p2⟩ := whyJ_0 hM.2.2.2.1 hM.2.2.2.2.1 hw
      have hM2 := hM.join p2 p1
      refine wk ((fn0_ok l)) ok_64 10 (fun pc => pc == 133) ?_
      simp only [fn0, kk_64, Option.toList_some, Option.toList_none, ex, catS, vC, isMk, sym, popN, goC, callOK, swL, List.map_cons, List.map_nil, List.replicate_zero, List.replicate_succ, List.append_nil, List.nil_append, List.cons_append, List.getElem?_cons_zero, List.getElem?_cons_succ, List.set_cons_zero, List.set_cons_succ, List.length_cons, List.length_nil, List.head?_cons, Nat.reduceAdd, Nat.reduceLT, Nat.reduceLeDiff, Nat.reduceBEq, Nat.reduceEqDiff, Nat.succ_ne_zero, Nat.zero_lt_succ, Nat.le_refl, sc_rows, kc_lit, nc_lit, wlk_rows, uR_s, uR_uR, true_and, and_true, true_or, or_true, false_or, or_false, and_false, false_and, or_self, and_self, if_true, if_false, Bool.false_eq_true, Bool.or_false, Bool.or_true, Bool.false_or, Bool.true_or, not_true_eq_false, not_false_eq_true, forall_const, true_implies, false_implies, implies_true, reduceIte, reduceCtorEq]
      exact pos _ I' n m (k + 1) _ (nI_pos (by omega)) (by rw [ew]; exact hw) (by rw [ea]; exact hC') (by rw [ea]; exact hM2) (by rw [ea]; exact hM2.ln (by rw [zJoin_o z _ (by omega)]; exact hL.2.2.1) hL.2.2.2.2.2.2.2) hF
  · by_cases g2 : sg = 99
    · subst g2
      have ew : whyO z (99, v, u) = whyC z n m (nI v) (nI u) := by unfold whyO; dsimp only; rw [if_neg (show ¬ (99 : Int32) = 119 by decide), if_pos rfl, e11, e12]
      rw [if_neg (show ¬ (99 : Int32) = 119 by decide), if_pos rfl, e11, e12] at h1
      have o3' := o3 rfl
      refine wk ((fn0_ok l)) ok_64 40 (fun pc => pc == 74 || pc == 123) ?_
      simp only [fn0, kk_64, Option.toList_some, Option.toList_none, ex, catS, vC, isMk, sym, popN, goC, callOK, swL, List.map_cons, List.map_nil, List.replicate_zero, List.replicate_succ, List.append_nil, List.nil_append, List.cons_append, List.getElem?_cons_zero, List.getElem?_cons_succ, List.set_cons_zero, List.set_cons_succ, List.length_cons, List.length_nil, List.head?_cons, Nat.reduceAdd, Nat.reduceLT, Nat.reduceLeDiff, Nat.reduceBEq, Nat.reduceEqDiff, Nat.succ_ne_zero, Nat.zero_lt_succ, Nat.le_refl, sc_rows, kc_lit, nc_lit, wlk_rows, uR_s, uR_uR, true_and, and_true, true_or, or_true, false_or, or_false, and_false, false_and, or_self, and_self, if_true, if_false, Bool.false_eq_true, Bool.or_false, Bool.or_true, Bool.false_or, Bool.true_or, not_true_eq_false, not_false_eq_true, forall_const, true_implies, false_implies, implies_true, reduceIte, reduceCtorEq, k0 L, kO L, hZ.1, hZ.2, ii, o1, o2, o3', show ((99 : Int32) = 119) = False by decide]
      refine c_takeCall hB hQ hS hM hL hC (nI v) (nI u) (fun hw => ?_) (fun hw t hcal ht hcn I' hC' hF => ?_)
      · refine wk ((fn0_ok l)) ok_64 10 (fun pc => pc == 133) ?_
        simp only [fn0, kk_64, Option.toList_some, Option.toList_none, ex, catS, vC, isMk, sym, popN, goC, callOK, swL, List.map_cons, List.map_nil, List.replicate_zero, List.replicate_succ, List.append_nil, List.nil_append, List.cons_append, List.getElem?_cons_zero, List.getElem?_cons_succ, List.set_cons_zero, List.set_cons_succ, List.length_cons, List.length_nil, List.head?_cons, Nat.reduceAdd, Nat.reduceLT, Nat.reduceLeDiff, Nat.reduceBEq, Nat.reduceEqDiff, Nat.succ_ne_zero, Nat.zero_lt_succ, Nat.le_refl, sc_rows, kc_lit, nc_lit, wlk_rows, uR_s, uR_uR, true_and, and_true, true_or, or_true, false_or, or_false, and_false, false_and, or_self, and_self, if_true, if_false, Bool.false_eq_true, Bool.or_false, Bool.or_true, Bool.false_or, Bool.true_or, not_true_eq_false, not_false_eq_true, forall_const, true_implies, false_implies, implies_true, reduceIte, reduceCtorEq]
        exact neg _ hw _ (fun a3 => h1 hw a3)
      · have ea : actO z (99, v, u) = zCl z t (nI v) (nI u) m := by unfold actO; dsimp only; rw [if_neg (show ¬ (99 : Int32) = 119 by decide), if_pos rfl, e11, e12, hcal]
        obtain ⟨n1, k1, c1, hM1, hE1, hc1⟩ := hX.1
        have hn1 : n1 = n := by rw [← hM1.ixn, e11]
        have hk1 : k1 = k := (nI_eq (by have := hM1.2.2.2.2.1; omega) (by have := hM.2.2.2.2.1; omega)).mp (hM1.2.2.2.1.symm.trans hM.2.2.2.1)
        subst hn1 hk1
        obtain ⟨pf, pt, hne, -⟩ := whyC_0 hL hw
        obtain ⟨hM2, hL2, -⟩ := MV.call hM hL hE1 ht hcn pf pt hne
        have hpl := hX.2
        rw [e11] at hpl
        refine wk ((fn0_ok l)) ok_64 10 (fun pc => pc == 133) ?_
        simp only [fn0, kk_64, Option.toList_some, Option.toList_none, ex, catS, vC, isMk, sym, popN, goC, callOK, swL, List.map_cons, List.map_nil, List.replicate_zero, List.replicate_succ, List.append_nil, List.nil_append, List.cons_append, List.getElem?_cons_zero, List.getElem?_cons_succ, List.set_cons_zero, List.set_cons_succ, List.length_cons, List.length_nil, List.head?_cons, Nat.reduceAdd, Nat.reduceLT, Nat.reduceLeDiff, Nat.reduceBEq, Nat.reduceEqDiff, Nat.succ_ne_zero, Nat.zero_lt_succ, Nat.le_refl, sc_rows, kc_lit, nc_lit, wlk_rows, uR_s, uR_uR, true_and, and_true, true_or, or_true, false_or, or_false, and_false, false_and, or_self, and_self, if_true, if_false, Bool.false_eq_true, Bool.or_false, Bool.or_true, Bool.false_or, Bool.true_or, not_true_eq_false, not_false_eq_true, forall_const, true_implies, false_implies, implies_true, reduceIte, reduceCtorEq]
        exact pos _ I' _ _ _ _ (hpl t ht) (by rw [ew]; exact hw) (by rw [ea]; exact hC') (by rw [ea]; exact hM2) (by rw [ea]; exact hL2) hF
    · have ew : whyO z (sg, v, u) = whyP z (nI v) := by unfold whyO; rw [if_neg g1, if_neg g2]
      have ea : actO z (sg, v, u) = zIt z (ix (nI v)) := by unfold actO; rw [if_neg g1, if_neg g2]
      rw [if_neg g1, if_neg g2] at h1
      refine wk ((fn0_ok l)) ok_64 40 (fun pc => pc == 74 || pc == 101) ?_
      simp only [fn0, kk_64, Option.toList_some, Option.toList_none, ex, catS, vC, isMk, sym, popN, goC, callOK, swL, List.map_cons, List.map_nil, List.replicate_zero, List.replicate_succ, List.append_nil, List.nil_append, List.cons_append, List.getElem?_cons_zero, List.getElem?_cons_succ, List.set_cons_zero, List.set_cons_succ, List.length_cons, List.length_nil, List.head?_cons, Nat.reduceAdd, Nat.reduceLT, Nat.reduceLeDiff, Nat.reduceBEq, Nat.reduceEqDiff, Nat.succ_ne_zero, Nat.zero_lt_succ, Nat.le_refl, sc_rows, kc_lit, nc_lit, wlk_rows, uR_s, uR_uR, true_and, and_true, true_or, or_true, false_or, or_false, and_false, false_and, or_self, and_self, if_true, if_false, Bool.false_eq_true, Bool.or_false, Bool.or_true, Bool.false_or, Bool.true_or, not_true_eq_false, not_false_eq_true, forall_const, true_implies, false_implies, implies_true, reduceIte, reduceCtorEq, k0 L, kO L, hZ.1, hZ.2, ii, o1, o2, eq_false g1, eq_false g2]
      refine c_letPass hB hQ hS hM hL hC (nI v) (fun hw => ?_) (fun hw I' k' m' hM' hL' hC' hF => ?_)
      · refine wk ((fn0_ok l)) ok_64 10 (fun pc => pc == 133) ?_
        simp only [fn0, kk_64, Option.toList_some, Option.toList_none, ex, catS, vC, isMk, sym, popN, goC, callOK, swL, List.map_cons, List.map_nil, List.replicate_zero, List.replicate_succ, List.append_nil, List.nil_append, List.cons_append, List.getElem?_cons_zero, List.getElem?_cons_succ, List.set_cons_zero, List.set_cons_succ, List.length_cons, List.length_nil, List.head?_cons, Nat.reduceAdd, Nat.reduceLT, Nat.reduceLeDiff, Nat.reduceBEq, Nat.reduceEqDiff, Nat.succ_ne_zero, Nat.zero_lt_succ, Nat.le_refl, sc_rows, kc_lit, nc_lit, wlk_rows, uR_s, uR_uR, true_and, and_true, true_or, or_true, false_or, or_false, and_false, false_and, or_self, and_self, if_true, if_false, Bool.false_eq_true, Bool.or_false, Bool.or_true, Bool.false_or, Bool.true_or, not_true_eq_false, not_false_eq_true, forall_const, true_implies, false_implies, implies_true, reduceIte, reduceCtorEq]
        exact neg _ hw _ (fun a3 => h1 hw a3)
      · obtain ⟨n1, k1, c1, hM1, hE1, hc1⟩ := hX.1
        refine wk ((fn0_ok l)) ok_64 10 (fun pc => pc == 133) ?_
        simp only [fn0, kk_64, Option.toList_some, Option.toList_none, ex, catS, vC, isMk, sym, popN, goC, callOK, swL, List.map_cons, List.map_nil, List.replicate_zero, List.replicate_succ, List.append_nil, List.nil_append, List.cons_append, List.getElem?_cons_zero, List.getElem?_cons_succ, List.set_cons_zero, List.set_cons_succ, List.length_cons, List.length_nil, List.head?_cons, Nat.reduceAdd, Nat.reduceLT, Nat.reduceLeDiff, Nat.reduceBEq, Nat.reduceEqDiff, Nat.succ_ne_zero, Nat.zero_lt_succ, Nat.le_refl, sc_rows, kc_lit, nc_lit, wlk_rows, uR_s, uR_uR, true_and, and_true, true_or, or_true, false_or, or_false, and_false, false_and, or_self, and_self, if_true, if_false, Bool.false_eq_true, Bool.or_false, Bool.or_true, Bool.false_or, Bool.true_or, not_true_eq_false, not_false_eq_true, forall_const, true_implies, false_implies, implies_true, reduceIte, reduceCtorEq]
        exact pos _ I' _ _ _ _ (pass_nn hM1 hE1.2.1 hc1 hw) (by rw [ew]; exact hw) (by rw [ea]; exact hC') (by rw [ea]; exact hM') (by rw [ea]; exact hL') hF
end J1

