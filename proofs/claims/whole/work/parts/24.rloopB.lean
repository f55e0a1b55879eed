/-! the reference: leaving the line, the quick ones, who rides, fares, rides -/
theorem upd_tp (z : Nat → Int32) (i w u : Nat) (v : Int32) : upd z (tp i w) v (tp i u) = if u = w then v else z (tp i u) := by
  simp only [upd, tp]
  by_cases h : u = w
  · subst h; simp
  · rw [if_neg (by omega), if_neg h]
theorem upd_tpS (z : Nat → Int32) (i w : Nat) {k : Nat} (v : Int32) (h : k < 72) : upd z (tp i w) v k = z k := by
  simp only [upd, tp]
  rw [if_neg (by omega)]
theorem upd_S (z : Nat → Int32) (i u : Nat) {k : Nat} (v : Int32) (h : k < 72) : upd z k v (tp i u) = z (tp i u) := by
  simp only [upd, tp]
  rw [if_neg (by omega)]
theorem uR_self {α : Type} (f : Nat → Nat → α) (p : Nat) : uR f p (f p) = f := by
  funext q
  by_cases hq : q = p
  · subst hq; rw [uR_s]
  · rw [uR_n _ _ hq]
def shL (z : Nat → Int32) (p k : Nat) : Nat → Int32 := fun j => if 15 + p ≤ j ∧ j < 15 + k then z (j + 1) else z j
theorem shL_step (z : Nat → Int32) {p k : Nat} (h : p ≤ k) : upd (shL z p k) (15 + k) (shL z p k (15 + k + 1)) = shL z p (k + 1) := by
  funext j
  simp only [upd, shL]
  by_cases e : j = 15 + k
  · subst e
    rw [if_pos rfl, if_neg (by omega), if_pos (by omega)]
  · rw [if_neg e]
    by_cases e2 : 15 + p ≤ j ∧ j < 15 + k
    · rw [if_pos e2, if_pos (by omega)]
    · rw [if_neg e2, if_neg (by omega)]
def zLeave (z : Nat → Int32) (i p m : Nat) : Nat → Int32 := upd (shL (upd z 12 (nI (m - 1))) p (m - 1)) (tp i 8) 0
/-- the last taxi of a plate, among the first n -/
def fTx (z : Nat → Int32) (p : Int32) : Nat → Nat
  | 0 => 0
  | n + 1 => if z (tp n 0) = p then n else fTx z p n
theorem fTx_ok (z : Nat → Int32) (p : Int32) : ∀ n, (∃ i, i < n ∧ z (tp i 0) = p) → fTx z p n < n ∧ z (tp (fTx z p n) 0) = p := by
  intro n
  induction n with
  | zero => rintro ⟨i, h, -⟩; omega
  | succ n ih =>
    rintro ⟨i, h1, h2⟩
    simp only [fTx]
    by_cases e : z (tp n 0) = p
    · rw [if_pos e]; exact ⟨by omega, e⟩
    · rw [if_neg e]
      obtain ⟨a, b⟩ := ih ⟨i, by
        by_cases q : i = n
        · subst q; exact absurd h2 e
        · omega, h2⟩
      exact ⟨by omega, b⟩
theorem fTx_eq {z : Nat → Int32} {p : Int32} {n i : Nat} (hU : ∀ i j, i < n → j < n → z (tp i 0) = z (tp j 0) → i = j) (hi : i < n) (he : z (tp i 0) = p) : fTx z p n = i := by
  obtain ⟨a, b⟩ := fTx_ok z p n ⟨i, hi, he⟩
  exact hU _ _ a hi (b.trans he.symm)
theorem fTx_same {z z' : Nat → Int32} (p : Int32) (h : ∀ i, z' (tp i 0) = z (tp i 0)) : ∀ n, fTx z' p n = fTx z p n := by
  intro n
  induction n with
  | zero => rfl
  | succ n ih => simp only [fTx, h, ih]
/-- the taxi at a place in the line -/
abbrev lx (z : Nat → Int32) (n k : Nat) : Nat := fTx z (z (15 + k)) n
/-- each plate in the line is a taxi's -/
def LnOK (z : Nat → Int32) (n m : Nat) : Prop := ∀ k, k < m → ∃ i, i < n ∧ z (tp i 0) = z (15 + k)
theorem lx_ok {z : Nat → Int32} {n m k : Nat} (h : LnOK z n m) (hk : k < m) : lx z n k < n ∧ z (tp (lx z n k) 0) = z (15 + k) := fTx_ok _ _ _ (h k hk)
/-- how many at the head came back quickly -/
def qO (z : Nat → Int32) (n : Nat) : Nat → Nat → Nat
  | 0, k => k
  | d + 1, k => if z (tp (lx z n k) 8) = 1 then qO z n d (k + 1) else k
theorem qO_le (z : Nat → Int32) (n : Nat) : ∀ d k, k ≤ qO z n d k ∧ qO z n d k ≤ k + d := by
  intro d
  induction d with
  | zero => intro k; simp [qO]
  | succ d ih =>
    intro k
    simp only [qO]
    split
    · have := ih (k + 1); omega
    · omega
abbrev isLongZ (z : Nat → Int32) (a b : Int32) : Prop := z 2 ≤ sz32 (b - a)
def fv : Option Nat → Int32
  | none => -5
  | some i => nI i
/-- who rides: from the line's end to its head -/
def rdS (z : Nat → Int32) (isL : Prop) [Decidable isL] (t : Nat) (f : Option Nat) : Option Nat := match f with
  | none => if may z t then some t else none
  | some g => if may z t ∧ (¬ isL ∨ z (tp t 5) ≤ z (tp g 5)) then some t else some g
def rd (z : Nat → Int32) (n : Nat) (isL : Prop) [Decidable isL] : Nat → Option Nat → Option Nat
  | 0, f => f
  | k + 1, f => rd z n isL k (rdS z isL (lx z n k) f)
abbrev rider (z : Nat → Int32) (n m : Nat) (b : Int32) : Option Nat := rd z n (isLongZ z 10 b) m none
def zFare (z : Nat → Int32) (i : Nat) (a b r : Int32) : Nat → Int32 := upd (upd (upd (upd (upd z (tp i 4) (z (tp i 4) + 1)) (tp i 5) (z (tp i 5) + b2 (isLongZ z a b))) (tp i 12) (b2 (¬ r = 0 ∧ ¬ isLongZ z a b))) (tp i 10) a) (tp i 11) b
def zRide (z : Nat → Int32) (i : Nat) : Nat → Int32 := upd (upd (upd z (tp i 1) 2) (tp i 2) (sz32 (z (tp i 11) - z (tp i 10)) * z 0)) 6 (z 6 + 1)
section T5
variable {l : Launch} {L : Nat} {I : Nat → Nat → Int32} {Q : Nat → Nat → Option Nat} {P : Option Value → PH → Prop}
theorem r_taxiF (hQ : QM Q) {n : Nat} (hn : I 150 11 = nI n) (hn2 : n ≤ 12) (p : Int32) (hex : ∃ i, i < n ∧ I 150 (tp i 0) = p) (h1 : P (some (.int (nI (fTx (I 150) p n)))) (SC L, I, Q)) : Runs l 89 [.ref 149, .int p] (SC L, I, Q) P := by
  have key : ∀ d i f, i + d = n → ((∃ j, j < i ∧ I 150 (tp j 0) = p) → f = nI (fTx (I 150) p i)) → Sy l 89 (156, 3525) 5 [some (.ref 149), some (.int p), some (.int f), some (.int (nI i))] [] (SC L, I, Q) P := by
    intro d
    induction d with
    | zero =>
      intro i f hi hf
      have : i = n := by omega
      subst this
      refine wk (fn1_ok l L) ok_89 30 (fun pc => pc == 5) ?_
      simp only [fn1, kk_89, Option.toList_some, Option.toList_none, ex, sym, popN, goC, callOK, swL, List.map_cons, List.map_nil, List.replicate_zero, List.replicate_succ, List.append_nil, List.nil_append, List.cons_append, List.getElem?_cons_zero, List.getElem?_cons_succ, List.set_cons_zero, List.set_cons_succ, List.length_cons, List.length_nil, List.head?_cons, Nat.reduceAdd, Nat.reduceLT, Nat.reduceLeDiff, Nat.reduceBEq, Nat.reduceEqDiff, Nat.succ_ne_zero, Nat.zero_lt_succ, Nat.le_refl, sc_rows, kc_lit, nc_lit, wlk_rows, uR_s, uR_uR, true_and, and_true, true_or, or_true, false_or, or_false, and_false, false_and, or_self, and_self, if_true, if_false, Bool.false_eq_true, Bool.or_false, Bool.or_true, Bool.false_or, Bool.true_or, not_true_eq_false, not_false_eq_true, forall_const, true_implies, false_implies, implies_true, reduceIte, reduceCtorEq, hQ.1, hn, leT (Nat.le_refl i) (show i < 2147483648 by omega), fA_in, fA_size, fA_of, fA_lay, fA_tally, fA_waits, MOKh_eq, setZ_eq, ix_lit, in_lit, lt_lit, cl_lit, nz_lit]
      rw [hf hex]
      exact h1
    | succ d ih =>
      intro i f hi hf
      refine wk (fn1_ok l L) ok_89 30 (fun pc => pc == 5) ?_
      simp only [fn1, kk_89, Option.toList_some, Option.toList_none, ex, sym, popN, goC, callOK, swL, List.map_cons, List.map_nil, List.replicate_zero, List.replicate_succ, List.append_nil, List.nil_append, List.cons_append, List.getElem?_cons_zero, List.getElem?_cons_succ, List.set_cons_zero, List.set_cons_succ, List.length_cons, List.length_nil, List.head?_cons, Nat.reduceAdd, Nat.reduceLT, Nat.reduceLeDiff, Nat.reduceBEq, Nat.reduceEqDiff, Nat.succ_ne_zero, Nat.zero_lt_succ, Nat.le_refl, sc_rows, kc_lit, nc_lit, wlk_rows, uR_s, uR_uR, true_and, and_true, true_or, or_true, false_or, or_false, and_false, false_and, or_self, and_self, if_true, if_false, Bool.false_eq_true, Bool.or_false, Bool.or_true, Bool.false_or, Bool.true_or, not_true_eq_false, not_false_eq_true, forall_const, true_implies, false_implies, implies_true, reduceIte, reduceCtorEq, hQ.1, hQ, hn, leF (show i < n by omega) (show n < 2147483648 by omega), smI (show i < 2147483648 by omega), show i < 12 by omega, nI_up, fA_in, fA_size, fA_of, fA_lay, fA_tally, fA_waits, MOKh_eq, setZ_eq, ix_lit, in_lit, lt_lit, cl_lit, nz_lit]
      refine ⟨fun g => ih (i + 1) f (by omega) (fun z => ?_), fun g => ih (i + 1) (nI i) (by omega) (fun z => by simp only [fTx]; rw [if_pos g])⟩
      obtain ⟨j, z1, z2⟩ := z
      simp only [fTx]
      rw [if_neg g]
      refine hf ⟨j, ?_, z2⟩
      by_cases q : j = i
      · subst q; exact absurd z2 g
      · omega
  refine run0 (n := 2) mok_89 ⟨rfl, rfl⟩ rfl ?_
  refine wk (fn1_ok l L) ok_89 30 (fun pc => pc == 5) ?_
  simp only [fn1, kk_89, Option.toList_some, Option.toList_none, ex, sym, popN, goC, callOK, swL, List.map_cons, List.map_nil, List.replicate_zero, List.replicate_succ, List.append_nil, List.nil_append, List.cons_append, List.getElem?_cons_zero, List.getElem?_cons_succ, List.set_cons_zero, List.set_cons_succ, List.length_cons, List.length_nil, List.head?_cons, Nat.reduceAdd, Nat.reduceLT, Nat.reduceLeDiff, Nat.reduceBEq, Nat.reduceEqDiff, Nat.succ_ne_zero, Nat.zero_lt_succ, Nat.le_refl, sc_rows, kc_lit, nc_lit, wlk_rows, uR_s, uR_uR, true_and, and_true, true_or, or_true, false_or, or_false, and_false, false_and, or_self, and_self, if_true, if_false, Bool.false_eq_true, Bool.or_false, Bool.or_true, Bool.false_or, Bool.true_or, not_true_eq_false, not_false_eq_true, forall_const, true_implies, false_implies, implies_true, reduceIte, reduceCtorEq, fA_in, fA_size, fA_of, fA_lay, fA_tally, fA_waits, MOKh_eq, setZ_eq, ix_lit, in_lit, lt_lit, cl_lit, nz_lit]
  exact key n 0 (-5) (by omega) (fun ⟨j, z, _⟩ => absurd z (by omega))
set_option maxRecDepth 100000 in
theorem r_leaveLine (hQ : QM Q) {m i : Nat} (hm : I 150 12 = nI m) (hm2 : m ≤ 12) (hi : i < 12) (h1 : ∀ p, p < m → I 150 (15 + p) = I 150 (tp i 0) → P none (SC L, uR I 150 (zLeave (I 150) i p m), Q)) (h2 : (∀ p, p < m → I 150 (15 + p) ≠ I 150 (tp i 0)) → P none (SC L, uR I 150 (upd (I 150) (tp i 8) 0), Q)) : Runs l 98 [.ref 149, .int (nI i)] (SC L, I, Q) P := by
  refine run0 (n := 2) mok_98 ⟨rfl, rfl⟩ rfl ?_
  refine wk (fn1_ok l L) ok_98 30 (fun pc => pc == 30) ?_
  simp only [fn1, kk_98, Option.toList_some, Option.toList_none, ex, sym, popN, goC, callOK, swL, List.map_cons, List.map_nil, List.replicate_zero, List.replicate_succ, List.append_nil, List.nil_append, List.cons_append, List.getElem?_cons_zero, List.getElem?_cons_succ, List.set_cons_zero, List.set_cons_succ, List.length_cons, List.length_nil, List.head?_cons, Nat.reduceAdd, Nat.reduceLT, Nat.reduceLeDiff, Nat.reduceBEq, Nat.reduceEqDiff, Nat.succ_ne_zero, Nat.zero_lt_succ, Nat.le_refl, sc_rows, kc_lit, nc_lit, wlk_rows, uR_s, uR_uR, true_and, and_true, true_or, or_true, false_or, or_false, and_false, false_and, or_self, and_self, if_true, if_false, Bool.false_eq_true, Bool.or_false, Bool.or_true, Bool.false_or, Bool.true_or, not_true_eq_false, not_false_eq_true, forall_const, true_implies, false_implies, implies_true, reduceIte, reduceCtorEq, hQ.1, hQ, smI (show i < 2147483648 by omega), hi, fA_in, fA_size, fA_of, fA_lay, fA_tally, fA_waits, MOKh_eq, setZ_eq, ix_lit, in_lit, lt_lit, cl_lit, nz_lit]
  refine r_placeInLine hQ hm hm2 _ (fun p hp he => ?_) (fun hno => ?_)
  · refine wk (fn1_ok l L) ok_98 30 (fun pc => pc == 30) ?_
    simp only [fn1, kk_98, Option.toList_some, Option.toList_none, ex, sym, popN, goC, callOK, swL, List.map_cons, List.map_nil, List.replicate_zero, List.replicate_succ, List.append_nil, List.nil_append, List.cons_append, List.getElem?_cons_zero, List.getElem?_cons_succ, List.set_cons_zero, List.set_cons_succ, List.length_cons, List.length_nil, List.head?_cons, Nat.reduceAdd, Nat.reduceLT, Nat.reduceLeDiff, Nat.reduceBEq, Nat.reduceEqDiff, Nat.succ_ne_zero, Nat.zero_lt_succ, Nat.le_refl, sc_rows, kc_lit, nc_lit, wlk_rows, uR_s, uR_uR, true_and, and_true, true_or, or_true, false_or, or_false, and_false, false_and, or_self, and_self, if_true, if_false, Bool.false_eq_true, Bool.or_false, Bool.or_true, Bool.false_or, Bool.true_or, not_true_eq_false, not_false_eq_true, forall_const, true_implies, false_implies, implies_true, reduceIte, reduceCtorEq, Option.toList, n5F (show p < 2147483648 by omega), hQ.1, hm, nI_dn (show 0 < m by omega), fA_in, fA_size, fA_of, fA_lay, fA_tally, fA_waits, MOKh_eq, setZ_eq, ix_lit, in_lit, lt_lit, cl_lit, nz_lit]
    have loop : ∀ d k, k + d = m - 1 → p ≤ k → Sy l 98 (156, 3525) 30 [some (.ref 149), some (.int (nI i)), some (.int (nI p)), some (.int (nI k))] [] (SC L, uR I 150 (shL (upd (I 150) 12 (nI (m - 1))) p k), Q) P := by
      intro d
      induction d with
      | zero =>
        intro k hk hpk
        have : k = m - 1 := by omega
        subst this
        have e1 : shL (upd (I 150) 12 (nI (m - 1))) p (m - 1) 12 = nI (m - 1) := by
          simp only [shL, upd]
          rw [if_neg (by omega), if_pos trivial]
        refine wk (fn1_ok l L) ok_98 30 (fun pc => pc == 30) ?_
        simp only [fn1, kk_98, Option.toList_some, Option.toList_none, ex, sym, popN, goC, callOK, swL, List.map_cons, List.map_nil, List.replicate_zero, List.replicate_succ, List.append_nil, List.nil_append, List.cons_append, List.getElem?_cons_zero, List.getElem?_cons_succ, List.set_cons_zero, List.set_cons_succ, List.length_cons, List.length_nil, List.head?_cons, Nat.reduceAdd, Nat.reduceLT, Nat.reduceLeDiff, Nat.reduceBEq, Nat.reduceEqDiff, Nat.succ_ne_zero, Nat.zero_lt_succ, Nat.le_refl, sc_rows, kc_lit, nc_lit, wlk_rows, uR_s, uR_uR, true_and, and_true, true_or, or_true, false_or, or_false, and_false, false_and, or_self, and_self, if_true, if_false, Bool.false_eq_true, Bool.or_false, Bool.or_true, Bool.false_or, Bool.true_or, not_true_eq_false, not_false_eq_true, forall_const, true_implies, false_implies, implies_true, reduceIte, reduceCtorEq, hQ.1, hQ, e1, leT (Nat.le_refl (m - 1)) (show m - 1 < 2147483648 by omega), smI (show i < 2147483648 by omega), hi, fA_in, fA_size, fA_of, fA_lay, fA_tally, fA_waits, MOKh_eq, setZ_eq, ix_lit, in_lit, lt_lit, cl_lit, nz_lit]
        exact h1 p hp he
      | succ d ih =>
        intro k hk hpk
        have e1 : shL (upd (I 150) 12 (nI (m - 1))) p k 12 = nI (m - 1) := by
          simp only [shL, upd]
          rw [if_neg (by omega), if_pos trivial]
        have := ih (k + 1) (by omega) (by omega)
        rw [← shL_step _ hpk] at this
        refine wk (fn1_ok l L) ok_98 30 (fun pc => pc == 30) ?_
        simp only [fn1, kk_98, Option.toList_some, Option.toList_none, ex, sym, popN, goC, callOK, swL, List.map_cons, List.map_nil, List.replicate_zero, List.replicate_succ, List.append_nil, List.nil_append, List.cons_append, List.getElem?_cons_zero, List.getElem?_cons_succ, List.set_cons_zero, List.set_cons_succ, List.length_cons, List.length_nil, List.head?_cons, Nat.reduceAdd, Nat.reduceLT, Nat.reduceLeDiff, Nat.reduceBEq, Nat.reduceEqDiff, Nat.succ_ne_zero, Nat.zero_lt_succ, Nat.le_refl, sc_rows, kc_lit, nc_lit, wlk_rows, uR_s, uR_uR, true_and, and_true, true_or, or_true, false_or, or_false, and_false, false_and, or_self, and_self, if_true, if_false, Bool.false_eq_true, Bool.or_false, Bool.or_true, Bool.false_or, Bool.true_or, not_true_eq_false, not_false_eq_true, forall_const, true_implies, false_implies, implies_true, reduceIte, reduceCtorEq, hQ.1, hQ, e1, leF (show k < m - 1 by omega) (show m - 1 < 2147483648 by omega), nI_add15, nI_up, ixp (show 15 + k < 228 by omega) (by omega), ixp (show 15 + k + 1 < 228 by omega) (by omega), fA_in, fA_size, fA_of, fA_lay, fA_tally, fA_waits, MOKh_eq, setZ_eq, ix_lit, in_lit, lt_lit, cl_lit, nz_lit]
        exact this
    have e0 : shL (upd (I 150) 12 (nI (m - 1))) p p = upd (I 150) 12 (nI (m - 1)) := by
      funext j
      simp only [shL]
      rw [if_neg (by omega)]
    have := loop (m - 1 - p) p (by omega) (Nat.le_refl p)
    rw [e0] at this
    exact this
  · refine wk (fn1_ok l L) ok_98 30 (fun pc => pc == 30) ?_
    simp only [fn1, kk_98, Option.toList_some, Option.toList_none, ex, sym, popN, goC, callOK, swL, List.map_cons, List.map_nil, List.replicate_zero, List.replicate_succ, List.append_nil, List.nil_append, List.cons_append, List.getElem?_cons_zero, List.getElem?_cons_succ, List.set_cons_zero, List.set_cons_succ, List.length_cons, List.length_nil, List.head?_cons, Nat.reduceAdd, Nat.reduceLT, Nat.reduceLeDiff, Nat.reduceBEq, Nat.reduceEqDiff, Nat.succ_ne_zero, Nat.zero_lt_succ, Nat.le_refl, sc_rows, kc_lit, nc_lit, wlk_rows, uR_s, uR_uR, true_and, and_true, true_or, or_true, false_or, or_false, and_false, false_and, or_self, and_self, if_true, if_false, Bool.false_eq_true, Bool.or_false, Bool.or_true, Bool.false_or, Bool.true_or, not_true_eq_false, not_false_eq_true, forall_const, true_implies, false_implies, implies_true, reduceIte, reduceCtorEq, Option.toList, hQ.1, hQ, smI (show i < 2147483648 by omega), hi, fA_in, fA_size, fA_of, fA_lay, fA_tally, fA_waits, MOKh_eq, setZ_eq, ix_lit, in_lit, lt_lit, cl_lit, nz_lit]
    exact h2 hno
set_option maxRecDepth 100000 in
theorem r_quickOnes (hQ : QM Q) {n m : Nat} (hn : I 150 11 = nI n) (hn2 : n ≤ 12) (hm : I 150 12 = nI m) (hm2 : m ≤ 12) (hl : LnOK (I 150) n m) (h1 : P (some (.int (nI (qO (I 150) n m 0)))) (SC L, I, Q)) : Runs l 99 [.ref 149] (SC L, I, Q) P := by
  have loop : ∀ d k, k + d = m → qO (I 150) n d k = qO (I 150) n m 0 → Sy l 99 (156, 3525) 2 [some (.ref 149), some (.int (nI k))] [] (SC L, I, Q) P := by
    intro d
    induction d with
    | zero =>
      intro k hk hq
      have : k = m := by omega
      subst this
      refine wk (fn1_ok l L) ok_99 30 (fun pc => pc == 2) ?_
      simp only [fn1, kk_99, Option.toList_some, Option.toList_none, ex, sym, popN, goC, callOK, swL, List.map_cons, List.map_nil, List.replicate_zero, List.replicate_succ, List.append_nil, List.nil_append, List.cons_append, List.getElem?_cons_zero, List.getElem?_cons_succ, List.set_cons_zero, List.set_cons_succ, List.length_cons, List.length_nil, List.head?_cons, Nat.reduceAdd, Nat.reduceLT, Nat.reduceLeDiff, Nat.reduceBEq, Nat.reduceEqDiff, Nat.succ_ne_zero, Nat.zero_lt_succ, Nat.le_refl, sc_rows, kc_lit, nc_lit, wlk_rows, uR_s, uR_uR, true_and, and_true, true_or, or_true, false_or, or_false, and_false, false_and, or_self, and_self, if_true, if_false, Bool.false_eq_true, Bool.or_false, Bool.or_true, Bool.false_or, Bool.true_or, not_true_eq_false, not_false_eq_true, forall_const, true_implies, false_implies, implies_true, reduceIte, reduceCtorEq, hQ.1, hm, leT (Nat.le_refl k) (show k < 2147483648 by omega), fA_in, fA_size, fA_of, fA_lay, fA_tally, fA_waits, MOKh_eq, setZ_eq, ix_lit, in_lit, lt_lit, cl_lit, nz_lit]
      rw [← hq] at h1
      exact h1
    | succ d ih =>
      intro k hk hq
      refine wk (fn1_ok l L) ok_99 30 (fun pc => pc == 2) ?_
      simp only [fn1, kk_99, Option.toList_some, Option.toList_none, ex, sym, popN, goC, callOK, swL, List.map_cons, List.map_nil, List.replicate_zero, List.replicate_succ, List.append_nil, List.nil_append, List.cons_append, List.getElem?_cons_zero, List.getElem?_cons_succ, List.set_cons_zero, List.set_cons_succ, List.length_cons, List.length_nil, List.head?_cons, Nat.reduceAdd, Nat.reduceLT, Nat.reduceLeDiff, Nat.reduceBEq, Nat.reduceEqDiff, Nat.succ_ne_zero, Nat.zero_lt_succ, Nat.le_refl, sc_rows, kc_lit, nc_lit, wlk_rows, uR_s, uR_uR, true_and, and_true, true_or, or_true, false_or, or_false, and_false, false_and, or_self, and_self, if_true, if_false, Bool.false_eq_true, Bool.or_false, Bool.or_true, Bool.false_or, Bool.true_or, not_true_eq_false, not_false_eq_true, forall_const, true_implies, false_implies, implies_true, reduceIte, reduceCtorEq, hQ.1, hm, leF (show k < m by omega) (show m < 2147483648 by omega), nI_add15, ixp (show 15 + k < 228 by omega) (by omega), fA_in, fA_size, fA_of, fA_lay, fA_tally, fA_waits, MOKh_eq, setZ_eq, ix_lit, in_lit, lt_lit, cl_lit, nz_lit]
      refine r_taxiF hQ hn hn2 _ (hl k (by omega)) ?_
      have hlx := (lx_ok hl (show k < m by omega)).1
      refine wk (fn1_ok l L) ok_99 30 (fun pc => pc == 2) ?_
      simp only [fn1, kk_99, Option.toList_some, Option.toList_none, ex, sym, popN, goC, callOK, swL, List.map_cons, List.map_nil, List.replicate_zero, List.replicate_succ, List.append_nil, List.nil_append, List.cons_append, List.getElem?_cons_zero, List.getElem?_cons_succ, List.set_cons_zero, List.set_cons_succ, List.length_cons, List.length_nil, List.head?_cons, Nat.reduceAdd, Nat.reduceLT, Nat.reduceLeDiff, Nat.reduceBEq, Nat.reduceEqDiff, Nat.succ_ne_zero, Nat.zero_lt_succ, Nat.le_refl, sc_rows, kc_lit, nc_lit, wlk_rows, uR_s, uR_uR, true_and, and_true, true_or, or_true, false_or, or_false, and_false, false_and, or_self, and_self, if_true, if_false, Bool.false_eq_true, Bool.or_false, Bool.or_true, Bool.false_or, Bool.true_or, not_true_eq_false, not_false_eq_true, forall_const, true_implies, false_implies, implies_true, reduceIte, reduceCtorEq, Option.toList, hQ.1, hQ, smI (show lx (I 150) n k < 2147483648 by omega), show lx (I 150) n k < 12 by omega, nI_up, fA_in, fA_size, fA_of, fA_lay, fA_tally, fA_waits, MOKh_eq, setZ_eq, ix_lit, in_lit, lt_lit, cl_lit, nz_lit]
      simp only [qO] at hq
      refine ⟨fun g => ?_, fun g => ih (k + 1) (by omega) (by rw [if_pos g] at hq; exact hq)⟩
      rw [if_neg g] at hq
      rw [← hq] at h1
      exact h1
  refine run0 (n := 1) mok_99 ⟨rfl, rfl⟩ rfl ?_
  refine wk (fn1_ok l L) ok_99 30 (fun pc => pc == 2) ?_
  simp only [fn1, kk_99, Option.toList_some, Option.toList_none, ex, sym, popN, goC, callOK, swL, List.map_cons, List.map_nil, List.replicate_zero, List.replicate_succ, List.append_nil, List.nil_append, List.cons_append, List.getElem?_cons_zero, List.getElem?_cons_succ, List.set_cons_zero, List.set_cons_succ, List.length_cons, List.length_nil, List.head?_cons, Nat.reduceAdd, Nat.reduceLT, Nat.reduceLeDiff, Nat.reduceBEq, Nat.reduceEqDiff, Nat.succ_ne_zero, Nat.zero_lt_succ, Nat.le_refl, sc_rows, kc_lit, nc_lit, wlk_rows, uR_s, uR_uR, true_and, and_true, true_or, or_true, false_or, or_false, and_false, false_and, or_self, and_self, if_true, if_false, Bool.false_eq_true, Bool.or_false, Bool.or_true, Bool.false_or, Bool.true_or, not_true_eq_false, not_false_eq_true, forall_const, true_implies, false_implies, implies_true, reduceIte, reduceCtorEq, fA_in, fA_size, fA_of, fA_lay, fA_tally, fA_waits, MOKh_eq, setZ_eq, ix_lit, in_lit, lt_lit, cl_lit, nz_lit]
  exact loop m 0 (by omega) rfl
end T5
