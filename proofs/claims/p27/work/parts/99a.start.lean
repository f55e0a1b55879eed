/-! p27: the law's start, on -/
theorem tl_1 {w : Cond} (i : Nat) (h : tables_1_1[i]? = some w) : w ∈ lw_tbl := List.mem_append_right _ (List.mem_append_left _ (List.mem_of_getElem? h))
theorem tl_2 {w : Cond} (i : Nat) (h : tables_1_2[i]? = some w) : w ∈ lw_tbl := List.mem_append_right _ (List.mem_append_right _ (List.mem_append_left _ (List.mem_of_getElem? h)))
theorem tl_3 {w : Cond} (i : Nat) (h : tables_1_3[i]? = some w) : w ∈ lw_tbl := List.mem_append_right _ (List.mem_append_right _ (List.mem_append_right _ (List.mem_append_left _ (List.mem_of_getElem? h))))
theorem inst6 {s : State} {args : Array Value} (hts : ∀ w ∈ lw_tbl, w.before args s = true) : ∀ k, k < 6 → (Cond.instantiable (cNm k) (nFl k)).before args s = true := by
  intro k hk
  match k, hk with
  | 0, _ => exact hts _ (tl_1 173 rfl)
  | 1, _ => exact hts _ (tl_1 190 rfl)
  | 2, _ => exact hts _ (tl_1 89 rfl)
  | 3, _ => exact hts _ (tl_1 25 rfl)
  | 4, _ => exact hts _ (tl_1 18 rfl)
  | 5, _ => exact hts _ (tl_1 10 rfl)
theorem known6 {s : State} {args : Array Value} (hts : ∀ w ∈ lw_tbl, w.before args s = true) : ∃ (dC : Nat → ClassId) (dI : Nat → Nat → Nat), ∀ (k : Nat) (q : vw_C), vwCl[k]? = some q → u_Kn s q.1 q.2.1 q.2.2 (dC k) (dI k) := by
  have hkn : ∀ k, ∃ (cC : ClassId) (iS : Nat → Nat), k < 6 → u_Kn s (cNm k) (cT k) (nFl k) cC iS := by
    intro k
    by_cases hk : k < 6
    · obtain ⟨a, b, h⟩ := u_known hts (fun w hw => (List.mem_filter.mp (inW hk w hw)).1) (inst6 hts k hk)
      exact ⟨a, b, fun _ => h⟩
    · obtain ⟨a, b, h⟩ := u_known hts (fun w hw => (List.mem_filter.mp (inW (k := 0) (by omega) w hw)).1) (inst6 hts 0 (by omega))
      exact ⟨a, b, fun z => absurd z hk⟩
  refine ⟨fun k => Classical.choose (hkn k), fun k => Classical.choose (Classical.choose_spec (hkn k)), fun k q hq => ?_⟩
  have hk : k < 6 := (List.getElem?_eq_some_iff.mp hq).1
  have e := cl_at hk
  rw [hq] at e
  cases e
  exact Classical.choose_spec (Classical.choose_spec (hkn k)) hk
theorem ro_one {s : State} {args : Array Value} {A : Nat → Prop} (n : String) (f : Nat → Int32) (hA : ∀ a : Nat, a < s.heap.size → ¬ A a) (harr : (Cond.arrayOf (.static "TaxiRank$Town" n "[I") .int).before args s = true) (hlen : (Cond.eq (.length (.static "TaxiRank$Town" n "[I")) (.int 5)).before args s = true) (hel : ∀ j, j < 5 → (Cond.eq (.elem (.static "TaxiRank$Town" n "[I") (.int (Int32.ofNat j))) (.int (f j))).before args s = true) (hl : (Cond.laysStatic "TaxiRank$Town" n "[I").before args s = true) (hi : (Cond.initialized "TaxiRank$Town").before args s = true) : ∃ t : Nat, va_T .int t 5 (fun j => .int (f j)) A s s.heap ∧ va_Z "TaxiRank$Town" n "[I" (.ref t) A s s.heap := by
  obtain ⟨t, ht, hT⟩ := va_Tof (tm := .static "TaxiRank$Town" n "[I") (ty := .int) (N := 5) (f := fun j => .int (f j)) (A := A) (by decide) harr (va_eqt hlen) (fun j hj => va_eqt (hel j hj)) hA
  exact ⟨t, hT, va_Zof hl hi ht hA⟩
section ROS
variable {s : State} {args : Array Value} {A : Nat → Prop}
set_option maxRecDepth 100000 in
theorem ro_0 (hts : ∀ w ∈ lw_tbl, w.before args s = true) (hs : ∀ w ∈ flatC (Jvm.Cond.and given_1 narrow_1), w.before args s = true) (hA : ∀ a : Nat, a < s.heap.size → ¬ A a) : ∃ t : Nat, va_T .int t 5 (fun j => .int (loS j)) A s s.heap ∧ va_Z "TaxiRank$Town" "LOWEST" "[I" (.ref t) A s s.heap := by
  refine ro_one "LOWEST" loS hA (hs _ (by decide +kernel)) (hs _ (by decide +kernel)) (fun j hj => ?_) (hts _ (tl_2 236 rfl)) (hts _ (tl_1 2 rfl))
  match j, hj with
  | 0, _ => exact hs (.eq (.elem (.static "TaxiRank$Town" "LOWEST" "[I") (.int 0)) (.int 1)) (by decide +kernel)
  | 1, _ => exact hs (.eq (.elem (.static "TaxiRank$Town" "LOWEST" "[I") (.int 1)) (.int 1)) (by decide +kernel)
  | 2, _ => exact hs (.eq (.elem (.static "TaxiRank$Town" "LOWEST" "[I") (.int 2)) (.int 1)) (by decide +kernel)
  | 3, _ => exact hs (.eq (.elem (.static "TaxiRank$Town" "LOWEST" "[I") (.int 3)) (.int 30)) (by decide +kernel)
  | 4, _ => exact hs (.eq (.elem (.static "TaxiRank$Town" "LOWEST" "[I") (.int 4)) (.int 1)) (by decide +kernel)
set_option maxRecDepth 100000 in
theorem ro_1 (hts : ∀ w ∈ lw_tbl, w.before args s = true) (hs : ∀ w ∈ flatC (Jvm.Cond.and given_1 narrow_1), w.before args s = true) (hA : ∀ a : Nat, a < s.heap.size → ¬ A a) : ∃ t : Nat, va_T .int t 5 (fun j => .int (hiS j)) A s s.heap ∧ va_Z "TaxiRank$Town" "HIGHEST" "[I" (.ref t) A s s.heap := by
  refine ro_one "HIGHEST" hiS hA (hs _ (by decide +kernel)) (hs _ (by decide +kernel)) (fun j hj => ?_) (hts _ (tl_2 238 rfl)) (hts _ (tl_1 2 rfl))
  match j, hj with
  | 0, _ => exact hs (.eq (.elem (.static "TaxiRank$Town" "HIGHEST" "[I") (.int 0)) (.int 9)) (by decide +kernel)
  | 1, _ => exact hs (.eq (.elem (.static "TaxiRank$Town" "HIGHEST" "[I") (.int 1)) (.int 240)) (by decide +kernel)
  | 2, _ => exact hs (.eq (.elem (.static "TaxiRank$Town" "HIGHEST" "[I") (.int 2)) (.int 20)) (by decide +kernel)
  | 3, _ => exact hs (.eq (.elem (.static "TaxiRank$Town" "HIGHEST" "[I") (.int 3)) (.int 999)) (by decide +kernel)
  | 4, _ => exact hs (.eq (.elem (.static "TaxiRank$Town" "HIGHEST" "[I") (.int 4)) (.int 240)) (by decide +kernel)
set_option maxRecDepth 100000 in
theorem ro_2 (hts : ∀ w ∈ lw_tbl, w.before args s = true) (hs : ∀ w ∈ flatC (Jvm.Cond.and given_1 narrow_1), w.before args s = true) (hA : ∀ a : Nat, a < s.heap.size → ¬ A a) : ∃ t : Nat, va_T .int t 5 (fun j => .int (sat j)) A s s.heap ∧ va_Z "TaxiRank$Town" "AT_FIRST" "[I" (.ref t) A s s.heap := by
  refine ro_one "AT_FIRST" sat hA (hs _ (by decide +kernel)) (hs _ (by decide +kernel)) (fun j hj => ?_) (hts _ (tl_1 119 rfl)) (hts _ (tl_1 2 rfl))
  match j, hj with
  | 0, _ => exact hs (.eq (.elem (.static "TaxiRank$Town" "AT_FIRST" "[I") (.int 0)) (.int 2)) (by decide +kernel)
  | 1, _ => exact hs (.eq (.elem (.static "TaxiRank$Town" "AT_FIRST" "[I") (.int 1)) (.int 30)) (by decide +kernel)
  | 2, _ => exact hs (.eq (.elem (.static "TaxiRank$Town" "AT_FIRST" "[I") (.int 2)) (.int 7)) (by decide +kernel)
  | 3, _ => exact hs (.eq (.elem (.static "TaxiRank$Town" "AT_FIRST" "[I") (.int 3)) (.int 240)) (by decide +kernel)
  | 4, _ => exact hs (.eq (.elem (.static "TaxiRank$Town" "AT_FIRST" "[I") (.int 4)) (.int 45)) (by decide +kernel)
end ROS
/-- what the arrays hold that nobody writes; where they lie -/
def gI (xs : Nat → Int32) : Nat → Nat → Int32 := fun p => if p = 1000 then loS else if p = 1001 then hiS else if p = 1002 then sat else if p = 1003 then xs else fun _ => 0
def gA (t0 t1 t2 b : Nat) : Nat → Nat := fun p => if p = 1000 then t0 else if p = 1001 then t1 else if p = 1002 then t2 else b
theorem gI_0 (xs : Nat → Int32) : ∀ p, p < 1000 → gI xs p = fun _ => 0 := fun p hp => by
  unfold gI
  rw [if_neg (by omega), if_neg (by omega), if_neg (by omega), if_neg (by omega)]
theorem gI_K (xs : Nat → Int32) : KonI (gI xs) := fun _ _ => ⟨rfl, rfl⟩
theorem gI_2 (xs : Nat → Int32) : ∀ j, j < 5 → gI xs 1002 j = sat j := fun _ _ => rfl
theorem kc_hi {q : Nat} (h : 1004 ≤ q) : KC q = 0 := by
  unfold KC
  rw [if_neg (by omega), if_neg (by omega), if_neg (by omega), if_neg (by omega), if_neg (by omega), if_neg (by omega), if_neg (by omega), if_neg (by omega), if_neg (by omega), if_neg (by omega), if_neg (by omega), if_neg (by omega), if_neg (by omega)]
