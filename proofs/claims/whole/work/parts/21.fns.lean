/-! the reference's small methods: what they do, as functions of the cells -/
def QM (Q : Nat → Nat → Option Nat) : Prop := Q 149 0 = some 150 ∧ Q 149 1 = some 151 ∧ Q 149 2 = some 152 ∧ Q 149 4 = some 153 ∧ Q 149 6 = some 154 ∧ Q 149 12 = some 155
theorem kc_lit : KC 0 = 5 ∧ KC 1 = 4 ∧ KC 21 = 4 ∧ KC 41 = 4 ∧ KC 61 = 0 ∧ KC 62 = 10 ∧ KC 143 = 8 ∧ KC 144 = 1 ∧ KC 145 = 8 ∧ KC 146 = 7 ∧ KC 147 = 7 ∧ KC 148 = 8 ∧ KC 149 = 6 ∧ KC 150 = 7 ∧ KC 151 = 7 ∧ KC 152 = 7 ∧ KC 153 = 7 ∧ KC 154 = 7 ∧ KC 155 = 7 ∧ KC 1000 = 11 ∧ KC 1001 = 11 ∧ KC 1002 = 11 ∧ KC 1003 = 11 := by decide
theorem nc_lit (L : Nat) : NC L 62 = 4 ∧ NC L 143 = 60 ∧ NC L 145 = 20 ∧ NC L 146 = 20 ∧ NC L 147 = 20 ∧ NC L 148 = 0 ∧ NC L 150 = 228 ∧ NC L 151 = 228 ∧ NC L 152 = 912 ∧ NC L 153 = 228 ∧ NC L 154 = 60 ∧ NC L 155 = 66 ∧ NC L 1000 = 5 ∧ NC L 1001 = 5 ∧ NC L 1002 = 5 ∧ NC L 1003 = L := ⟨rfl, rfl, rfl, rfl, rfl, rfl, rfl, rfl, rfl, rfl, rfl, rfl, rfl, rfl, rfl, rfl⟩
/-- an index, as a natural number -/
abbrev ix (x : Int32) : Nat := x.toNatClampNeg
/-- rows for the walk -/
theorem wlk_rows : (∀ r : Nat, rvl (some r) = .ref r) ∧ rvl none = .null ∧ (∀ (acc st : List Value), popN 0 acc st = some (acc, st)) ∧ (∀ n acc v st, popN (n + 1) acc (v :: st) = popN n (v :: acc) st) := ⟨fun _ => rfl, rfl, fun _ _ => rfl, fun _ _ _ _ => rfl⟩
section T1
variable {l : Launch} {L : Nat} {I : Nat → Nat → Int32} {Q : Nat → Nat → Option Nat} {P : Option Value → PH → Prop}
set_option maxRecDepth 100000 in
theorem s_of (hQ : QM Q) (t w : Int32) (hi : vp_in (72 + 13 * t + w) 228) (hp : P (some (.int (I 150 (ix (72 + 13 * t + w))))) (SC L, I, Q)) : Runs l 86 [.ref 149, .int t, .int w] (SC L, I, Q) P := by
  refine run0 (n := 0) mok_86 ⟨rfl, rfl⟩ rfl (wk (fn0_ok l) ok_86 20 (fun _ => false) ?_)
  simp only [kk_86, ex, sym, List.map_cons, List.map_nil, List.replicate_zero, List.append_nil, List.getElem?_cons_zero, List.getElem?_cons_succ, Nat.reduceAdd, SC, kc_lit, nc_lit, hQ.1, wlk_rows, Nat.reduceLT, true_and, and_true, Bool.false_eq_true, if_false]
  trace_state
  sorry
end T1
