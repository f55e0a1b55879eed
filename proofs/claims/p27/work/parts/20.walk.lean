/-! walking: many instructions at once -/
def sym (l : Launch) (fn : Nat → Option FN) (id : Nat) (lim : Nat × Nat) (P : Option Value → PH → Prop) (stp : Nat → Bool) : Nat → Nat → List (Option Value) → List Value → PH → Prop
  | 0, pc, ls, st, h => Sy l id lim pc ls st h P
  | n + 1, pc, ls, st, h => if stp pc = true then Sy l id lim pc ls st h P else match cd id pc with
    | some c => ex l fn (sym l fn id lim P stp n) (fun pc ls st h => Sy l id lim pc ls st h P) id lim P pc c ls st h
    | none => False
section WLK
variable {l : Launch} {fn : Nat → Option FN} {id : Nat} {lim : Nat × Nat} {P : Option Value → PH → Prop}
theorem sym_ok (hfn : fnOK l fn) (hok : ∀ q ∈ cod id, okI id q) (stp : Nat → Bool) : ∀ (n pc : Nat) (ls : List (Option Value)) (st : List Value) (h : PH), sym l fn id lim P stp n pc ls st h → Sy l id lim pc ls st h P := by
  intro n
  induction n with
  | zero => intro pc ls st h z; exact z
  | succ n ih =>
    intro pc ls st h z
    simp only [sym] at z
    split at z
    · exact z
    · split at z
      · next c hc => exact ex_ok hfn (hok _ (fnd_mem hc)) ih z
      · exact z.elim
/-- go on from here, n instructions at most, up to the places where stp says to stop -/
theorem wk (hfn : fnOK l fn) (hok : ∀ q ∈ cod id, okI id q) (n : Nat) (stp : Nat → Bool) {pc : Nat} {ls : List (Option Value)} {st : List Value} {h : PH} (hx : match cd id pc with
    | some c => ex l fn (sym l fn id lim P stp n) (fun pc ls st h => Sy l id lim pc ls st h P) id lim P pc c ls st h
    | none => False) : Sy l id lim pc ls st h P := by
  split at hx
  · next c hc => exact ex_ok hfn (hok _ (fnd_mem hc)) (fun pc ls st h z => sym_ok hfn hok stp n pc ls st h z) hx
  · exact hx.elim
theorem run0 {args : List Value} {h : PH} {n : Nat} (hid : MOK id) (hz : (mrm id).cells = 0 ∧ (mrm id).slots = 0) (hmn : (mmx id, true) = (args.length + n, noL args)) (k : Sy l id (h.1.1, h.1.2.1) 0 (args.map some ++ List.replicate n none) [] h P) : Runs l id args h P := by
  have hm : mmx id = args.length + n := congrArg Prod.fst hmn
  have hno : noL args = true := (congrArg Prod.snd hmn).symm
  refine run_of hid hno (by omega) ?_
  rw [hz.1, hz.2, show mmx id - args.length = n by omega]
  exact k
theorem Runs.mono {args : List Value} {h : PH} {P' : Option Value → PH → Prop} (hr : Runs l id args h P) (hp : ∀ v h', P v h' → P' v h') : Runs l id args h P' := by
  intro D G ro sz
  refine MetFree.mono (hr D G ro sz) (fun _ _ z => z) (fun _ _ _ _ _ z => z) ?_
  intro a s o t _ hq
  obtain ⟨⟨⟨v, h', G', h1, h2, h3⟩, h4⟩, h5⟩ := hq
  exact ⟨⟨⟨v, h', G', h1, hp v h' h2, h3⟩, h4⟩, h5⟩
end WLK
def fn0 : Nat → Option FN := fun _ => none
theorem fn0_ok (l : Launch) : fnOK l fn0 := fun y f h => by cases h
/-! the shape of all cells, behind the constructors -/
def twK (o : Nat) : Nat := if o = 0 then 4 else if o = 1 then 9 else if o < 14 then 3 else if o = 15 then 2 else 7
def twN (o : Nat) : Nat := if o = 1 then 12 else if o = 14 then 12 else if o = 16 then 15 else if o = 17 then 15 else if o = 18 then 15 else if o = 19 then 5 else 0
def KC (p : Nat) : Nat := if p = 0 then 5 else if p < 61 then twK ((p - 1) % 20) else if p = 61 then 0 else if p = 62 then 10 else if p < 143 then twK ((p - 63) % 20) else if p = 143 then 8 else if p = 144 then 1 else if p = 145 then 8 else if p < 148 then 7 else if p = 148 then 8 else if p = 149 then 6 else if p < 156 then 7 else if 1000 ≤ p ∧ p < 1004 then 11 else 0
def NC (L p : Nat) : Nat := if p = 0 then 0 else if p < 61 then twN ((p - 1) % 20) else if p = 61 then 0 else if p = 62 then 4 else if p < 143 then twN ((p - 63) % 20) else if p = 143 then 60 else if p = 144 then 0 else if p < 148 then 20 else if p < 150 then 0 else if p = 152 then 912 else if p < 154 then 228 else if p = 154 then 60 else if p = 155 then 66 else if p = 1003 then L else if 1000 ≤ p then 5 else 0
def SC (L : Nat) : PS := (149, 1788, KC, NC L)
