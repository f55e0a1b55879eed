/-! p27: the walk again, with branches that are decided at once; what is told, as one table of methods -/
def ex2 (l : Launch) (fn : Nat → Option FN) (k sy : Nat → List (Option Value) → List Value → PH → Prop) (id : Nat) (lim : Nat × Nat) (P : Option Value → PH → Prop) (pc : Nat) (c : CX) (ls : List (Option Value)) (st : List Value) (h : PH) : Prop :=
  match c with
  | (i, len, a, b, v, cs, d) => match i with
    | .ifCond .eq _ => (match st with | .int x :: st => (if x = 0 then k a ls st h else k (pc + 3) ls st h) | _ => False)
    | .ifCond .ne _ => (match st with | .int x :: st => (if x = 0 then k (pc + 3) ls st h else k a ls st h) | _ => False)
    | .ifCond .lt _ => (match st with | .int x :: st => (if x < 0 then k a ls st h else k (pc + 3) ls st h) | _ => False)
    | .ifCond .ge _ => (match st with | .int x :: st => (if 0 ≤ x then k a ls st h else k (pc + 3) ls st h) | _ => False)
    | .ifCond .gt _ => (match st with | .int x :: st => (if 0 < x then k a ls st h else k (pc + 3) ls st h) | _ => False)
    | .ifCond .le _ => (match st with | .int x :: st => (if x ≤ 0 then k a ls st h else k (pc + 3) ls st h) | _ => False)
    | .if_icmp .eq _ => (match st with | .int y :: .int x :: st => (if x = y then k a ls st h else k (pc + 3) ls st h) | _ => False)
    | .if_icmp .ne _ => (match st with | .int y :: .int x :: st => (if x = y then k (pc + 3) ls st h else k a ls st h) | _ => False)
    | .if_icmp .lt _ => (match st with | .int y :: .int x :: st => (if x < y then k a ls st h else k (pc + 3) ls st h) | _ => False)
    | .if_icmp .ge _ => (match st with | .int y :: .int x :: st => (if y ≤ x then k a ls st h else k (pc + 3) ls st h) | _ => False)
    | .if_icmp .gt _ => (match st with | .int y :: .int x :: st => (if y < x then k a ls st h else k (pc + 3) ls st h) | _ => False)
    | .if_icmp .le _ => (match st with | .int y :: .int x :: st => (if x ≤ y then k a ls st h else k (pc + 3) ls st h) | _ => False)
    | i => ex l fn k sy id lim P pc (i, len, a, b, v, cs, d) ls st h
theorem br2 {c : Prop} [Decidable c] {A B : Prop} (h : if c then A else B) : (c → A) ∧ (¬ c → B) := ⟨fun g => by rw [if_pos g] at h; exact h, fun g => by rw [if_neg g] at h; exact h⟩
theorem ex2_ex {l : Launch} {fn : Nat → Option FN} {k sy : Nat → List (Option Value) → List Value → PH → Prop} {id : Nat} {lim : Nat × Nat} {P : Option Value → PH → Prop} {pc : Nat} {c : CX} {ls : List (Option Value)} {st : List Value} {h : PH} (hx : ex2 l fn k sy id lim P pc c ls st h) : ex l fn k sy id lim P pc c ls st h := by
  obtain ⟨i, len, a, b, v, cs, d⟩ := c
  cases i <;> first | exact hx | skip
  case ifCond cmp off =>
    cases st with
    | nil => cases cmp <;> exact hx.elim
    | cons w st =>
      cases w with
      | int x => cases cmp <;> first | exact br2 hx | exact (br2 hx).symm
      | _ => cases cmp <;> exact hx.elim
  case if_icmp cmp off =>
    cases st with
    | nil => cases cmp <;> exact hx.elim
    | cons w st =>
      cases w with
      | int y =>
        cases st with
        | nil => cases cmp <;> exact hx.elim
        | cons w st =>
          cases w with
          | int x => cases cmp <;> first | exact br2 hx | exact (br2 hx).symm
          | _ => cases cmp <;> exact hx.elim
      | _ => cases cmp <;> exact hx.elim
def sym2 (l : Launch) (fn : Nat → Option FN) (id : Nat) (lim : Nat × Nat) (P : Option Value → PH → Prop) (stp : Nat → Bool) : Nat → Nat → List (Option Value) → List Value → PH → Prop
  | 0, pc, ls, st, h => Sy l id lim pc ls st h P
  | n + 1, pc, ls, st, h => if stp pc = true then Sy l id lim pc ls st h P else match cd id pc with
    | some c => ex2 l fn (sym2 l fn id lim P stp n) (fun pc ls st h => Sy l id lim pc ls st h P) id lim P pc c ls st h
    | none => False
section WK2
variable {l : Launch} {fn : Nat → Option FN} {id : Nat} {lim : Nat × Nat} {P : Option Value → PH → Prop}
theorem sym2_ok (hfn : fnOK l fn) (hok : ∀ q ∈ cod id, okI id q) (stp : Nat → Bool) : ∀ (n pc : Nat) (ls : List (Option Value)) (st : List Value) (h : PH), sym2 l fn id lim P stp n pc ls st h → Sy l id lim pc ls st h P := by
  intro n
  induction n with
  | zero => intro pc ls st h z; exact z
  | succ n ih =>
    intro pc ls st h z
    simp only [sym2] at z
    split at z
    · exact z
    · split at z
      · next c hc => exact ex_ok hfn (hok _ (fnd_mem hc)) ih (ex2_ex z)
      · exact z.elim
theorem wk2 (hfn : fnOK l fn) (hok : ∀ q ∈ cod id, okI id q) (n : Nat) (stp : Nat → Bool) {pc : Nat} {ls : List (Option Value)} {st : List Value} {h : PH} (hx : match cd id pc with
    | some c => ex2 l fn (sym2 l fn id lim P stp n) (fun pc ls st h => Sy l id lim pc ls st h P) id lim P pc c ls st h
    | none => False) : Sy l id lim pc ls st h P := by
  split at hx
  · next c hc => exact ex_ok hfn (hok _ (fnd_mem hc)) (fun pc ls st h z => sym2_ok hfn hok stp n pc ls st h z) (ex2_ex hx)
  · exact hx.elim
end WK2
def rd1 (h0 : PH) (f : Int32 → Int32) : FN := fun As h => match As with
  | [.ref p, .int v] => ((p = 0 ∧ h = h0), [.int (f v)], h)
  | _ => (False, [], h)
def rd2 (h0 : PH) (f : Int32 → Int32 → Int32) : FN := fun As h => match As with
  | [.ref p, .int v, .int w] => ((p = 0 ∧ h = h0), [.int (f v w)], h)
  | _ => (False, [], h)
def rd3 (h0 : PH) (f : Int32 → Int32 → Int32 → Int32) : FN := fun As h => match As with
  | [.ref p, .int v, .int w, .int y] => ((p = 0 ∧ h = h0), [.int (f v w y)], h)
  | _ => (False, [], h)
theorem rd1_ok {l : Launch} {y : Nat} {h0 : PH} {f : Int32 → Int32} (hr : ∀ v (P : Option Value → PH → Prop), P (some (.int (f v))) h0 → Runs l y [.ref 0, .int v] h0 P) : ∀ As h, (rd1 h0 f As h).1 → ∃ v : Option Value, v.toList = (rd1 h0 f As h).2.1 ∧ ∀ Q : Option Value → PH → Prop, Q v (rd1 h0 f As h).2.2 → Runs l y As h Q := by
  intro As h hp
  unfold rd1 at hp ⊢
  split at hp
  · obtain ⟨rfl, rfl⟩ := hp
    exact ⟨some _, rfl, fun Q hq => hr _ Q hq⟩
  · exact hp.elim
theorem rd2_ok {l : Launch} {y : Nat} {h0 : PH} {f : Int32 → Int32 → Int32} (hr : ∀ v w (P : Option Value → PH → Prop), P (some (.int (f v w))) h0 → Runs l y [.ref 0, .int v, .int w] h0 P) : ∀ As h, (rd2 h0 f As h).1 → ∃ v : Option Value, v.toList = (rd2 h0 f As h).2.1 ∧ ∀ Q : Option Value → PH → Prop, Q v (rd2 h0 f As h).2.2 → Runs l y As h Q := by
  intro As h hp
  unfold rd2 at hp ⊢
  split at hp
  · obtain ⟨rfl, rfl⟩ := hp
    exact ⟨some _, rfl, fun Q hq => hr _ _ Q hq⟩
  · exact hp.elim
theorem rd3_ok {l : Launch} {y : Nat} {h0 : PH} {f : Int32 → Int32 → Int32 → Int32} (hr : ∀ v w x (P : Option Value → PH → Prop), P (some (.int (f v w x))) h0 → Runs l y [.ref 0, .int v, .int w, .int x] h0 P) : ∀ As h, (rd3 h0 f As h).1 → ∃ v : Option Value, v.toList = (rd3 h0 f As h).2.1 ∧ ∀ Q : Option Value → PH → Prop, Q v (rd3 h0 f As h).2.2 → Runs l y As h Q := by
  intro As h hp
  unfold rd3 at hp ⊢
  split at hp
  · obtain ⟨rfl, rfl⟩ := hp
    exact ⟨some _, rfl, fun Q hq => hr _ _ _ Q hq⟩
  · exact hp.elim
/-- what is told in this state -/
def fR (h0 : PH) (z : Nat → Int32) (n m k a : Nat) : Nat → Option FN := fun y => match y with
  | 65 => some (rd1 h0 (ansSt (h0.2.1 0 8) (h0.2.1 0 9)))
  | 69 => some (rd2 h0 (ansTx z n m))
  | 70 => some (rd1 h0 (ansLi z m))
  | 71 => some (rd1 h0 (ansPl z n))
  | 72 => some (rd2 h0 (ansWa z k))
  | 73 => some (rd1 h0 (ansRi z n m))
  | 74 => some (rd3 h0 (ansIf z n m))
  | 75 => some (rd2 h0 (ansRe z n m))
  | 78 => some (rd1 h0 (ansSh z n))
  | 79 => some (rd1 h0 (ansCo z n m k a 0))
  | _ => none
section FR
variable {l : Launch} {L : Nat} {I : Nat → Nat → Int32} {Q : Nat → Nat → Option Nat} {τ : Nat → Nat → Nat} {b : Nat → Nat} {z : Nat → Int32} {w : Nat → Nat → Int32} {a n m k : Nat}
theorem fR_ok (h : CT I Q τ b z w a n m k) (hl : I 0 6 = nI 0) : fnOK l (fR (SC L, I, Q) z n m k a) := by
  intro y f hf
  unfold fR at hf
  split at hf <;> first | (cases hf; done) | skip
  · cases hf; exact rd1_ok (fun v P hp => m_stopped v hp)
  · cases hf; exact rd2_ok (fun v w P hp => m_taxi h v w hp)
  · cases hf; exact rd1_ok (fun v P hp => m_line h v hp)
  · cases hf; exact rd1_ok (fun v P hp => m_plate h v hp)
  · cases hf; exact rd2_ok (fun v w P hp => m_waiting h v w hp)
  · cases hf; exact rd1_ok (fun v P hp => m_rides h v hp)
  · cases hf; exact rd3_ok (fun v w x P hp => m_ifCalled h v w x hp)
  · cases hf; exact rd2_ok (fun v w P hp => m_reason h v w hp)
  · cases hf; exact rd1_ok (fun v P hp => m_shares h v hp)
  · cases hf; exact rd1_ok (fun v P hp => m_count h hl v hp)
end FR
