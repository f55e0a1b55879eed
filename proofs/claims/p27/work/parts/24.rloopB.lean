/-! the reference: leaving the line, the quick ones, who rides, fares, rides -/
theorem upd_tp (z : Nat → Int32) (i w u : Nat) (v : Int32) : upd z (tp i w) v (tp i u) = if u = w then v else z (tp i u) := by
  simp only [upd, tp]
  by_cases h : u = w
  · subst h; simp
  · rw [if_neg (by omega), if_neg h]
theorem upd_tpS (z : Nat → Int32) (i w : Nat) {k : Nat} (v : Int32) (h : k < 72) : upd z (tp i w) v k = z k := by
  simp only [upd, tp]
  rw [if_neg (by omega)]
theorem upd_S (z : Nat → Int32) (i u : Nat) {k : Nat} (v : Int32) (h : k < 72) : upd z k v (tp i u) = z (tp i u) := by
  simp only [upd, tp]
  rw [if_neg (by omega)]
theorem uR_self {α : Type} (f : Nat → Nat → α) (p : Nat) : uR f p (f p) = f := by
  funext q
  by_cases hq : q = p
  · subst hq; rw [uR_s]
  · rw [uR_n _ _ hq]
def shL (z : Nat → Int32) (p k : Nat) : Nat → Int32 := fun j => if 15 + p ≤ j ∧ j < 15 + k then z (j + 1) else z j
theorem shL_step (z : Nat → Int32) {p k : Nat} (h : p ≤ k) : upd (shL z p k) (15 + k) (shL z p k (15 + k + 1)) = shL z p (k + 1) := by
  funext j
  simp only [upd, shL]
  by_cases e : j = 15 + k
  · subst e
    rw [if_pos rfl, if_neg (by omega), if_pos (by omega)]
  · rw [if_neg e]
    by_cases e2 : 15 + p ≤ j ∧ j < 15 + k
    · rw [if_pos e2, if_pos (by omega)]
    · rw [if_neg e2, if_neg (by omega)]
def zLeave (z : Nat → Int32) (i p m : Nat) : Nat → Int32 := upd (shL (upd z 12 (nI (m - 1))) p (m - 1)) (tp i 8) 0
/-- the last taxi of a plate, among the first n -/
def fTx (z : Nat → Int32) (p : Int32) : Nat → Nat
  | 0 => 0
  | n + 1 => if z (tp n 0) = p then n else fTx z p n
theorem fTx_ok (z : Nat → Int32) (p : Int32) : ∀ n, (∃ i, i < n ∧ z (tp i 0) = p) → fTx z p n < n ∧ z (tp (fTx z p n) 0) = p := by
  intro n
  induction n with
  | zero => rintro ⟨i, h, -⟩; omega
  | succ n ih =>
    rintro ⟨i, h1, h2⟩
    simp only [fTx]
    by_cases e : z (tp n 0) = p
    · rw [if_pos e]; exact ⟨by omega, e⟩
    · rw [if_neg e]
      obtain ⟨a, b⟩ := ih ⟨i, by
        by_cases q : i = n
        · subst q; exact absurd h2 e
        · omega, h2⟩
      exact ⟨by omega, b⟩
theorem fTx_eq {z : Nat → Int32} {p : Int32} {n i : Nat} (hU : ∀ i j, i < n → j < n → z (tp i 0) = z (tp j 0) → i = j) (hi : i < n) (he : z (tp i 0) = p) : fTx z p n = i := by
  obtain ⟨a, b⟩ := fTx_ok z p n ⟨i, hi, he⟩
  exact hU _ _ a hi (b.trans he.symm)
theorem fTx_same {z z' : Nat → Int32} (p : Int32) (h : ∀ i, z' (tp i 0) = z (tp i 0)) : ∀ n, fTx z' p n = fTx z p n := by
  intro n
  induction n with
  | zero => rfl
  | succ n ih => simp only [fTx, h, ih]
/-- the taxi at a place in the line -/
abbrev lx (z : Nat → Int32) (n k : Nat) : Nat := fTx z (z (15 + k)) n
/-- each plate in the line is a taxi's -/
def LnOK (z : Nat → Int32) (n m : Nat) : Prop := ∀ k, k < m → ∃ i, i < n ∧ z (tp i 0) = z (15 + k)
theorem lx_ok {z : Nat → Int32} {n m k : Nat} (h : LnOK z n m) (hk : k < m) : lx z n k < n ∧ z (tp (lx z n k) 0) = z (15 + k) := fTx_ok _ _ _ (h k hk)
/-- how many at the head came back quickly -/
def qO (z : Nat → Int32) (n : Nat) : Nat → Nat → Nat
  | 0, k => k
  | d + 1, k => if z (tp (lx z n k) 8) = 1 then qO z n d (k + 1) else k
theorem qO_le (z : Nat → Int32) (n : Nat) : ∀ d k, k ≤ qO z n d k ∧ qO z n d k ≤ k + d := by
  intro d
  induction d with
  | zero => intro k; simp [qO]
  | succ d ih =>
    intro k
    simp only [qO]
    split
    · have := ih (k + 1); omega
    · omega
abbrev isLongZ (z : Nat → Int32) (a b : Int32) : Prop := z 2 ≤ sz32 (b - a)
def fv : Option Nat → Int32
  | none => -5
  | some i => nI i
/-- who rides: from the line's end to its head -/
def rdS (z : Nat → Int32) (isL : Prop) [Decidable isL] (t : Nat) (f : Option Nat) : Option Nat := match f with
  | none => if may z t then some t else none
  | some g => if may z t ∧ (¬ isL ∨ z (tp t 5) ≤ z (tp g 5)) then some t else some g
def rd (z : Nat → Int32) (n : Nat) (isL : Prop) [Decidable isL] : Nat → Option Nat → Option Nat
  | 0, f => f
  | k + 1, f => rd z n isL k (rdS z isL (lx z n k) f)
abbrev rider (z : Nat → Int32) (n m : Nat) (b : Int32) : Option Nat := rd z n (isLongZ z 10 b) m none
def zFare (z : Nat → Int32) (i : Nat) (a b r : Int32) : Nat → Int32 := upd (upd (upd (upd (upd z (tp i 4) (z (tp i 4) + 1)) (tp i 5) (z (tp i 5) + b2 (isLongZ z a b))) (tp i 12) (b2 (¬ r = 0 ∧ ¬ isLongZ z a b))) (tp i 10) a) (tp i 11) b
def zRide (z : Nat → Int32) (i : Nat) : Nat → Int32 := upd (upd (upd z (tp i 1) 2) (tp i 2) (sz32 (z (tp i 11) - z (tp i 10)) * z 0)) 6 (z 6 + 1)
section T5
variable {l : Launch} {L : Nat} {I : Nat → Nat → Int32} {Q : Nat → Nat → Option Nat} {P : Option Value → PH → Prop}
end T5

