/-! who takes a call: the class, the reference -/
def nd (z : Nat → Int32) (x : Nat) (f : Int32) : Int32 := if z (tp x 1) = 0 then sz32 ((f - 10) * z 0) else sz32 (z (tp x 9) * z (tp x 2) - (f - 10) * z 0)
def cnd (z : Nat → Int32) (x : Nat) : Prop := (z (tp x 1) = 0 ∨ z (tp x 1) = 3) ∧ may z x
def ndv (z : Nat → Int32) (x : Nat) (f : Int32) : Int32 := if (z (tp x 1) = 0 ∨ z (tp x 1) = 3) ∧ may z x then nd z x f else -5
theorem sz_neg (v : Int32) : sz32 (-v) = sz32 v := by
  unfold sz32
  have e0 : (0 : Int32).toInt = 0 := by decide
  by_cases h : v < 0
  · rw [if_pos h]
    by_cases h2 : -v < 0
    · rw [if_pos h2]
      have hv : v = -v := by
        have a := Int32.lt_iff_toInt_lt.mp h
        have b := Int32.lt_iff_toInt_lt.mp h2
        refine Int32.toInt_inj.mp ?_
        rw [Int32.toInt_neg] at b ⊢
        have h3 := Int32.le_toInt v
        by_cases q : v.toInt = -2147483648
        · rw [q]; decide
        · exfalso
          have : Int.bmod (-v.toInt) (2 ^ 32) = -v.toInt := by
            apply Int.bmod_eq_of_le <;> omega
          rw [this] at b
          omega
      rw [← hv]
      exact hv.symm
    · rw [if_neg h2]
  · rw [if_neg h]
    by_cases h2 : -v < 0
    · rw [if_pos h2, Int32.neg_neg]
    · rw [if_neg h2]
      have a : ¬ v.toInt < 0 := fun q => h (Int32.lt_iff_toInt_lt.mpr (by omega))
      have b : ¬ (-v).toInt < 0 := fun q => h2 (Int32.lt_iff_toInt_lt.mpr (by omega))
      refine Int32.toInt_inj.mp ?_
      rw [Int32.toInt_neg] at b ⊢
      have h3 := Int32.toInt_lt v
      have : Int.bmod (-v.toInt) (2 ^ 32) = -v.toInt := by
        apply Int.bmod_eq_of_le <;> omega
      rw [this] at b ⊢
      omega
theorem sz_sub (a b : Int32) : sz32 (a - b) = sz32 (b - a) := by
  rw [← sz_neg (b - a), Int32.neg_sub]
theorem sz_ne (v : Int32) : sz32 v ≠ -5 := by
  unfold sz32
  by_cases h : v < 0
  · rw [if_pos h]
    intro q
    have : v = 5 := by rw [← @Int32.neg_neg v, q]; decide
    rw [this] at h
    exact absurd h (by decide)
  · rw [if_neg h]
    intro q
    rw [q] at h
    exact h (by decide)
theorem nd_ne (z : Nat → Int32) (x : Nat) (f : Int32) : nd z x f ≠ -5 := by
  unfold nd
  split
  · exact sz_ne _
  · exact sz_ne _
abbrev leC (z : Nat → Int32) (f : Int32) : Nat → Nat → Prop := fun x y => nd z x f ≤ nd z y f
theorem leC_1 (z : Nat → Int32) (f : Int32) (x y w : Nat) (h1 : leC z f x y) (h2 : leC z f y w) : leC z f x w := i32_le_trans h1 h2
theorem leC_2 (z : Nat → Int32) (f : Int32) (x y w : Nat) (h1 : ¬ leC z f x y) (h2 : ¬ leC z f y w) : ¬ leC z f x w := i32_nle_trans h1 h2
def cBk (z : Nat → Int32) (i : Nat) : Option Nat := if z (tp i 1) = 3 ∧ may z i then some i else none
def calZ (z : Nat → Int32) (n m : Nat) (f : Int32) : Option Nat := cmb (leC z f) (fun _ _ => inferInstance) (pkF (leC z f) (fun _ _ => inferInstance) (cR z n) m) (pkF (leC z f) (fun _ _ => inferInstance) (cBk z) n)
theorem cmb_in {le : Nat → Nat → Prop} (dl : ∀ x y, Decidable (le x y)) {a b : Option Nat} {t : Nat} (h : cmb le dl a b = some t) : a = some t ∨ b = some t := by
  cases a with
  | none => exact Or.inr h
  | some x =>
    cases b with
    | none => exact Or.inl h
    | some y =>
      simp only [cmb] at h
      split at h
      · exact Or.inl h
      · exact Or.inr h
theorem pkF_in {le : Nat → Nat → Prop} (dl : ∀ x y, Decidable (le x y)) {c : Nat → Option Nat} : ∀ {k t : Nat}, pkF le dl c k = some t → ∃ q, q < k ∧ c q = some t := by
  intro k
  induction k with
  | zero => intro t h; cases h
  | succ k ih =>
    intro t h
    rcases cmb_in dl h with q | q
    · obtain ⟨j, a, b⟩ := ih q
      exact ⟨j, by omega, b⟩
    · exact ⟨k, by omega, q⟩
theorem pkB_in {le : Nat → Nat → Prop} (dl : ∀ x y, Decidable (le x y)) {c : Nat → Option Nat} : ∀ {k t : Nat} {f : Option Nat}, pkB le dl c k f = some t → f = some t ∨ ∃ q, q < k ∧ c q = some t := by
  intro k
  induction k with
  | zero => intro t f h; exact Or.inl h
  | succ k ih =>
    intro t f h
    rcases ih h with q | ⟨j, a, b⟩
    · rcases cmb_in dl q with q | q
      · exact Or.inr ⟨k, by omega, q⟩
      · exact Or.inl q
    · exact Or.inr ⟨j, by omega, b⟩
theorem cR_in {z : Nat → Int32} {n m q t : Nat} (hL : Ln z n m) (hq : q < m) (h : cR z n q = some t) : t < n ∧ cnd z t ∧ z (tp t 0) = z (15 + q) ∧ z (tp t 1) = 0 := by
  unfold cR at h
  split at h
  · next g =>
    cases h
    obtain ⟨i, a, b, c, d⟩ := hL.2.2.2.2.1 q hq
    have e : lx z n q = i := fTx_eq hL.2.2.2.1 a c
    rw [e] at g ⊢
    exact ⟨a, ⟨Or.inl d, g⟩, c, d⟩
  · cases h
theorem cBk_in {z : Nat → Int32} {q t : Nat} (h : cBk z q = some t) : t = q ∧ cnd z t ∧ z (tp t 1) = 3 := by
  unfold cBk at h
  split at h
  · next g => cases h; exact ⟨rfl, ⟨Or.inr g.1, g.2⟩, g.1⟩
  · cases h
theorem calZ_in {z : Nat → Int32} {n m t : Nat} {f : Int32} (hL : Ln z n m) (h : calZ z n m f = some t) : t < n ∧ cnd z t := by
  rcases cmb_in _ h with q | q
  · obtain ⟨j, a, b⟩ := pkF_in _ q
    obtain ⟨x, y, -⟩ := cR_in hL a b
    exact ⟨x, y⟩
  · obtain ⟨j, a, b⟩ := pkF_in _ q
    obtain ⟨x, y, -⟩ := cBk_in b
    exact ⟨by omega, y⟩
theorem cnd_nd {z : Nat → Int32} {x : Nat} (h : cnd z x) (f : Int32) : ndv z x f = nd z x f := by unfold ndv; exact if_pos h
section E5
variable {l : Launch} {L : Nat} {I : Nat → Nat → Int32} {Q : Nat → Nat → Option Nat} {P : Option Value → PH → Prop}
end E5
section E6
variable {l : Launch} {L : Nat} {I : Nat → Nat → Int32} {Q : Nat → Nat → Option Nat} {P : Option Value → PH → Prop} {z : Nat → Int32} {n m k : Nat}
end E6

