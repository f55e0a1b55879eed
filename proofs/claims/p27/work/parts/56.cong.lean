/-! states that agree at their 228 places; the reference's past -/
def Eq228 (z z' : Nat → Int32) : Prop := ∀ j, j < 228 → z' j = z j
theorem tp_lt {i u : Nat} (hi : i < 12) (hu : u < 13) : tp i u < 228 := by simp only [tp]; omega
theorem Eq228.rf (z : Nat → Int32) : Eq228 z z := fun _ _ => rfl
theorem Eq228.sy {z z' : Nat → Int32} (h : Eq228 z z') : Eq228 z' z := fun j hj => (h j hj).symm
theorem Eq228.tr {z z' z'' : Nat → Int32} (h : Eq228 z z') (h' : Eq228 z' z'') : Eq228 z z'' := fun j hj => (h' j hj).trans (h j hj)
theorem LnX.cg {z z' : Nat → Int32} {n m x : Nat} (h : LnX z n m x) (e : Eq228 z z') : LnX z' n m x := by
  obtain ⟨a, b, c, d, e1, f, g, i⟩ := h
  have t : ∀ j u, j < n → u < 13 → z' (tp j u) = z (tp j u) := fun j u hj hu => e _ (tp_lt (by omega) hu)
  have ln : ∀ k, k < m → z' (15 + k) = z (15 + k) := fun k hk => e _ (by omega)
  refine ⟨by rw [e 11 (by omega)]; exact a, b, by rw [e 12 (by omega)]; exact c, fun p q hp hq => by rw [t p 0 hp (by omega), t q 0 hq (by omega)]; exact d p q hp hq, fun k hk => ?_, fun p hp hpx hz => ?_, fun k k' hk hk' => by rw [ln k hk, ln k' hk']; exact g k k' hk hk', i⟩
  · obtain ⟨p, p1, p2, p3, p4⟩ := e1 k hk
    exact ⟨p, p1, p2, by rw [t p 0 p1 (by omega), ln k hk]; exact p3, by rw [t p 1 p1 (by omega)]; exact p4⟩
  · rw [t p 1 hp (by omega)] at hz
    obtain ⟨k, k1, k2⟩ := f p hp hpx hz
    exact ⟨k, k1, by rw [t p 0 hp (by omega), ln k k1]; exact k2⟩
theorem MV.cg {z z' : Nat → Int32} {n k : Nat} (h : MV z n k) (e : Eq228 z z') : MV z' n k := by
  obtain ⟨⟨m, hl⟩, ht, hs, hk, hk2, hw⟩ := h
  have hn := hl.2.1
  exact ⟨⟨m, hl.cg e⟩, fun i hi => (ht i hi).same (fun u hu => e _ (tp_lt (by omega) hu)), hs.same (fun k hk => e k (by omega)), by rw [e 13 (by omega)]; exact hk, hk2, fun r hr => by rw [e _ (by omega)]; exact hw r hr⟩
theorem CA.cg {I : Nat → Nat → Int32} {B : Nat} {σ : Nat → Nat} {z z' : Nat → Int32} {n m k : Nat} (h : CA I B σ z n m k) (hn : n ≤ 12) (hm : m ≤ 12) (hk : k ≤ 15) (e : Eq228 z z') : CA I B σ z' n m k :=
  h.same hm hk (fun j u hj hu _ => e _ (tp_lt (by omega) hu)) (fun q hq => e q (by omega))
theorem TH.cg {I : Nat → Nat → Int32} {B : Nat} {σ : Nat → Nat} {z z' : Nat → Int32} (h : TH I B σ z) (e : Eq228 z z') : TH I B σ z' := by
  obtain ⟨n, m, k, a, b, c⟩ := h
  exact ⟨n, m, k, a.cg b.n.2 c.2.2.2.2.2.2.2 b.2.2.2.2.1 e, b.cg e, c.cg e⟩
/-- what else holds of a state: minutes, the clock (c), passengers' numbers (below b) -/
def ML (z : Nat → Int32) (i : Nat) : Prop := z (tp i 2) ≤ 1000 ∧ (z (tp i 1) = 3 → z (tp i 2) ≤ 200)
def EX (z : Nat → Int32) (n k b c : Nat) : Prop := (∀ i, i < n → ML z i) ∧ z 5 = nI c ∧ (∃ a, z 14 = nI a ∧ a ≤ b ∧ ∀ r, r < k → ∃ t q, z (27 + 3 * r + 1) = nI t ∧ t ≤ c ∧ z (27 + 3 * r + 2) = nI q ∧ q < a) ∧ ∀ r r', r < k → r' < k → z (27 + 3 * r + 2) = z (27 + 3 * r' + 2) → r = r'
theorem EX.cg {z z' : Nat → Int32} {n k b c : Nat} (h : EX z n k b c) (hn : n ≤ 12) (hk : k ≤ 15) (e : Eq228 z z') : EX z' n k b c := by
  obtain ⟨h1, h2, ⟨a, a1, a2, a3⟩, h4⟩ := h
  refine ⟨fun i hi => by unfold ML; rw [e _ (tp_lt (i := i) (u := 2) (by omega) (by omega)), e _ (tp_lt (i := i) (u := 1) (by omega) (by omega))]; exact h1 i hi, by rw [e 5 (by omega)]; exact h2, ⟨a, by rw [e 14 (by omega)]; exact a1, a2, fun r hr => ?_⟩, fun r r' hr hr' => by rw [e _ (by omega), e _ (by omega)]; exact h4 r r' hr hr'⟩
  rw [e _ (by omega), e _ (by omega)]
  exact a3 r hr
theorem EX.mono {z : Nat → Int32} {n k b b' c : Nat} (h : EX z n k b c) (hb : b ≤ b') : EX z n k b' c := by
  obtain ⟨h1, h2, ⟨a, a1, a2, a3⟩, h4⟩ := h
  exact ⟨h1, h2, ⟨a, a1, by omega, a3⟩, h4⟩
def XV (z : Nat → Int32) (b : Nat) : Prop := ∃ n k c, MV z n k ∧ EX z n k b c ∧ c ≤ 99999
theorem XV.cg {z z' : Nat → Int32} {b : Nat} (h : XV z b) (e : Eq228 z z') : XV z' b := by
  obtain ⟨n, k, c, a, x, y⟩ := h
  exact ⟨n, k, c, a.cg e, x.cg a.n.2 a.2.2.2.2.1 e, y⟩
theorem XV.mono {z : Nat → Int32} {b b' : Nat} (h : XV z b) (hb : b ≤ b') : XV z b' := by
  obtain ⟨n, k, c, a, x, y⟩ := h
  exact ⟨n, k, c, a, x.mono hb, y⟩
/-- a state of the past -/
def pw (f : Nat → Int32) (i : Nat) : Nat → Int32 := fun j => f (228 * i + j)
theorem pw_rec (f row : Nat → Int32) {a : Nat} (ha : a ≤ 4) : ∀ i, i < aSt a → Eq228 (wSt (pw f) a row i) (pw (recP f row a) i) := by
  intro i hi j hj
  unfold aSt at hi
  unfold wSt recP pw
  by_cases g : a = 4
  · subst g
    simp only [if_true] at hi ⊢
    by_cases q : i = 3
    · subst q
      rw [if_pos rfl]
      simp only [va_cpy]
      rw [if_pos (by omega)]
      exact congrArg row (by omega)
    · rw [if_neg q]
      simp only [va_cpy, shP]
      rw [if_neg (by omega), if_pos (by omega)]
      exact congrArg f (by omega)
  · rw [if_neg g] at hi
    simp only [if_neg g]
    by_cases q : i = a
    · subst q
      rw [if_pos rfl]
      simp only [va_cpy]
      rw [if_pos (by omega)]
      exact congrArg row (by omega)
    · rw [if_neg q]
      have : 228 * i + 228 ≤ 228 * a := by
        have : i + 1 ≤ a := by omega
        omega
      simp only [va_cpy]
      rw [if_neg (by omega)]
theorem cpy_to (f g : Nat → Int32) (s : Nat) : Eq228 (fun j => f (s + j)) (va_cpy f g s 0 228) := by
  intro j hj
  simp only [va_cpy]
  rw [if_pos (by omega)]
  rfl
section D8
variable {l : Launch} {L : Nat} {I : Nat → Nat → Int32} {Q : Nat → Nat → Option Nat} {P : Option Value → PH → Prop}
end D8

