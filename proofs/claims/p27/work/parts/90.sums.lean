/-! p27: sums over the taxis -/
def Sm (f : Nat → Int32) : Nat → Int32
  | 0 => 0
  | n + 1 => Sm f n + f n
theorem Sm_cg {f g : Nat → Int32} : ∀ {n : Nat}, (∀ t, t < n → g t = f t) → Sm g n = Sm f n := by
  intro n
  induction n with
  | zero => intro _; rfl
  | succ n ih => intro h; simp only [Sm]; rw [ih (fun t ht => h t (by omega)), h n (by omega)]
theorem Sm_one {f g : Nat → Int32} {i : Nat} {e : Int32} : ∀ {n : Nat}, i < n → (∀ t, t < n → t ≠ i → g t = f t) → g i = f i + e → Sm g n = Sm f n + e := by
  intro n
  induction n with
  | zero => intro h; omega
  | succ n ih =>
    intro hi h he
    simp only [Sm]
    by_cases q : i = n
    · subst q
      rw [Sm_cg (fun t ht => h t (by omega) (by omega)), he, Int32.add_assoc]
    · rw [ih (by omega) (fun t ht hn => h t (by omega) hn) he, h n (by omega) (fun c => q c.symm), Int32.add_assoc, Int32.add_comm e, ← Int32.add_assoc]
theorem Sm_ins {f g : Nat → Int32} {q : Nat} : ∀ {n : Nat}, q ≤ n → (∀ t, t < q → g t = f t) → g q = 0 → (∀ t, q < t → t ≤ n → g t = f (t - 1)) → Sm g (n + 1) = Sm f n := by
  intro n
  induction n with
  | zero =>
    intro hq _ h2 _
    obtain rfl : q = 0 := by omega
    show 0 + g 0 = 0
    rw [h2, Int32.add_zero]
  | succ n ih =>
    intro hq h1 h2 h3
    by_cases e : q = n + 1
    · subst e
      show Sm g (n + 1) + g (n + 1) = Sm f (n + 1)
      rw [h2, Int32.add_zero]
      exact Sm_cg h1
    · show Sm g (n + 1) + g (n + 1) = Sm f n + f n
      rw [ih (by omega) h1 h2 (fun t a b => h3 t a (by omega)), h3 (n + 1) (by omega) (by omega), Nat.add_sub_cancel]
theorem Sm_zero {f : Nat → Int32} : ∀ {n : Nat}, (∀ t, t < n → f t = 0) → Sm f n = 0 := by
  intro n
  induction n with
  | zero => intro _; rfl
  | succ n ih => intro h; simp only [Sm]; rw [ih (fun t ht => h t (by omega)), h n (by omega), Int32.add_zero]
/-- as many as there are places -/
theorem Sm_cnt {R : Nat → Nat → Prop} (h1 : ∀ t t' j, R t j → R t' j → t = t') (h2 : ∀ t j j', R t j → R t j' → j = j') {n : Nat} : ∀ (m : Nat) (p : Nat → Prop) (f : Nat → Int32), (∀ t, t < n → (p t ∧ f t = 1) ∨ (¬ p t ∧ f t = 0)) → (∀ j, j < m → ∃ t, t < n ∧ p t ∧ R t j) → (∀ t, t < n → p t → ∃ j, j < m ∧ R t j) → Sm f n = nI m := by
  intro m
  induction m with
  | zero =>
    intro p f hf _ hb
    refine Sm_zero (fun t ht => ?_)
    rcases hf t ht with a | a
    · obtain ⟨j, hj, -⟩ := hb t ht a.1
      omega
    · exact a.2
  | succ m ih =>
    intro p f hf ha hb
    obtain ⟨t0, t1, t2, t3⟩ := ha m (by omega)
    have hf0 : f t0 = 1 := by
      rcases hf t0 t1 with a | a
      · exact a.2
      · exact absurd t2 a.1
    have e := ih (fun t => p t ∧ t ≠ t0) (fun t => if t = t0 then 0 else f t) (fun t ht => by
      by_cases q : t = t0
      · exact Or.inr ⟨fun c => c.2 q, if_pos q⟩
      · simp only [if_neg q]
        rcases hf t ht with a | a
        · exact Or.inl ⟨⟨a.1, q⟩, a.2⟩
        · exact Or.inr ⟨fun c => a.1 c.1, a.2⟩) (fun j hj => by
      obtain ⟨t, a, b, c⟩ := ha j (by omega)
      exact ⟨t, a, ⟨b, fun q => by subst q; have := h2 t j m c t3; omega⟩, c⟩) (fun t ht hp => by
      obtain ⟨j, a, b⟩ := hb t ht hp.1
      refine ⟨j, ?_, b⟩
      have : j ≠ m := fun q => by subst q; exact hp.2 (h1 t t0 j b t3)
      omega)
    have e2 : Sm f n = Sm (fun t => if t = t0 then 0 else f t) n + 1 := Sm_one (i := t0) t1 (fun t _ hne => by simp only [if_neg hne]) (by simp only [if_true]; rw [hf0]; decide)
    rw [e2, e]
    exact nI_up m
/-- how many stand in the line -/
theorem Sm_line {z : Nat → Int32} {n m : Nat} (hL : Ln z n m) : Sm (fun t => b2 (z (tp t 1) = 0)) n = nI m := by
  refine Sm_cnt (R := fun t j => (t < n ∧ j < m) ∧ z (15 + j) = z (tp t 0)) (fun t t' j a b => hL.2.2.2.1 t t' a.1.1 b.1.1 (a.2.symm.trans b.2)) (fun t j j' a b => hL.2.2.2.2.2.2.1 j j' a.1.2 b.1.2 (a.2.trans b.2.symm)) m (fun t => z (tp t 1) = 0) _ (fun t _ => ?_) (fun j hj => ?_) (fun t ht hp => ?_)
  · by_cases q : z (tp t 1) = 0
    · exact Or.inl ⟨q, b2_t q⟩
    · exact Or.inr ⟨q, b2_f q⟩
  · obtain ⟨i, a, b, c, d⟩ := hL.2.2.2.2.1 j hj
    exact ⟨i, a, d, ⟨a, hj⟩, c.symm⟩
  · obtain ⟨j, a, b⟩ := hL.2.2.2.2.2.1 t ht (by omega) hp
    exact ⟨j, a, ⟨ht, a⟩, b⟩
