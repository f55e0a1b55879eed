/-! what holds of every state -/
theorem pigeon : ∀ (n m : Nat) (f : Nat → Nat), (∀ k, k < m → f k < n) → (∀ k k', k < m → k' < m → f k = f k' → k = k') → m ≤ n := by
  intro n
  induction n with
  | zero =>
    intro m f h1 _
    cases m with
    | zero => omega
    | succ m => have := h1 0 (by omega); omega
  | succ n ih =>
    intro m f h1 h2
    cases m with
    | zero => omega
    | succ m =>
      have := ih m (fun k => if f k = n then f m else f k) (fun k hk => by
        have a := h1 k (by omega)
        have b := h1 m (by omega)
        split
        · next e =>
          have : f m ≠ n := fun q => by have := h2 k m (by omega) (by omega) (e.trans q.symm); omega
          omega
        · omega) (fun k k' hk hk' e => by
        by_cases a : f k = n
        · by_cases b : f k' = n
          · exact h2 k k' (by omega) (by omega) (a.trans b.symm)
          · rw [if_pos a, if_neg b] at e
            have := h2 m k' (by omega) (by omega) e
            omega
        · by_cases b : f k' = n
          · rw [if_neg a, if_pos b] at e
            have := h2 k m (by omega) (by omega) e
            omega
          · rw [if_neg a, if_neg b] at e
            exact h2 k k' (by omega) (by omega) e)
      omega
/-- the line and the taxis; x: a taxi that is out of both (none: n) -/
def LnX (z : Nat → Int32) (n m x : Nat) : Prop := z 11 = nI n ∧ n ≤ 12 ∧ z 12 = nI m ∧ (∀ i j, i < n → j < n → z (tp i 0) = z (tp j 0) → i = j) ∧ (∀ k, k < m → ∃ i, i < n ∧ i ≠ x ∧ z (tp i 0) = z (15 + k) ∧ z (tp i 1) = 0) ∧ (∀ i, i < n → i ≠ x → z (tp i 1) = 0 → ∃ k, k < m ∧ z (15 + k) = z (tp i 0)) ∧ (∀ k k', k < m → k' < m → z (15 + k) = z (15 + k') → k = k') ∧ m ≤ 12
abbrev Ln (z : Nat → Int32) (n m : Nat) : Prop := LnX z n m n
theorem LnX.ok {z : Nat → Int32} {n m x : Nat} (h : LnX z n m x) : LnOK z n m := fun k hk => by
  obtain ⟨i, a, _, b, _⟩ := h.2.2.2.2.1 k hk
  exact ⟨i, a, b⟩
theorem LnX.lt {z : Nat → Int32} {n m x : Nat} (h : LnX z n m x) (hx : x < n) : m < n := by
  have key : ∀ k, k < m → lx z n k < n ∧ lx z n k ≠ x ∧ z (tp (lx z n k) 0) = z (15 + k) := by
    intro k hk
    obtain ⟨i, a, b, c, _⟩ := h.2.2.2.2.1 k hk
    have e : lx z n k = i := fTx_eq h.2.2.2.1 a c
    rw [e]
    exact ⟨a, b, c⟩
  have := pigeon n (m + 1) (fun k => if k = m then x else lx z n k) (fun k hk => by
    split
    · exact hx
    · exact (key k (by omega)).1) (fun k k' hk hk' e => by
    by_cases a : k = m
    · by_cases b : k' = m
      · omega
      · rw [if_pos a, if_neg b] at e
        exact absurd e.symm (key k' (by omega)).2.1
    · by_cases b : k' = m
      · rw [if_neg a, if_pos b] at e
        exact absurd e (key k (by omega)).2.1
      · rw [if_neg a, if_neg b] at e
        have e1 := (key k (by omega)).2.2
        have e2 := (key k' (by omega)).2.2
        rw [e] at e1
        exact h.2.2.2.2.2.2.1 k k' (by omega) (by omega) (e1.symm.trans e2))
  omega
/-- a taxi that isn't in the line may be taken out of the account -/
theorem LnX.out {z : Nat → Int32} {n m i : Nat} (h : Ln z n m) (hi : i < n) (hd : ¬ z (tp i 1) = 0) : LnX z n m i :=
  ⟨h.1, h.2.1, h.2.2.1, h.2.2.2.1, fun k hk => by
    obtain ⟨j, a, b, c, d⟩ := h.2.2.2.2.1 k hk
    exact ⟨j, a, fun e => by subst e; exact hd d, c, d⟩, fun j hj hji hz => h.2.2.2.2.2.1 j hj (by omega) hz, h.2.2.2.2.2.2⟩
/-- and back, if it still isn't in the line -/
theorem LnX.in {z : Nat → Int32} {n m i : Nat} (h : LnX z n m i) (hd : ¬ z (tp i 1) = 0) : Ln z n m :=
  ⟨h.1, h.2.1, h.2.2.1, h.2.2.2.1, fun k hk => by
    obtain ⟨j, a, b, c, d⟩ := h.2.2.2.2.1 k hk
    exact ⟨j, a, by omega, c, d⟩, fun j hj _ hz => by
    by_cases e : j = i
    · subst e; exact absurd hz hd
    · exact h.2.2.2.2.2.1 j hj e hz, h.2.2.2.2.2.2⟩
/-- what taxi x does is of no account -/
theorem LnX.same {z z' : Nat → Int32} {n m x : Nat} (h : LnX z n m x) (h0 : ∀ j, z' (tp j 0) = z (tp j 0)) (h1 : ∀ j, j ≠ x → z' (tp j 1) = z (tp j 1)) (h2 : ∀ k, 11 ≤ k → k < 27 → k ≠ 13 → k ≠ 14 → z' k = z k) : LnX z' n m x := by
  obtain ⟨a, b, c, d, e, f, g, i⟩ := h
  refine ⟨by rw [h2 11 (by omega) (by omega) (by omega) (by omega)]; exact a, b, by rw [h2 12 (by omega) (by omega) (by omega) (by omega)]; exact c, fun p q hp hq => by rw [h0, h0]; exact d p q hp hq, fun k hk => ?_, fun p hp hpx hz => ?_, fun k k' hk hk' => by rw [h2 _ (by omega) (by omega) (by omega) (by omega), h2 _ (by omega) (by omega) (by omega) (by omega)]; exact g k k' hk hk', i⟩
  · obtain ⟨p, p1, p2, p3, p4⟩ := e k hk
    exact ⟨p, p1, p2, by rw [h0, h2 _ (by omega) (by omega) (by omega) (by omega)]; exact p3, by rw [h1 p p2]; exact p4⟩
  · rw [h1 p hpx] at hz
    obtain ⟨k, k1, k2⟩ := f p hp hpx hz
    exact ⟨k, k1, by rw [h0, h2 _ (by omega) (by omega) (by omega) (by omega)]; exact k2⟩
theorem LnX.leave {z : Nat → Int32} {n m i p : Nat} (h : Ln z n m) (hi : i < n) (hp : p < m) (he : z (15 + p) = z (tp i 0)) : LnX (zLeave z i p m) n (m - 1) i := by
  obtain ⟨a, b, c, d, e, f, g, hm⟩ := h
  have t0 : ∀ j, zLeave z i p m (tp j 0) = z (tp j 0) := fun j => by rw [zLeave_t z j 0 hm hp (by omega), if_neg (by omega)]
  have t1 : ∀ j, zLeave z i p m (tp j 1) = z (tp j 1) := fun j => by rw [zLeave_t z j 1 hm hp (by omega), if_neg (by omega)]
  have tl : ∀ k, k < m - 1 → ∃ k', k' < m ∧ k' ≠ p ∧ zLeave z i p m (15 + k) = z (15 + k') ∧ (k' = if k < p then k else k + 1) := fun k hk => by
    rw [zLeave_l z hm hp hk]
    by_cases q : k < p
    · exact ⟨k, by omega, by omega, by rw [if_pos q], by rw [if_pos q]⟩
    · exact ⟨k + 1, by omega, by omega, by rw [if_neg q]; rfl, by rw [if_neg q]⟩
  refine ⟨by rw [zLeave_o z hm hp (by omega)]; exact a, b, zLeave_12 z, fun x y hx hy => by rw [t0, t0]; exact d x y hx hy, fun k hk => ?_, fun j hj hji hz => ?_, fun k k' hk hk' hh => ?_, by omega⟩
  · obtain ⟨k', k1, k2, k3, _⟩ := tl k hk
    obtain ⟨j, j1, j2, j3, j4⟩ := e k' k1
    refine ⟨j, j1, fun q => ?_, by rw [t0, k3]; exact j3, by rw [t1]; exact j4⟩
    subst q
    exact k2 (g k' p k1 hp (j3.symm.trans he.symm))
  · rw [t1] at hz
    obtain ⟨k, k1, k2⟩ := f j hj (by omega) hz
    have hkp : k ≠ p := fun q => by subst q; exact hji (d j i hj hi (k2.symm.trans he))
    by_cases q : k < p
    · exact ⟨k, by omega, by rw [t0, zLeave_l z hm hp (by omega), if_pos q]; exact k2⟩
    · refine ⟨k - 1, by omega, ?_⟩
      rw [t0, zLeave_l z hm hp (by omega), if_neg (by omega), show 15 + (k - 1) + 1 = 15 + k by omega]
      exact k2
  · obtain ⟨x, x1, x2, x3, x4⟩ := tl k hk
    obtain ⟨y, y1, y2, y3, y4⟩ := tl k' hk'
    rw [x3, y3] at hh
    have := g x y x1 y1 hh
    subst this
    rw [x4] at y4
    split at y4 <;> split at y4 <;> omega
theorem LnX.stand {z : Nat → Int32} {n m i p : Nat} (h : LnX z n m i) (hi : i < n) (hp : p ≤ m) : Ln (zStand z i p m) n (m + 1) := by
  have hmn := h.lt hi
  obtain ⟨a, b, c, d, e, f, g, hm⟩ := h
  have hm2 : m < 12 := by omega
  have t0 : ∀ j, zStand z i p m (tp j 0) = z (tp j 0) := fun j => by rw [zStand_t z j 0 hm2 hp (by omega), if_neg (by omega)]
  have t1 : ∀ j, j ≠ i → zStand z i p m (tp j 1) = z (tp j 1) := fun j hj => by rw [zStand_t z j 1 hm2 hp (by omega), if_neg (by omega)]
  have t1i : zStand z i p m (tp i 1) = 0 := by rw [zStand_t z i 1 hm2 hp (by omega), if_pos (by simp)]
  have tlo : ∀ k, k < p → zStand z i p m (15 + k) = z (15 + k) := fun k hk => by rw [zStand_l z hm2 hp (by omega), if_pos hk]
  have tlp : zStand z i p m (15 + p) = z (tp i 0) := by rw [zStand_l z hm2 hp hp, if_neg (by omega), if_pos rfl]
  have tlh : ∀ k, p < k → k ≤ m → zStand z i p m (15 + k) = z (15 + (k - 1)) := fun k hk hkm => by
    rw [zStand_l z hm2 hp hkm, if_neg (by omega), if_neg (by omega)]
    congr 1
    omega
  have nin : ∀ k, k < m → z (15 + k) ≠ z (tp i 0) := fun k hk q => by
    obtain ⟨j, j1, j2, j3, _⟩ := e k hk
    exact j2 (d j i j1 hi (j3.trans q))
  refine ⟨by rw [zStand_o z hm2 hp (by omega)]; exact a, b, zStand_12 z, fun x y hx hy => by rw [t0, t0]; exact d x y hx hy, fun k hk => ?_, fun j hj _ hz => ?_, fun k k' hk hk' hh => ?_, by omega⟩
  · rcases Nat.lt_trichotomy k p with q | q | q
    · obtain ⟨j, j1, j2, j3, j4⟩ := e k (by omega)
      exact ⟨j, j1, by omega, by rw [t0, tlo k q]; exact j3, by rw [t1 j j2]; exact j4⟩
    · subst q
      exact ⟨i, hi, by omega, by rw [t0, tlp], t1i⟩
    · obtain ⟨j, j1, j2, j3, j4⟩ := e (k - 1) (by omega)
      exact ⟨j, j1, by omega, by rw [t0, tlh k q (by omega)]; exact j3, by rw [t1 j j2]; exact j4⟩
  · by_cases q : j = i
    · subst q
      exact ⟨p, by omega, by rw [tlp, t0]⟩
    · rw [t1 j q] at hz
      obtain ⟨k, k1, k2⟩ := f j hj q hz
      by_cases q2 : k < p
      · exact ⟨k, by omega, by rw [tlo k q2, t0]; exact k2⟩
      · refine ⟨k + 1, by omega, ?_⟩
        rw [tlh (k + 1) (by omega) (by omega), t0]
        exact k2
  · rcases Nat.lt_trichotomy k p with q | q | q <;> rcases Nat.lt_trichotomy k' p with q' | q' | q'
    · rw [tlo k q, tlo k' q'] at hh
      exact g k k' (by omega) (by omega) hh
    · subst q'
      rw [tlo k q, tlp] at hh
      exact absurd hh (nin k (by omega))
    · rw [tlo k q, tlh k' q' (by omega)] at hh
      have := g k (k' - 1) (by omega) (by omega) hh
      omega
    · subst q
      rw [tlo k' q', tlp] at hh
      exact absurd hh.symm (nin k' (by omega))
    · omega
    · subst q
      rw [tlp, tlh k' q' (by omega)] at hh
      exact absurd hh.symm (nin _ (by omega))
    · rw [tlh k q (by omega), tlo k' q'] at hh
      have := g (k - 1) k' (by omega) (by omega) hh
      omega
    · subst q'
      rw [tlh k q (by omega), tlp] at hh
      exact absurd hh (nin _ (by omega))
    · rw [tlh k q (by omega), tlh k' q' (by omega)] at hh
      have := g (k - 1) (k' - 1) (by omega) (by omega) hh
      omega

