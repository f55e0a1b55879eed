/-! p27: what the end of a taxi's doing leaves in its row -/
def BR (z z' : Nat → Int32) (i : Nat) : Prop := (z' (tp i 4) = z (tp i 4) ∧ z' (tp i 5) = z (tp i 5) ∧ z' (tp i 6) = z (tp i 6)) ∧ ((z' (tp i 1) = 0 ∧ z' (tp i 2) = 0) ∨ z' (tp i 1) = 4) ∧ ((z' (tp i 7) = z (tp i 7) ∧ z' (tp i 8) = z (tp i 8)) ∨ (z' (tp i 7) = z (tp i 7) + 1 ∧ z' (tp i 8) = 1 ∧ z' (tp i 1) = 0))
theorem zStand_r (z : Nat → Int32) {i p m : Nat} (hm : m < 12) (hp : p ≤ m) : (zStand z i p m (tp i 1) = 0 ∧ zStand z i p m (tp i 2) = 0) ∧ ∀ u, u < 13 → u ≠ 1 → u ≠ 2 → zStand z i p m (tp i u) = z (tp i u) := by
  refine ⟨⟨?_, ?_⟩, fun u hu h1 h2 => ?_⟩
  · rw [zStand_t z i 1 hm hp (by omega), if_pos ⟨rfl, Or.inl rfl⟩]
  · rw [zStand_t z i 2 hm hp (by omega), if_pos ⟨rfl, Or.inr rfl⟩]
  · rw [zStand_t z i u hm hp hu, if_neg (by omega)]
theorem zBack_r (z : Nat → Int32) {i n m : Nat} (hm : m < 12) : BR z (zBack z i n m) i := by
  unfold zBack
  split
  · have e1 : ∀ u, u < 13 → upd (upd z (tp i 1) 4) (tp i 2) (z 4) (tp i u) = if u = 2 then z 4 else if u = 1 then 4 else z (tp i u) := fun u hu => by
      rw [upd_t _ _ _ _ _ _ hu (by omega), upd_t _ _ _ _ _ _ hu (by omega)]
      simp
    exact ⟨⟨e1 4 (by omega), e1 5 (by omega), e1 6 (by omega)⟩, Or.inr (e1 1 (by omega)), Or.inl ⟨e1 7 (by omega), e1 8 (by omega)⟩⟩
  · split
    · have e1 : ∀ u, u < 13 → zQuick z i (qO z n m 0) m (tp i u) = if u = 7 then z (tp i 7) + 1 else if u = 8 then 1 else if u = 1 ∨ u = 2 then 0 else z (tp i u) := fun u hu => by rw [zQuick_t z i u hm (qO_m z n m) hu, if_pos rfl]
      exact ⟨⟨e1 4 (by omega), e1 5 (by omega), e1 6 (by omega)⟩, Or.inl ⟨e1 1 (by omega), e1 2 (by omega)⟩, Or.inr ⟨e1 7 (by omega), e1 8 (by omega), e1 1 (by omega)⟩⟩
    · obtain ⟨⟨a, b⟩, c⟩ := zStand_r z (i := i) hm (Nat.le_refl m)
      exact ⟨⟨c 4 (by omega) (by omega) (by omega), c 5 (by omega) (by omega) (by omega), c 6 (by omega) (by omega) (by omega)⟩, Or.inl ⟨a, b⟩, Or.inl ⟨c 7 (by omega) (by omega) (by omega), c 8 (by omega) (by omega) (by omega)⟩⟩
/-- the end: fares stay, what is paid, who is taken, quick comebacks -/
def ER (z z' : Nat → Int32) (i : Nat) : Prop := (z' (tp i 4) = z (tp i 4) ∧ z' (tp i 5) = z (tp i 5)) ∧ (∃ e, (z' (tp i 6) = z (tp i 6) + e ∧ z' 9 = z 9 + e)) ∧ z' 6 = z 6 + b2 (z (tp i 1) = 1) ∧ (¬ z' (tp i 1) = 1 ∧ ¬ z' (tp i 1) = 5) ∧ (z' (tp i 1) = 0 → z' (tp i 2) = 0) ∧ ((z' (tp i 7) = z (tp i 7) ∧ z' (tp i 8) = z (tp i 8) ∧ (z' (tp i 1) = 2 ∨ z' (tp i 1) = 3 → z (tp i 1) = 1 ∨ z (tp i 1) = 2)) ∨ (z' (tp i 7) = z (tp i 7) + 1 ∧ z' (tp i 8) = 1 ∧ z' (tp i 1) = 0 ∧ (z (tp i 1) = 2 ∨ z (tp i 1) = 3)))
theorem b2_ff' {c : Prop} [Decidable c] (h : ¬ c) (x : Int32) : x = x + b2 c := by rw [b2_f h, Int32.add_zero]
theorem BR.er {z w z' : Nat → Int32} {i : Nat} (h : BR w z' i) (h4 : w (tp i 4) = z (tp i 4)) (h5 : w (tp i 5) = z (tp i 5)) (h7 : w (tp i 7) = z (tp i 7)) (h8 : w (tp i 8) = z (tp i 8)) {e : Int32} (h6 : w (tp i 6) = z (tp i 6) + e) (h9 : z' 9 = z 9 + e) (h60 : z' 6 = z 6) (hd : z (tp i 1) = 2 ∨ z (tp i 1) = 3) : ER z z' i := by
  obtain ⟨⟨a, b, c⟩, d, f⟩ := h
  have n1 : ¬ z (tp i 1) = 1 := fun q => by rcases hd with g | g <;> (rw [q] at g; exact absurd g (by decide))
  refine ⟨⟨a.trans h4, b.trans h5⟩, ⟨e, c.trans h6, h9⟩, by rw [h60]; exact b2_ff' n1 _, ?_, ?_, ?_⟩
  · rcases d with ⟨g, -⟩ | g <;> (rw [g]; decide)
  · rcases d with ⟨-, g⟩ | g
    · exact fun _ => g
    · intro q; rw [g] at q; exact absurd q (by decide)
  · rcases f with ⟨f1, f2⟩ | ⟨f1, f2, f3⟩
    · refine Or.inl ⟨f1.trans h7, f2.trans h8, fun q => ?_⟩
      rcases d with ⟨g, -⟩ | g <;> (rw [g] at q; exact absurd q (by decide))
    · exact Or.inr ⟨by rw [f1, h7], f2, f3, hd⟩
theorem zEnd_r (z : Nat → Int32) {i n m : Nat} (hm : m < 12) (hd : z (tp i 1) = 1 ∨ z (tp i 1) = 2 ∨ z (tp i 1) = 3 ∨ z (tp i 1) = 4) : ER z (zEnd z i n m) i := by
  unfold zEnd
  by_cases g1 : z (tp i 1) = 1
  · rw [if_pos g1]
    have e1 : ∀ u, u < 13 → zRide z i (tp i u) = if u = 1 then 2 else if u = 2 then sz32 (z (tp i 11) - z (tp i 10)) * z 0 else z (tp i u) := fun u hu => by rw [zRide_t z i u hu, if_pos rfl]
    have d1 : zRide z i (tp i 1) = 2 := e1 1 (by omega)
    refine ⟨⟨e1 4 (by omega), e1 5 (by omega)⟩, ⟨0, by rw [Int32.add_zero]; exact e1 6 (by omega), by rw [Int32.add_zero, zRide_o z (by omega), if_neg (by omega)]⟩, by rw [b2_t g1, zRide_o z (by omega), if_pos rfl], ?_, ?_, Or.inl ⟨e1 7 (by omega), e1 8 (by omega), fun _ => Or.inl g1⟩⟩
    · rw [d1]; decide
    · intro q; rw [d1] at q; exact absurd q (by decide)
  · rw [if_neg g1]
    by_cases g2 : z (tp i 1) = 2
    · rw [if_pos g2]
      have p : ∀ u, u < 13 → u ≠ 6 → zPaid1 z i (tp i u) = z (tp i u) := fun u hu h6 => by rw [zPaid1_t z i u hu, if_neg (fun q => h6 q.2)]
      have p6 : zPaid1 z i (tp i 6) = z (tp i 6) + fare32 (z (tp i 10)) (z (tp i 11)) := by rw [zPaid1_t z i 6 (by omega), if_pos ⟨rfl, rfl⟩]
      unfold zPaid
      split
      · exact (zBack_r _ hm).er (p 4 (by omega) (by omega)) (p 5 (by omega) (by omega)) (p 7 (by omega) (by omega)) (p 8 (by omega) (by omega)) p6 (by rw [zBack_o _ hm (by omega), zPaid1_o z (by omega), if_pos rfl]) (by rw [zBack_o _ hm (by omega), zPaid1_o z (by omega), if_neg (by omega)]) (Or.inl g2)
      · have e : ∀ u, u < 13 → u ≠ 9 → u ≠ 2 → u ≠ 1 → upd (upd (upd (zPaid1 z i) (tp i 1) 3) (tp i 2) (sz32 (z (tp i 11) - 10) * z 0)) (tp i 9) (if z (tp i 11) - 10 < 0 then -1 else 1) (tp i u) = zPaid1 z i (tp i u) := fun u hu h9 h2 h1 => by
          rw [upd_t _ _ _ _ _ _ hu (by omega), if_neg (by omega), upd_t _ _ _ _ _ _ hu (by omega), if_neg (by omega), upd_t _ _ _ _ _ _ hu (by omega), if_neg (by omega)]
        have d1 : upd (upd (upd (zPaid1 z i) (tp i 1) 3) (tp i 2) (sz32 (z (tp i 11) - 10) * z 0)) (tp i 9) (if z (tp i 11) - 10 < 0 then -1 else 1) (tp i 1) = 3 := by
          rw [upd_t _ _ _ _ _ _ (by omega) (by omega), if_neg (by omega), upd_t _ _ _ _ _ _ (by omega) (by omega), if_neg (by omega), upd_e]
        refine ⟨⟨(e 4 (by omega) (by omega) (by omega) (by omega)).trans (p 4 (by omega) (by omega)), (e 5 (by omega) (by omega) (by omega) (by omega)).trans (p 5 (by omega) (by omega))⟩, ⟨_, (e 6 (by omega) (by omega) (by omega) (by omega)).trans p6, by rw [upd_l _ _ _ _ (by omega), upd_l _ _ _ _ (by omega), upd_l _ _ _ _ (by omega), zPaid1_o z (by omega), if_pos rfl]⟩, ?_, ?_, ?_, Or.inl ⟨(e 7 (by omega) (by omega) (by omega) (by omega)).trans (p 7 (by omega) (by omega)), (e 8 (by omega) (by omega) (by omega) (by omega)).trans (p 8 (by omega) (by omega)), fun _ => Or.inr g2⟩⟩
        · rw [upd_l _ _ _ _ (by omega), upd_l _ _ _ _ (by omega), upd_l _ _ _ _ (by omega), zPaid1_o z (by omega), if_neg (by omega)]
          exact b2_ff' g1 _
        · rw [d1]; decide
        · intro q; rw [d1] at q; exact absurd q (by decide)
    · rw [if_neg g2]
      by_cases g3 : z (tp i 1) = 3
      · rw [if_pos g3]
        exact (zBack_r z hm).er rfl rfl rfl rfl (e := 0) (Int32.add_zero _).symm (by rw [zBack_o _ hm (by omega), Int32.add_zero]) (zBack_o z hm (by omega)) (Or.inr g3)
      · rw [if_neg g3]
        obtain ⟨⟨a, b⟩, c⟩ := zStand_r (upd z (tp i 3) 0) (i := i) hm (Nat.le_refl m)
        have c' : ∀ u, u < 13 → u ≠ 1 → u ≠ 2 → u ≠ 3 → zStand (upd z (tp i 3) 0) i m m (tp i u) = z (tp i u) := fun u hu h1 h2 h3 => by rw [c u hu h1 h2, upd_t _ _ _ _ _ _ hu (by omega), if_neg (fun q => h3 q.2)]
        refine ⟨⟨c' 4 (by omega) (by omega) (by omega) (by omega), c' 5 (by omega) (by omega) (by omega) (by omega)⟩, ⟨0, by rw [Int32.add_zero]; exact c' 6 (by omega) (by omega) (by omega) (by omega), by rw [Int32.add_zero, zStand_o _ hm (Nat.le_refl m) (by omega), upd_l _ _ _ _ (by omega)]⟩, ?_, ?_, fun _ => b, Or.inl ⟨c' 7 (by omega) (by omega) (by omega) (by omega), c' 8 (by omega) (by omega) (by omega) (by omega), fun q => ?_⟩⟩
        · rw [zStand_o _ hm (Nat.le_refl m) (by omega), upd_l _ _ _ _ (by omega)]
          exact b2_ff' g1 _
        · rw [a]; decide
        · rw [a] at q; exact absurd q (by decide)
/-! the head of the line -/
/-- the first q places are those who came back quickly -/
def QF (z : Nat → Int32) (n m : Nat) : Prop := ∃ q, q ≤ m ∧ ∀ p, p < m → (z (tp (lx z n p) 8) = 1 ↔ p < q)
theorem lx_i {z : Nat → Int32} {n m x p i : Nat} (h : LnX z n m x) (hi : i < n) (he : z (tp i 0) = z (15 + p)) : lx z n p = i := fTx_eq h.2.2.2.1 hi he
theorem lx_in {z : Nat → Int32} {n m x p : Nat} (h : LnX z n m x) (hp : p < m) : lx z n p < n ∧ lx z n p ≠ x ∧ z (tp (lx z n p) 0) = z (15 + p) ∧ z (tp (lx z n p) 1) = 0 := by
  obtain ⟨i, a, b, c, d⟩ := h.2.2.2.2.1 p hp
  rw [lx_i h a c]
  exact ⟨a, b, c, d⟩
theorem lx_inj {z : Nat → Int32} {n m x p q : Nat} (h : LnX z n m x) (hp : p < m) (hq : q < m) (e : lx z n p = lx z n q) : p = q := by
  have a := (lx_in h hp).2.2.1
  have b := (lx_in h hq).2.2.1
  rw [e] at a
  exact h.2.2.2.2.2.2.1 p q hp hq (a.symm.trans b)
theorem lx_eq {z z' : Nat → Int32} {n p q : Nat} (h0 : ∀ j, z' (tp j 0) = z (tp j 0)) (hl : z' (15 + p) = z (15 + q)) : lx z' n p = lx z n q := by
  show fTx z' (z' (15 + p)) n = fTx z (z (15 + q)) n
  rw [hl]
  exact fTx_same _ h0 n
theorem QF.same {z z' : Nat → Int32} {n m : Nat} (h : QF z n m) (h0 : ∀ j, z' (tp j 0) = z (tp j 0)) (hl : ∀ p, p < m → z' (15 + p) = z (15 + p)) (h8 : ∀ p, p < m → z' (tp (lx z n p) 8) = z (tp (lx z n p) 8)) : QF z' n m := by
  obtain ⟨q, a, b⟩ := h
  refine ⟨q, a, fun p hp => ?_⟩
  rw [lx_eq (n := n) h0 (hl p hp), h8 p hp]
  exact b p hp
/-- a taxi that is out of account may change -/
theorem QF.row {z z' : Nat → Int32} {n m i : Nat} (h : QF z n m) (hX : LnX z n m i) (h0 : z' (tp i 0) = z (tp i 0)) (ht : ∀ j u, u < 13 → j ≠ i → z' (tp j u) = z (tp j u)) (hl : ∀ p, p < m → z' (15 + p) = z (15 + p)) : QF z' n m := by
  refine h.same (fun j => ?_) hl (fun p hp => ht _ 8 (by omega) (lx_in hX hp).2.1)
  by_cases q : j = i
  · subst q; exact h0
  · exact ht j 0 (by omega) q
theorem qO_q {z : Nat → Int32} {n m q : Nat} (h : ∀ p, p < m → (z (tp (lx z n p) 8) = 1 ↔ p < q)) : ∀ d k, k + d = m → k ≤ q → q ≤ m → qO z n d k = q := by
  intro d
  induction d with
  | zero => intro k h1 h2 h3; simp only [qO]; omega
  | succ d ih =>
    intro k h1 h2 h3
    simp only [qO]
    by_cases g : z (tp (lx z n k) 8) = 1
    · rw [if_pos g]
      have := (h k (by omega)).mp g
      exact ih (k + 1) (by omega) (by omega) h3
    · rw [if_neg g]
      have : ¬ k < q := fun c => g ((h k (by omega)).mpr c)
      omega
theorem lx_stand {z : Nat → Int32} {n m i p : Nat} (h : LnX z n m i) (hi : i < n) (hp : p ≤ m) {j : Nat} (hj : j < m + 1) : lx (zStand z i p m) n j = if j < p then lx z n j else if j = p then i else lx z n (j - 1) := by
  have hm : m < 12 := by have := h.lt hi; have := h.2.1; omega
  have t0 : ∀ j, zStand z i p m (tp j 0) = z (tp j 0) := fun j => by rw [zStand_t z j 0 hm hp (by omega), if_neg (by omega)]
  have hl := zStand_l z (i := i) hm hp (show j ≤ m by omega)
  by_cases a : j < p
  · rw [if_pos a] at hl ⊢
    exact lx_eq t0 hl
  · rw [if_neg a] at hl ⊢
    by_cases b : j = p
    · rw [if_pos b] at hl ⊢
      show fTx (zStand z i p m) (zStand z i p m (15 + j)) n = i
      rw [hl, fTx_same _ t0]
      exact fTx_eq h.2.2.2.1 hi rfl
    · rw [if_neg b] at hl ⊢
      exact lx_eq t0 (hl.trans (congrArg z (by omega)))
theorem QF.stand {z : Nat → Int32} {n m i : Nat} (h : QF z n m) (hX : LnX z n m i) (hi : i < n) (h8 : z (tp i 8) = 0) : QF (zStand z i m m) n (m + 1) := by
  have hm : m < 12 := by have := hX.lt hi; have := hX.2.1; omega
  obtain ⟨q, a, b⟩ := h
  refine ⟨q, by omega, fun p hp => ?_⟩
  rw [lx_stand hX hi (Nat.le_refl m) hp]
  by_cases g : p < m
  · rw [if_pos g, zStand_t z _ 8 hm (Nat.le_refl m) (by omega), if_neg (by omega)]
    exact b p g
  · rw [if_neg g, if_pos (show p = m by omega), zStand_t z _ 8 hm (Nat.le_refl m) (by omega), if_neg (by omega), h8]
    exact ⟨fun c => absurd c (by decide), fun c => absurd c (by omega)⟩
theorem QF.quick {z : Nat → Int32} {n m i : Nat} (h : QF z n m) (hX : LnX z n m i) (hi : i < n) : QF (zQuick z i (qO z n m 0) m) n (m + 1) := by
  have hm : m < 12 := by have := hX.lt hi; have := hX.2.1; omega
  obtain ⟨q, a, b⟩ := h
  have e : qO z n m 0 = q := qO_q b m 0 (by omega) (by omega) a
  rw [e]
  have t0 : ∀ j, zQuick z i q m (tp j 0) = zStand z i q m (tp j 0) := fun j => by
    simp only [zQuick]
    rw [upd_t _ _ _ _ _ _ (by omega) (by omega), if_neg (by omega), upd_t _ _ _ _ _ _ (by omega) (by omega), if_neg (by omega)]
  refine ⟨q + 1, by omega, fun p hp => ?_⟩
  rw [lx_eq (z := zStand z i q m) (q := p) (n := n) t0 (zQuick_l z (by omega)), lx_stand hX hi a hp]
  by_cases g : p < q
  · rw [if_pos g, zQuick_t z _ 8 hm a (by omega), if_neg (lx_in hX (by omega)).2.1]
    exact ⟨fun _ => by omega, fun _ => (b p (by omega)).mpr g⟩
  · rw [if_neg g]
    by_cases g2 : p = q
    · rw [if_pos g2, zQuick_t z _ 8 hm a (by omega), if_pos rfl, if_neg (by omega), if_pos rfl]
      exact ⟨fun _ => by omega, fun _ => rfl⟩
    · rw [if_neg g2, zQuick_t z _ 8 hm a (by omega), if_neg (lx_in hX (by omega)).2.1]
      exact ⟨fun c => absurd ((b (p - 1) (by omega)).mp c) (by omega), fun c => absurd c (by omega)⟩
theorem QF.leave {z : Nat → Int32} {n m i p : Nat} (h : QF z n m) (hL : Ln z n m) (hi : i < n) (hp : p < m) (he : z (15 + p) = z (tp i 0)) : QF (zLeave z i p m) n (m - 1) := by
  have hm := hL.2.2.2.2.2.2.2
  have ei : lx z n p = i := lx_i hL hi he.symm
  obtain ⟨q, a, b⟩ := h
  have t0 : ∀ j, zLeave z i p m (tp j 0) = z (tp j 0) := fun j => by rw [zLeave_t z j 0 hm hp (by omega), if_neg (by omega)]
  have key : ∀ j, j < m - 1 → ∃ j', j' < m ∧ j' ≠ p ∧ (j' = if j < p then j else j + 1) ∧ (zLeave z i p m (tp (lx (zLeave z i p m) n j) 8) = 1 ↔ j' < q) := fun j hj => by
    have hl := zLeave_l z (i := i) hm hp hj
    refine ⟨if j < p then j else j + 1, by split <;> omega, by split <;> omega, rfl, ?_⟩
    have e : zLeave z i p m (15 + j) = z (15 + (if j < p then j else j + 1)) := by
      rw [hl]
      by_cases g : j < p
      · rw [if_pos g, if_pos g]
      · rw [if_neg g, if_neg g]; rfl
    rw [lx_eq (n := n) t0 e]
    have hj' : (if j < p then j else j + 1) < m := by split <;> omega
    have hne : (if j < p then j else j + 1) ≠ p := by split <;> omega
    rw [zLeave_t z _ 8 hm hp (by omega), if_neg (fun c => hne (lx_inj hL hj' hp (c.1.trans ei.symm)))]
    exact b _ hj'
  by_cases g : p < q
  · refine ⟨q - 1, by omega, fun j hj => ?_⟩
    obtain ⟨j', j1, j2, j3, j4⟩ := key j hj
    rw [j4, j3]
    split <;> omega
  · refine ⟨q, by omega, fun j hj => ?_⟩
    obtain ⟨j', j1, j2, j3, j4⟩ := key j hj
    rw [j4, j3]
    split <;> omega
