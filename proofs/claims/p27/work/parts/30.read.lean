/-! what the state's functions leave at each place: u < 13 of a taxi; k < 15; the line; those who wait -/
theorem tp_ge (i u : Nat) : 72 ≤ tp i u := by simp only [tp]; omega
theorem tp_inj {i j u w : Nat} (hu : u < 13) (hw : w < 13) : tp i u = tp j w ↔ i = j ∧ u = w := by
  simp only [tp]
  constructor
  · intro h; omega
  · rintro ⟨rfl, rfl⟩; rfl
theorem upd_t (z : Nat → Int32) (i w j u : Nat) (v : Int32) (hu : u < 13) (hw : w < 13) : upd z (tp i w) v (tp j u) = if j = i ∧ u = w then v else z (tp j u) := by
  simp only [upd]
  by_cases h : tp j u = tp i w
  · rw [if_pos h, if_pos ((tp_inj hu hw).mp h)]
  · rw [if_neg h, if_neg (fun q => h ((tp_inj hu hw).mpr q))]
theorem upd_l (z : Nat → Int32) (i w : Nat) {k : Nat} (v : Int32) (h : k < 72) : upd z (tp i w) v k = z k := upd_tpS z i w v h
theorem shR_t (z : Nat → Int32) (p q m j u : Nat) (hm : m < 12) : shR z p q m (tp j u) = z (tp j u) := by
  simp only [shR, tp]
  rw [if_neg (by omega)]
theorem shR_o (z : Nat → Int32) (p q m k : Nat) (hm : m < 12) (h : k < 15 ∨ 27 ≤ k) : shR z p q m k = z k := by
  simp only [shR]
  rw [if_neg (by omega)]
theorem zStand_t (z : Nat → Int32) {i p m : Nat} (j u : Nat) (hm : m < 12) (hp : p ≤ m) (hu : u < 13) : zStand z i p m (tp j u) = if j = i ∧ (u = 1 ∨ u = 2) then 0 else z (tp j u) := by
  simp only [zStand]
  rw [upd_t _ _ _ _ _ _ hu (by omega)]
  by_cases h2 : j = i ∧ u = 2
  · rw [if_pos h2, if_pos ⟨h2.1, Or.inr h2.2⟩]
  · rw [if_neg h2, upd_t _ _ _ _ _ _ hu (by omega)]
    by_cases h1 : j = i ∧ u = 1
    · rw [if_pos h1, if_pos ⟨h1.1, Or.inl h1.2⟩]
    · rw [if_neg h1, if_neg (by rintro ⟨a, b | b⟩; exact h1 ⟨a, b⟩; exact h2 ⟨a, b⟩), upd_S _ _ _ _ (by omega), upd_S _ _ _ _ (by omega), shR_t _ _ _ _ _ _ hm]
theorem zStand_l (z : Nat → Int32) {i p m k : Nat} (hm : m < 12) (hp : p ≤ m) (hk : k ≤ m) : zStand z i p m (15 + k) = if k < p then z (15 + k) else if k = p then z (tp i 0) else z (15 + k - 1) := by
  simp only [zStand]
  rw [upd_l _ _ _ _ (by omega), upd_l _ _ _ _ (by omega), upd_n _ _ (by omega)]
  simp only [upd, shR]
  by_cases h1 : k = p
  · subst h1
    rw [if_pos rfl, if_neg (by omega), if_pos rfl]
  · rw [if_neg (by omega)]
    by_cases h2 : k < p
    · rw [if_neg (by omega), if_pos h2]
    · rw [if_pos (by omega), if_neg h2, if_neg h1]
theorem zStand_12 (z : Nat → Int32) {i p m : Nat} : zStand z i p m 12 = nI (m + 1) := by
  simp only [zStand]
  rw [upd_l _ _ _ _ (by omega), upd_l _ _ _ _ (by omega), upd_e]
theorem zStand_o (z : Nat → Int32) {i p m k : Nat} (hm : m < 12) (hp : p ≤ m) (h : k < 15 ∧ k ≠ 12 ∨ 27 ≤ k ∧ k < 72) : zStand z i p m k = z k := by
  simp only [zStand]
  rw [upd_l _ _ _ _ (by omega), upd_l _ _ _ _ (by omega), upd_n _ _ (by omega), upd_n _ _ (by omega), shR_o _ _ _ _ _ hm (by omega)]
theorem zLeave_t (z : Nat → Int32) {i p m : Nat} (j u : Nat) (hm : m ≤ 12) (hp : p < m) (hu : u < 13) : zLeave z i p m (tp j u) = if j = i ∧ u = 8 then 0 else z (tp j u) := by
  simp only [zLeave]
  rw [upd_t _ _ _ _ _ _ hu (by omega)]
  by_cases h : j = i ∧ u = 8
  · rw [if_pos h, if_pos h]
  · rw [if_neg h, if_neg h]
    simp only [shL, upd, tp]
    rw [if_neg (by omega), if_neg (by omega)]
theorem zLeave_l (z : Nat → Int32) {i p m k : Nat} (hm : m ≤ 12) (hp : p < m) (hk : k < m - 1) : zLeave z i p m (15 + k) = if k < p then z (15 + k) else z (15 + k + 1) := by
  simp only [zLeave]
  rw [upd_l _ _ _ _ (by omega)]
  simp only [shL, upd]
  by_cases h : k < p
  · rw [if_neg (by omega), if_pos h, if_neg (by omega)]
  · rw [if_pos (by omega), if_neg h, if_neg (by omega)]
theorem zLeave_12 (z : Nat → Int32) {i p m : Nat} : zLeave z i p m 12 = nI (m - 1) := by
  simp only [zLeave]
  rw [upd_l _ _ _ _ (by omega)]
  simp only [shL, upd]
  rw [if_neg (by omega), if_pos trivial]
theorem zLeave_o (z : Nat → Int32) {i p m k : Nat} (hm : m ≤ 12) (hp : p < m) (h : k < 15 ∧ k ≠ 12 ∨ 27 ≤ k ∧ k < 72) : zLeave z i p m k = z k := by
  simp only [zLeave]
  rw [upd_l _ _ _ _ (by omega)]
  simp only [shL, upd]
  rw [if_neg (by omega), if_neg (by omega)]
theorem zGoes_t (z : Nat → Int32) {r k : Nat} (j u : Nat) (hk : k ≤ 15) : zGoes z r k (tp j u) = z (tp j u) := by
  simp only [zGoes, shW, upd, tp]
  rw [if_neg (by omega), if_neg (by omega)]
theorem zGoes_o (z : Nat → Int32) {r k j : Nat} (hk : k ≤ 15) (h : j < 27 ∧ j ≠ 13) : zGoes z r k j = z j := by
  simp only [zGoes, shW, upd]
  rw [if_neg (by omega), if_neg (by omega)]
theorem zGoes_13 (z : Nat → Int32) {r k : Nat} : zGoes z r k 13 = nI (k - 1) := by
  simp only [zGoes, shW, upd]
  rw [if_neg (by omega), if_pos trivial]
theorem zGoes_w (z : Nat → Int32) {r k q w : Nat} (hq : q < k - 1) (hw : w < 3) : zGoes z r k (27 + 3 * q + w) = if q < r then z (27 + 3 * q + w) else z (27 + 3 * (q + 1) + w) := by
  simp only [zGoes, shW, upd]
  by_cases h : q < r
  · rw [if_neg (by omega), if_pos h, if_neg (by omega)]
  · rw [if_pos (by omega), if_neg h, if_neg (by omega)]
    congr 1
    omega
theorem zFare_t (z : Nat → Int32) {i : Nat} (a b r : Int32) (j u : Nat) (hu : u < 13) : zFare z i a b r (tp j u) = if j = i then (if u = 4 then z (tp i 4) + 1 else if u = 5 then z (tp i 5) + b2 (isLongZ z a b) else if u = 12 then b2 (¬ r = 0 ∧ ¬ isLongZ z a b) else if u = 10 then a else if u = 11 then b else z (tp i u)) else z (tp j u) := by
  simp only [zFare]
  rw [upd_t _ _ _ _ _ _ hu (by omega), upd_t _ _ _ _ _ _ hu (by omega), upd_t _ _ _ _ _ _ hu (by omega), upd_t _ _ _ _ _ _ hu (by omega), upd_t _ _ _ _ _ _ hu (by omega)]
  by_cases h : j = i
  · subst h
    simp only [true_and, if_true]
    by_cases h11 : u = 11
    · subst h11; simp
    · by_cases h10 : u = 10
      · subst h10; simp
      · by_cases h12 : u = 12
        · subst h12; simp
        · simp [h11, h10, h12]
          by_cases h5 : u = 5
          · subst h5; simp
          · simp [h5]
  · simp [h]
theorem zFare_o (z : Nat → Int32) {i k : Nat} (a b r : Int32) (h : k < 72) : zFare z i a b r k = z k := by
  simp only [zFare]
  rw [upd_l _ _ _ _ h, upd_l _ _ _ _ h, upd_l _ _ _ _ h, upd_l _ _ _ _ h, upd_l _ _ _ _ h]
theorem zRide_t (z : Nat → Int32) {i : Nat} (j u : Nat) (hu : u < 13) : zRide z i (tp j u) = if j = i then (if u = 1 then 2 else if u = 2 then sz32 (z (tp i 11) - z (tp i 10)) * z 0 else z (tp i u)) else z (tp j u) := by
  simp only [zRide]
  rw [upd_S _ _ _ _ (by omega), upd_t _ _ _ _ _ _ hu (by omega), upd_t _ _ _ _ _ _ hu (by omega)]
  by_cases h : j = i
  · subst h
    by_cases h2 : u = 2
    · subst h2; simp
    · simp [h2]
  · simp [h]
theorem zRide_o (z : Nat → Int32) {i k : Nat} (h : k < 72) : zRide z i k = if k = 6 then z 6 + 1 else z k := by
  simp only [zRide, upd]
  have := tp_ge i 1
  have := tp_ge i 2
  by_cases h6 : k = 6
  · rw [if_pos h6, if_pos h6]
  · rw [if_neg h6, if_neg h6, if_neg (by omega), if_neg (by omega)]
theorem zPaid1_t (z : Nat → Int32) {i : Nat} (j u : Nat) (hu : u < 13) : zPaid1 z i (tp j u) = if j = i ∧ u = 6 then z (tp i 6) + fare32 (z (tp i 10)) (z (tp i 11)) else z (tp j u) := by
  simp only [zPaid1]
  rw [upd_S _ _ _ _ (by omega), upd_t _ _ _ _ _ _ hu (by omega)]
theorem zPaid1_o (z : Nat → Int32) {i k : Nat} (h : k < 72) : zPaid1 z i k = if k = 9 then z 9 + fare32 (z (tp i 10)) (z (tp i 11)) else z k := by
  simp only [zPaid1, upd]
  have := tp_ge i 6
  by_cases h9 : k = 9
  · rw [if_pos h9, if_pos h9]
  · rw [if_neg h9, if_neg h9, if_neg (by omega)]

