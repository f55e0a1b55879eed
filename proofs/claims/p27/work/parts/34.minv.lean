/-! a minute, as a function of the state, and what it keeps -/
def MV (z : Nat → Int32) (n k : Nat) : Prop := (∃ m, Ln z n m) ∧ (∀ i, i < n → TxOK z i) ∧ SetOK z ∧ z 13 = nI k ∧ k ≤ 15 ∧ ∀ r, r < k → Pl (z (27 + 3 * r)) ∧ z (27 + 3 * r) ≠ 10
def zT1 (z : Nat → Int32) (i : Nat) : Nat → Int32 := upd (upd (upd z (tp i 3) (z (tp i 3) + b2 (¬ z (tp i 1) = 4))) 10 (z 10 + b2 (¬ z (tp i 1) = 4))) (tp i 2) (z (tp i 2) - 1)
def zTick (z : Nat → Int32) (i : Nat) : Nat → Int32 := if 1 ≤ z (tp i 1) ∧ z (tp i 1) ≤ 4 then (if z (tp i 2) - 1 = 0 then zEnd (zT1 z i) i (ix (z 11)) (ix (z 12)) else zT1 z i) else z
def zTs (z : Nat → Int32) : Nat → Nat → Int32
  | 0 => z
  | i + 1 => zTick (zTs z i) i
def zDs (z : Nat → Int32) (r : Nat) : Nat → Int32 := if z 1 ≤ z 5 - z (27 + 3 * r + 1) then upd (zGoes z r (ix (z 13))) 7 (z 7 + 1) else z
def zDis (z : Nat → Int32) : Nat → Nat → Int32
  | 0 => z
  | r + 1 => zDis (zDs z r) r
/-- the last place in the line with a plate, among the first m -/
def plF (z : Nat → Int32) (p : Int32) : Nat → Nat
  | 0 => 0
  | m + 1 => if z (15 + m) = p then m else plF z p m
theorem plF_ok (z : Nat → Int32) (p : Int32) : ∀ m, (∃ k, k < m ∧ z (15 + k) = p) → plF z p m < m ∧ z (15 + plF z p m) = p := by
  intro m
  induction m with
  | zero => rintro ⟨i, h, -⟩; omega
  | succ m ih =>
    rintro ⟨i, h1, h2⟩
    simp only [plF]
    by_cases e : z (15 + m) = p
    · rw [if_pos e]; exact ⟨by omega, e⟩
    · rw [if_neg e]
      obtain ⟨a, b⟩ := ih ⟨i, by
        by_cases q : i = m
        · subst q; exact absurd h2 e
        · omega, h2⟩
      exact ⟨by omega, b⟩
def zOff (z : Nat → Int32) (t m : Nat) (b : Int32) : Nat → Int32 := zRide (zFare (zLeave z t (plF z (z (tp t 0)) m) m) t 10 b 1) t
def zSit (z : Nat → Int32) (t r : Nat) : Nat → Int32 := zGoes (zOff z t (ix (z 12)) (z (27 + 3 * r))) r (ix (z 13))
def seat (s : Int32) : Nat → (Nat → Int32) → Int32 → Nat → (Nat → Int32) × Int32
  | 0, z, hr, _ => (z, hr)
  | d + 1, z, hr, r => match rider z (ix (z 11)) (ix (z 12)) (z (27 + 3 * r)) with
    | none => seat s d z hr (r + 1)
    | some t => seat s d (zSit z t r) (b2 (¬ hr = 0 ∨ z (27 + 3 * r + 2) = s)) r
def zM3 (z : Nat → Int32) : Nat → Int32 := zDis (zTs (upd z 5 (z 5 + 1)) (ix (z 11))) (ix (z 13))
def zMin (s : Int32) (z : Nat → Int32) (hr : Int32) : (Nat → Int32) × Int32 := seat s (ix (zM3 z 13)) (zM3 z) hr 0
theorem zT1_t (z : Nat → Int32) {i : Nat} (j u : Nat) (hu : u < 13) : zT1 z i (tp j u) = if j = i then (if u = 2 then z (tp i 2) - 1 else if u = 3 then z (tp i 3) + b2 (¬ z (tp i 1) = 4) else z (tp i u)) else z (tp j u) := by
  simp only [zT1]
  rw [upd_t _ _ _ _ _ _ hu (by omega), upd_S _ _ _ _ (by omega), upd_t _ _ _ _ _ _ hu (by omega)]
  by_cases h : j = i
  · subst h
    by_cases h2 : u = 2
    · subst h2; simp
    · simp [h2]
  · simp [h]
theorem zT1_o (z : Nat → Int32) {i k : Nat} (h : k < 72) : zT1 z i k = if k = 10 then z 10 + b2 (¬ z (tp i 1) = 4) else z k := by
  simp only [zT1]
  rw [upd_l _ _ _ _ h]
  simp only [upd]
  have := tp_ge i 3
  by_cases q : k = 10
  · rw [if_pos q, if_pos q]
  · rw [if_neg q, if_neg q, if_neg (by omega)]
theorem i32_01 {x : Int32} (h : 0 < x) (hne : ¬ x - 1 = 0) : 0 < x - 1 := by
  have h1 := Int32.lt_iff_toInt_lt.mp h
  have e0 : (0 : Int32).toInt = 0 := by decide
  obtain ⟨j, hj, rfl⟩ := nI_of (x := x) (fun q => by have := Int32.lt_iff_toInt_lt.mp q; omega)
  rw [nI_toInt hj] at h1
  have e := (nI_dn (k := j) (by omega)).2
  rw [e] at hne ⊢
  have hj1 : j - 1 ≠ 0 := fun q => hne (by rw [q]; rfl)
  exact Int32.lt_iff_toInt_lt.mpr (by rw [nI_toInt (by omega)]; omega)
theorem doing14 {x : Int32} (h : x = 0 ∨ x = 1 ∨ x = 2 ∨ x = 3 ∨ x = 4 ∨ x = 5) : (1 ≤ x ∧ x ≤ 4) ↔ (x = 1 ∨ x = 2 ∨ x = 3 ∨ x = 4) := by
  rcases h with rfl | rfl | rfl | rfl | rfl | rfl <;> decide
theorem MV.tick {z : Nat → Int32} {n k i : Nat} (h : MV z n k) (hi : i < n) : MV (zTick z i) n k := by
  obtain ⟨⟨m, hl⟩, ht, hs, hk, hk2, hw⟩ := h
  unfold zTick
  split
  · next g =>
    have hd : ¬ z (tp i 1) = 0 := fun q => by rw [q] at g; exact absurd g.1 (by decide)
    obtain ⟨w, wp⟩ := ht i hi
    have h4 := (doing14 w.1).mp g
    have hX : LnX (zT1 z i) n m i := fld_same (LnX.out hl hi hd) (by rw [zT1_t z i 0 (by omega)]; simp) (fun j u hu hj => by rw [zT1_t z j u hu, if_neg hj]) (fun k a b => by rw [zT1_o z (by omega), if_neg (by omega)])
    have hs1 : SetOK (zT1 z i) := hs.same (fun k hk => by rw [zT1_o z (by omega), if_neg (by omega)])
    have e : ∀ u, u < 13 → u ≠ 2 → u ≠ 3 → zT1 z i (tp i u) = z (tp i u) := fun u hu h2 h3 => by rw [zT1_t z i u hu]; simp [h2, h3]
    have hw1 : TxW (zT1 z i) i := by
      unfold TxW
      rw [e 1 (by omega) (by omega) (by omega), e 8 (by omega) (by omega) (by omega), e 9 (by omega) (by omega) (by omega), e 10 (by omega) (by omega) (by omega), e 11 (by omega) (by omega) (by omega), e 12 (by omega) (by omega) (by omega)]
      exact w
    have hm : m < 12 := by have := hX.lt hi; have := hl.2.1; omega
    have e11 : ix (z 11) = n := by rw [hl.1]; exact ix_nI (by have := hl.2.1; omega)
    have e12 : ix (z 12) = m := by rw [hl.2.2.1]; exact ix_nI (by omega)
    split
    · rw [e11, e12]
      obtain ⟨a, b⟩ := zEnd_inv hX hi hs1 hw1 (by rw [e 1 (by omega) (by omega) (by omega)]; exact hd)
      have ho : ∀ k, (k < 15 ∧ k ≠ 12 ∧ k ≠ 9 ∧ k ≠ 6 ∧ k ≠ 10 ∨ 27 ≤ k ∧ k < 72) → zEnd (zT1 z i) i n m k = z k := fun k hk => by rw [zEnd_o _ hm (by omega), zT1_o z (by omega), if_neg (by omega)]
      refine ⟨a, fun j hj => ?_, hs.same (fun k hk => ho k (by omega)), by rw [ho 13 (by omega)]; exact hk, hk2, fun r hr => by rw [ho _ (by omega)]; exact hw r hr⟩
      by_cases q : j = i
      · subst q; exact b
      · exact (ht j hj).same (fun u hu => by rw [zEnd_ne _ j u hm hu q, zT1_t z j u hu, if_neg q])
    · next g2 =>
      refine ⟨⟨m, LnX.in (i := i) hX (by rw [e 1 (by omega) (by omega) (by omega)]; exact hd)⟩, fun j hj => ?_, hs1, by rw [zT1_o z (by omega), if_neg (by omega)]; exact hk, hk2, fun r hr => by rw [zT1_o z (by omega), if_neg (by omega)]; exact hw r hr⟩
      by_cases q : j = i
      · subst q
        refine ⟨hw1, fun _ => ?_⟩
        rw [zT1_t z j 2 (by omega), if_pos rfl, if_pos rfl]
        exact i32_01 (wp h4) g2
      · exact (ht j hj).same (fun u hu => by rw [zT1_t z j u hu, if_neg q])
  · exact ⟨⟨m, hl⟩, ht, hs, hk, hk2, hw⟩
theorem MV.clock {z : Nat → Int32} {n k : Nat} (h : MV z n k) (v : Int32) : MV (upd z 5 v) n k := by
  obtain ⟨⟨m, hl⟩, ht, hs, hk, hk2, hw⟩ := h
  have e : ∀ k, k ≠ 5 → upd z 5 v k = z k := fun k hk => upd_n z v hk
  have et : ∀ j u, upd z 5 v (tp j u) = z (tp j u) := fun j u => e _ (by have := tp_ge j u; omega)
  exact ⟨⟨m, LnX.same hl (fun j => et j 0) (fun j _ => et j 1) (fun k _ _ _ _ => e k (by omega))⟩, fun i hi => (ht i hi).same (fun u _ => et i u), hs.same (fun k hk => e k (by omega)), by rw [e 13 (by omega)]; exact hk, hk2, fun r hr => by rw [e _ (by omega)]; exact hw r hr⟩
theorem MV.goes {z : Nat → Int32} {n k r : Nat} (h : MV z n k) (hr : r < k) : MV (zGoes z r k) n (k - 1) := by
  obtain ⟨⟨m, hl⟩, ht, hs, hk, hk2, hw⟩ := h
  refine ⟨⟨m, LnX.same hl (fun j => zGoes_t z j 0 hk2) (fun j _ => zGoes_t z j 1 hk2) (fun q _ _ _ _ => zGoes_o z hk2 (by omega))⟩, fun i hi => (ht i hi).same (fun u _ => zGoes_t z i u hk2), hs.same (fun q hq => zGoes_o z hk2 (by omega)), zGoes_13 z, by omega, fun q hq => ?_⟩
  have := zGoes_w z (r := r) (k := k) (q := q) (w := 0) hq (by omega)
  simp only [Nat.add_zero] at this
  rw [this]
  split
  · exact hw q (by omega)
  · exact hw (q + 1) (by omega)
theorem MV.cnt {z : Nat → Int32} {n k : Nat} (h : MV z n k) (c : Nat) (hc : 5 ≤ c ∧ c < 11 ∨ c = 14) (v : Int32) : MV (upd z c v) n k := by
  obtain ⟨⟨m, hl⟩, ht, hs, hk, hk2, hw⟩ := h
  have e : ∀ k, k ≠ c → upd z c v k = z k := fun k hk => upd_n z v hk
  have et : ∀ j u, upd z c v (tp j u) = z (tp j u) := fun j u => e _ (by have := tp_ge j u; omega)
  exact ⟨⟨m, LnX.same hl (fun j => et j 0) (fun j _ => et j 1) (fun k _ _ _ _ => e k (by omega))⟩, fun i hi => (ht i hi).same (fun u _ => et i u), hs.same (fun k hk => e k (by omega)), by rw [e 13 (by omega)]; exact hk, hk2, fun r hr => by rw [e _ (by omega)]; exact hw r hr⟩
theorem MV.ds {z : Nat → Int32} {n k r : Nat} (h : MV z n k) (hr : r < k) : ∃ k', MV (zDs z r) n k' ∧ r ≤ k' := by
  unfold zDs
  have e : ix (z 13) = k := by rw [h.2.2.2.1]; exact ix_nI (by have := h.2.2.2.2.1; omega)
  split
  · rw [e]
    exact ⟨k - 1, (h.goes hr).cnt 7 (by omega) _, by omega⟩
  · exact ⟨k, h, by omega⟩
/-- who rides is a taxi of the line that may -/
theorem rd_in {z : Nat → Int32} {n m : Nat} (isL : Prop) [Decidable isL] : ∀ k f t, k ≤ m → rd z n isL k f = some t → (f = some t) ∨ ∃ q, q < m ∧ t = lx z n q ∧ may z t := by
  intro k
  induction k with
  | zero => intro f t _ h; exact Or.inl h
  | succ k ih =>
    intro f t hk h
    simp only [rd] at h
    rcases ih _ t (by omega) h with h1 | h1
    · cases f with
      | none =>
        simp only [rdS] at h1
        split at h1
        · next g => cases h1; exact Or.inr ⟨k, by omega, rfl, g⟩
        · cases h1
      | some j =>
        simp only [rdS] at h1
        split at h1
        · next g => cases h1; exact Or.inr ⟨k, by omega, rfl, g.1⟩
        · exact Or.inl h1
    · exact Or.inr h1
theorem rider_in {z : Nat → Int32} {n m t : Nat} {b : Int32} (hl : Ln z n m) (h : rider z n m b = some t) : t < n ∧ may z t ∧ z (tp t 1) = 0 ∧ ∃ k, k < m ∧ z (15 + k) = z (tp t 0) := by
  rcases rd_in _ m none t (Nat.le_refl m) h with q | ⟨k, k1, rfl, k2⟩
  · cases q
  · obtain ⟨i, a, b, c, d⟩ := hl.2.2.2.2.1 k k1
    have e : lx z n k = i := fTx_eq hl.2.2.2.1 a c
    rw [e] at k2 ⊢
    exact ⟨a, k2, d, k, k1, c.symm⟩
theorem zOff_t (z : Nat → Int32) {t m : Nat} {b : Int32} (j u : Nat) (hm : m ≤ 12) (hp : plF z (z (tp t 0)) m < m) (hu : u < 13) (hj : j ≠ t) : zOff z t m b (tp j u) = z (tp j u) := by
  unfold zOff
  rw [zRide_t _ j u hu, if_neg hj, zFare_t _ _ _ _ j u hu, if_neg hj, zLeave_t z j u hm hp hu, if_neg (fun q => hj q.1)]
theorem zOff_o (z : Nat → Int32) {t m k : Nat} {b : Int32} (hm : m ≤ 12) (hp : plF z (z (tp t 0)) m < m) (h : k < 15 ∧ k ≠ 12 ∨ 27 ≤ k ∧ k < 72) : zOff z t m b k = if k = 6 then z 6 + 1 else z k := by
  unfold zOff
  rw [zRide_o _ (by omega), zFare_o _ _ _ _ (by omega), zFare_o _ _ _ _ (by omega), zLeave_o z hm hp (by omega), zLeave_o z hm hp h]
theorem MV.off {z : Nat → Int32} {n m k t : Nat} {b : Int32} (h : MV z n k) (hl : Ln z n m) (ht : t < n) (hin : ∃ k, k < m ∧ z (15 + k) = z (tp t 0)) (hb : Pl b ∧ b ≠ 10) : MV (zOff z t m b) n k := by
  obtain ⟨-, hT, hs, hk, hk2, hw⟩ := h
  obtain ⟨p1, p2⟩ := plF_ok z (z (tp t 0)) m hin
  have hm : m ≤ 12 := hl.2.2.2.2.2.2.2
  have hX := LnX.leave hl ht p1 p2
  have e1 : ∀ u, u < 13 → zFare (zLeave z t (plF z (z (tp t 0)) m) m) t 10 b 1 (tp t u) = if u = 4 then zLeave z t (plF z (z (tp t 0)) m) m (tp t 4) + 1 else if u = 5 then zLeave z t (plF z (z (tp t 0)) m) m (tp t 5) + b2 (isLongZ (zLeave z t (plF z (z (tp t 0)) m) m) 10 b) else if u = 12 then b2 (¬ (1 : Int32) = 0 ∧ ¬ isLongZ (zLeave z t (plF z (z (tp t 0)) m) m) 10 b) else if u = 10 then 10 else if u = 11 then b else zLeave z t (plF z (z (tp t 0)) m) m (tp t u) := fun u hu => by rw [zFare_t _ _ _ _ t u hu, if_pos rfl]
  have hX2 : LnX (zFare (zLeave z t (plF z (z (tp t 0)) m) m) t 10 b 1) n (m - 1) t := fld_same hX (by rw [e1 0 (by omega)]; simp) (fun j u hu hj => by rw [zFare_t _ _ _ _ j u hu, if_neg hj]) (fun q a c => by rw [zFare_o _ _ _ _ (by omega)])
  have hs2 : SetOK (zFare (zLeave z t (plF z (z (tp t 0)) m) m) t 10 b 1) := hs.same (fun q hq => by rw [zFare_o _ _ _ _ (by omega), zLeave_o z hm p1 (by omega)])
  obtain ⟨r1, r2⟩ := zRide_inv hX2 hs2 (by rw [e1 8 (by omega)]; simp only [show ¬ (8 : Nat) = 4 by omega, show ¬ (8 : Nat) = 5 by omega, show ¬ (8 : Nat) = 12 by omega, show ¬ (8 : Nat) = 10 by omega, show ¬ (8 : Nat) = 11 by omega, if_false]; rw [zLeave_t z t 8 hm p1 (by omega), if_pos ⟨rfl, rfl⟩]) (by rw [e1 12 (by omega)]; simp only [show ¬ (12 : Nat) = 4 by omega, show ¬ (12 : Nat) = 5 by omega, if_false, if_true]; exact b2_01) (by
    rw [e1 10 (by omega), e1 11 (by omega)]
    simp only [show ¬ (10 : Nat) = 4 by omega, show ¬ (10 : Nat) = 5 by omega, show ¬ (10 : Nat) = 12 by omega, show ¬ (11 : Nat) = 4 by omega, show ¬ (11 : Nat) = 5 by omega, show ¬ (11 : Nat) = 12 by omega, show ¬ (11 : Nat) = 10 by omega, if_false, if_true]
    exact ⟨Pl10, hb.1, fun q => hb.2 q.symm⟩)
  refine ⟨⟨m - 1, r1⟩, fun j hj => ?_, hs.same (fun q hq => by rw [zOff_o z hm p1 (by omega), if_neg (by omega)]), by rw [zOff_o z hm p1 (by omega), if_neg (by omega)]; exact hk, hk2, fun r hr => by rw [zOff_o z hm p1 (by omega), if_neg (by omega)]; exact hw r hr⟩
  by_cases q : j = t
  · subst q; exact r2
  · exact (hT j hj).same (fun u hu => zOff_t z j u hm p1 hu q)
theorem MV.sit {z : Nat → Int32} {n m k t r : Nat} (h : MV z n k) (hl : Ln z n m) (hr : r < k) (hrd : rider z n m (z (27 + 3 * r)) = some t) : MV (zSit z t r) n (k - 1) := by
  obtain ⟨a, b, c, d⟩ := rider_in hl hrd
  have hm : m ≤ 12 := hl.2.2.2.2.2.2.2
  unfold zSit
  rw [show ix (z 12) = m by rw [hl.2.2.1]; exact ix_nI (by omega), show ix (z 13) = k by rw [h.2.2.2.1]; exact ix_nI (by have := h.2.2.2.2.1; omega)]
  exact (h.off hl a d (h.2.2.2.2.2 r hr)).goes hr

