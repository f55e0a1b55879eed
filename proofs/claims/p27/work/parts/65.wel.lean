/-! a taxi that comes: what holds -/
def insAt (z : Nat → Int32) (p : Int32) : Nat → Nat
  | 0 => 0
  | n + 1 => if p < z (tp n 0) then insAt z p n else n + 1
theorem insAt_le (z : Nat → Int32) (p : Int32) : ∀ n, insAt z p n ≤ n := by
  intro n
  induction n with
  | zero => exact Nat.le_refl 0
  | succ n ih => simp only [insAt]; split <;> omega
def shI (z : Nat → Int32) (a n : Nat) : Nat → Int32 := fun j => if 72 + 13 * (a + 1) ≤ j ∧ j < 72 + 13 * (n + 1) then z (j - 13) else z j
def zIn0 (z : Nat → Int32) (p : Int32) (q n k : Nat) : Nat → Int32 := fun j => if 72 + 13 * q ≤ j ∧ j < 72 + 13 * q + k then (if j = 72 + 13 * q then p else 0) else shI z q n j
def zIns (z : Nat → Int32) (p : Int32) (n : Nat) : Nat → Int32 := upd (zIn0 z p (insAt z p n) n 13) 11 (nI (n + 1))
theorem zIns_t (z : Nat → Int32) (p : Int32) {n j u : Nat} (hu : u < 13) (hj : j ≤ n) : zIns z p n (tp j u) = if j < insAt z p n then z (tp j u) else if j = insAt z p n then (if u = 0 then p else 0) else z (tp (j - 1) u) := by
  have hq := insAt_le z p n
  generalize hqe : insAt z p n = q at hq
  simp only [zIns, hqe]
  rw [upd_n _ _ (by simp only [tp]; omega)]
  simp only [zIn0, shI, tp]
  by_cases h1 : j < q
  · rw [if_neg (by omega), if_neg (by omega), if_pos h1]
  · rw [if_neg h1]
    by_cases h2 : j = q
    · subst h2
      rw [if_pos (by omega), if_pos rfl]
      by_cases h3 : u = 0
      · rw [if_pos (by omega), if_pos h3]
      · rw [if_neg (by omega), if_neg h3]
    · rw [if_neg (by omega), if_pos (by omega), if_neg h2]
      exact congrArg z (by omega)
theorem zIns_o (z : Nat → Int32) (p : Int32) {n j : Nat} (hj : j < 72) : zIns z p n j = if j = 11 then nI (n + 1) else z j := by
  simp only [zIns, upd, zIn0, shI]
  by_cases h : j = 11
  · rw [if_pos h, if_pos h]
  · rw [if_neg h, if_neg h, if_neg (by omega), if_neg (by omega)]
theorem TxOK.at {z z' : Nat → Int32} {i j : Nat} (h : TxOK z i) (e : ∀ u, u < 13 → z' (tp j u) = z (tp i u)) : TxOK z' j := by
  unfold TxOK TxW
  rw [e 1 (by omega), e 2 (by omega), e 8 (by omega), e 9 (by omega), e 10 (by omega), e 11 (by omega), e 12 (by omega)]
  exact h
theorem ML.at {z z' : Nat → Int32} {i j : Nat} (h : ML z i) (e : ∀ u, u < 13 → z' (tp j u) = z (tp i u)) : ML z' j := by
  unfold ML
  rw [e 1 (by omega), e 2 (by omega)]
  exact h
theorem LnX.ins {z : Nat → Int32} {n m : Nat} {p : Int32} (h : Ln z n m) (hn : n < 12) (hno : ∀ i, i < n → z (tp i 0) ≠ p) : LnX (zIns z p n) (n + 1) m (insAt z p n) := by
  obtain ⟨a, b, c, d, e, f, g, hm⟩ := h
  have hq := insAt_le z p n
  have t := fun j u (hu : u < 13) (hj : j ≤ n) => zIns_t z p (n := n) (j := j) hu hj
  have o := fun j (hj : j < 72) => zIns_o z p (n := n) hj
  generalize hqe : insAt z p n = q at hq t
  have up : ∀ i, i < n → ∃ j, j < n + 1 ∧ j ≠ q ∧ (∀ u, u < 13 → zIns z p n (tp j u) = z (tp i u)) := fun i hi => by
    by_cases h1 : i < q
    · exact ⟨i, by omega, by omega, fun u hu => by rw [t i u hu (by omega), if_pos h1]⟩
    · exact ⟨i + 1, by omega, by omega, fun u hu => by rw [t (i + 1) u hu (by omega), if_neg (by omega), if_neg (by omega)]; rfl⟩
  have dn : ∀ j, j < n + 1 → j ≠ q → ∃ i, i < n ∧ (j = if i < q then i else i + 1) ∧ (∀ u, u < 13 → zIns z p n (tp j u) = z (tp i u)) := fun j hj hjq => by
    by_cases h1 : j < q
    · exact ⟨j, by omega, by rw [if_pos h1], fun u hu => by rw [t j u hu (by omega), if_pos h1]⟩
    · exact ⟨j - 1, by omega, by rw [if_neg (by omega)]; omega, fun u hu => by rw [t j u hu (by omega), if_neg h1, if_neg hjq]⟩
  have pq : zIns z p n (tp q 0) = p := by rw [t q 0 (by omega) hq, if_neg (by omega), if_pos rfl, if_pos rfl]
  have ln : ∀ k, k < m → zIns z p n (15 + k) = z (15 + k) := fun k hk => by rw [o _ (by omega), if_neg (by omega)]
  refine ⟨by rw [o 11 (by omega), if_pos rfl], by omega, by rw [o 12 (by omega), if_neg (by omega)]; exact c, fun i j hi hj he => ?_, fun k hk => ?_, fun i hi hix hz => ?_, fun k k' hk hk' he => ?_, hm⟩
  · by_cases h1 : i = q
    · by_cases h2 : j = q
      · omega
      · obtain ⟨j0, j1, j2, j3⟩ := dn j hj h2
        rw [h1, pq, j3 0 (by omega)] at he
        exact absurd he.symm (hno j0 j1)
    · obtain ⟨i0, i1, i2, i3⟩ := dn i hi h1
      by_cases h2 : j = q
      · rw [h2, pq, i3 0 (by omega)] at he
        exact absurd he (hno i0 i1)
      · obtain ⟨j0, j1, j2, j3⟩ := dn j hj h2
        rw [i3 0 (by omega), j3 0 (by omega)] at he
        have := d i0 j0 i1 j1 he
        rw [i2, j2, this]
  · obtain ⟨i, i1, _, i3, i4⟩ := e k hk
    obtain ⟨j, j1, j2, j3⟩ := up i i1
    exact ⟨j, j1, j2, by rw [j3 0 (by omega), ln k hk]; exact i3, by rw [j3 1 (by omega)]; exact i4⟩
  · obtain ⟨i0, i1, _, i3⟩ := dn i hi hix
    rw [i3 1 (by omega)] at hz
    obtain ⟨k, k1, k2⟩ := f i0 i1 (by omega) hz
    exact ⟨k, k1, by rw [ln k k1, i3 0 (by omega)]; exact k2⟩
  · rw [ln k hk, ln k' hk'] at he
    exact g k k' hk hk' he
def whyW (z : Nat → Int32) (n : Nat) (p : Int32) : Int32 := if ¬ (0 ≤ p ∧ p ≤ 999) then -2 else match ftz z p n with
  | some i => if z (tp i 1) = 5 then 0 else -4
  | none => if n = 12 then -3 else 0
def zWe1 (z : Nat → Int32) (i m : Nat) : Nat → Int32 := zStand (upd z (tp i 3) 0) i m m
def zWel (z : Nat → Int32) (n m : Nat) (p : Int32) : Nat → Int32 := match ftz z p n with
  | some i => zWe1 z i m
  | none => zWe1 (zIns z p n) (insAt z p n) m
def nWel (z : Nat → Int32) (n : Nat) (p : Int32) : Nat := match ftz z p n with
  | some _ => n
  | none => n + 1
/-- a taxi that is outside for the moment stands last -/
theorem we1 {z : Nat → Int32} {n m k i : Nat} (hX : LnX z n m i) (hi : i < n) (hT : ∀ j, j < n → j ≠ i → TxOK z j) (h8 : z (tp i 8) = 0) (h12 : z (tp i 12) = 0 ∨ z (tp i 12) = 1) (hs : SetOK z) (hk : z 13 = nI k ∧ k ≤ 15 ∧ ∀ r, r < k → Pl (z (27 + 3 * r)) ∧ z (27 + 3 * r) ≠ 10) : MV (zWe1 z i m) n k ∧ Ln (zWe1 z i m) n (m + 1) := by
  have hm : m < 12 := by have := hX.lt hi; have := hX.2.1; omega
  have hX1 : LnX (upd z (tp i 3) 0) n m i := fld_same hX (by rw [upd_t _ _ _ _ _ _ (by omega) (by omega), if_neg (by omega)]) (fun j u hu hj => by rw [upd_t _ _ _ _ _ _ hu (by omega), if_neg (fun q => hj q.1)]) (fun q a b => by rw [upd_l _ _ _ _ (by omega)])
  have hL := LnX.stand hX1 hi (Nat.le_refl m)
  have e1 : ∀ u, u < 13 → u ≠ 3 → zWe1 z i m (tp i u) = if u = 1 ∨ u = 2 then 0 else z (tp i u) := fun u hu h3 => by
    unfold zWe1
    rw [zStand_t _ i u hm (Nat.le_refl m) hu, upd_t _ _ _ _ _ _ hu (by omega)]
    simp [h3]
  have en : ∀ j u, u < 13 → j ≠ i → zWe1 z i m (tp j u) = z (tp j u) := fun j u hu hj => by
    unfold zWe1
    rw [zStand_t _ j u hm (Nat.le_refl m) hu, if_neg (fun q => hj q.1), upd_t _ _ _ _ _ _ hu (by omega), if_neg (fun q => hj q.1)]
  have eo : ∀ q, (q < 15 ∧ q ≠ 12 ∨ 27 ≤ q ∧ q < 72) → zWe1 z i m q = z q := fun q hq => by
    unfold zWe1
    rw [zStand_o _ hm (Nat.le_refl m) hq, upd_l _ _ _ _ (by omega)]
  have d1 := e1 1 (by omega) (by omega)
  simp only [true_or, if_true] at d1
  refine ⟨⟨⟨_, hL⟩, fun j hj => ?_, hs.same (fun q hq => eo q (by omega)), by rw [eo 13 (by omega)]; exact hk.1, hk.2.1, fun r hr => by rw [eo _ (by have := hk.2.1; omega)]; exact hk.2.2 r hr⟩, hL⟩
  by_cases q : j = i
  · subst q
    refine ⟨?_, ?_⟩
    · unfold TxW
      rw [d1, e1 8 (by omega) (by omega), e1 12 (by omega) (by omega)]
      simp only [show ¬ ((8 : Nat) = 1 ∨ (8 : Nat) = 2) by omega, show ¬ ((12 : Nat) = 1 ∨ (12 : Nat) = 2) by omega, if_false]
      exact ⟨by decide, fun q => absurd trivial q, Or.inl h8, h12, fun q => absurd q (by decide), fun q => absurd q (by decide)⟩
    · rw [d1]
      intro q
      exact absurd q (by decide)
  · exact (hT j hj q).same (fun u hu => en j u hu q)

theorem we1_ex {z : Nat → Int32} {n m k i b c : Nat} (hX : LnX z n m i) (hi : i < n) (hk : k ≤ 15) (hE : EX z n k b c) : EX (zWe1 z i m) n k b c := by
  have hm : m < 12 := by have := hX.lt hi; have := hX.2.1; omega
  have eo : ∀ q, (q < 15 ∧ q ≠ 12 ∨ 27 ≤ q ∧ q < 72) → zWe1 z i m q = z q := fun q hq => by
    unfold zWe1
    rw [zStand_o _ hm (Nat.le_refl m) hq, upd_l _ _ _ _ (by omega)]
  refine hE.same hk (eo 5 (by omega)) (eo 14 (by omega)) (fun q a b => eo q (by omega)) (fun j hj => ?_)
  by_cases q : j = i
  · subst q
    refine ML.of ?_
    unfold zWe1
    rw [zStand_t _ j 2 hm (Nat.le_refl m) (by omega), if_pos ⟨rfl, Or.inr rfl⟩]
    decide
  · have en : ∀ u, u < 13 → zWe1 z i m (tp j u) = z (tp j u) := fun u hu => by
      unfold zWe1
      rw [zStand_t _ j u hm (Nat.le_refl m) hu, if_neg (fun c => q c.1), upd_t _ _ _ _ _ _ hu (by omega), if_neg (fun c => q c.1)]
    exact (hE.1 j hj).same (en 1 (by omega)) (en 2 (by omega))
theorem ins_dn (z : Nat → Int32) (p : Int32) {n j : Nat} (hj : j < n + 1) (hjq : j ≠ insAt z p n) : ∃ i, i < n ∧ (j = if i < insAt z p n then i else i + 1) ∧ ∀ u, u < 13 → zIns z p n (tp j u) = z (tp i u) := by
  have hq := insAt_le z p n
  by_cases h1 : j < insAt z p n
  · exact ⟨j, by omega, by rw [if_pos h1], fun u hu => by rw [zIns_t z p hu (by omega), if_pos h1]⟩
  · exact ⟨j - 1, by omega, by rw [if_neg (by omega)]; omega, fun u hu => by rw [zIns_t z p hu (by omega), if_neg h1, if_neg hjq]⟩
theorem ins_q (z : Nat → Int32) (p : Int32) {n u : Nat} (hu : u < 13) : zIns z p n (tp (insAt z p n) u) = if u = 0 then p else 0 := by
  rw [zIns_t z p hu (insAt_le z p n), if_neg (by omega), if_pos rfl]
theorem EX.ins {z : Nat → Int32} {n k b c : Nat} {p : Int32} (hE : EX z n k b c) (hk : k ≤ 15) : EX (zIns z p n) (n + 1) k b c := by
  obtain ⟨h1, h3, ⟨a, a1, a2, a3⟩, h4⟩ := hE
  have o : ∀ j, j < 72 → j ≠ 11 → zIns z p n j = z j := fun j hj h => by rw [zIns_o z p hj, if_neg h]
  refine ⟨fun i hi => ?_, by rw [o 5 (by omega) (by omega)]; exact h3, ⟨a, by rw [o 14 (by omega) (by omega)]; exact a1, a2, fun r hr => ?_⟩, fun r r' hr hr' => by rw [o _ (by omega) (by omega), o _ (by omega) (by omega)]; exact h4 r r' hr hr'⟩
  · by_cases q : i = insAt z p n
    · rw [q]
      refine ML.of ?_
      rw [ins_q z p (by omega), if_neg (by omega)]
      decide
    · obtain ⟨i0, i1, _, i3⟩ := ins_dn z p hi q
      exact (h1 i0 i1).at i3
  · rw [o _ (by omega) (by omega), o _ (by omega) (by omega)]
    exact a3 r hr
theorem wel_ok {z : Nat → Int32} {n m k : Nat} {p : Int32} (hM : MV z n k) (hL : Ln z n m) (h : whyW z n p = 0) : MV (zWel z n m p) (nWel z n p) k ∧ Ln (zWel z n m p) (nWel z n p) (m + 1) ∧ ∀ b c, EX z n k b c → EX (zWel z n m p) (nWel z n p) k b c := by
  obtain ⟨-, hT, hs, hk, hk2, hw⟩ := id hM
  unfold whyW at h
  by_cases g : 0 ≤ p ∧ p ≤ 999
  · rw [if_neg (fun q => q g)] at h
    unfold zWel nWel
    cases hf : ftz z p n with
    | none =>
      rw [hf] at h
      simp only at h ⊢
      have hn : n ≠ 12 := fun q => by rw [if_pos q] at h; exact absurd h (by decide)
      have hn2 := hL.2.1
      have hX := LnX.ins hL (by omega) (ftz_n hf)
      have hi : insAt z p n < n + 1 := by have := insAt_le z p n; omega
      have o : ∀ j, j < 72 → j ≠ 11 → zIns z p n j = z j := fun j hj h => by rw [zIns_o z p hj, if_neg h]
      obtain ⟨a, b⟩ := we1 (k := k) hX hi (fun j hj hjq => by
        obtain ⟨i0, i1, _, i3⟩ := ins_dn z p hj hjq
        exact (hT i0 i1).at i3) (by rw [ins_q z p (by omega), if_neg (by omega)]) (Or.inl (by rw [ins_q z p (by omega), if_neg (by omega)])) (hs.same (fun q hq => o q (by omega) (by omega))) ⟨by rw [o 13 (by omega) (by omega)]; exact hk, hk2, fun r hr => by rw [o _ (by omega) (by omega)]; exact hw r hr⟩
      exact ⟨a, b, fun b' c hE => we1_ex hX hi hk2 (hE.ins hk2)⟩
    | some i =>
      rw [hf] at h
      simp only at h ⊢
      obtain ⟨hi, -⟩ := ftz_s hf
      have h5 : z (tp i 1) = 5 := Decidable.byContradiction (fun q => by rw [if_neg q] at h; exact absurd h (by decide))
      have hd : ¬ z (tp i 1) = 0 := by rw [h5]; decide
      have hX := LnX.out hL hi hd
      obtain ⟨a, b⟩ := we1 (k := k) hX hi (fun j hj _ => hT j hj) ((hT i hi).1.2.1 hd) (hT i hi).1.2.2.2.1 hs ⟨hk, hk2, hw⟩
      exact ⟨a, b, fun b' c hE => we1_ex hX hi hk2 hE⟩
  · rw [if_pos g] at h
    exact absurd h (by decide)
theorem XV.wel {z : Nat → Int32} {b n m : Nat} {p : Int32} (h : XV z b) (hL : Ln z n m) (hw : whyW z n p = 0) : XV (zWel z n m p) b := by
  obtain ⟨n', k, c, hM, hE, hc⟩ := h
  have : n' = n := (nI_eq (by have := hM.n.2; omega) (by have := hL.2.1; omega)).mp (hM.n.1.symm.trans hL.1)
  subst this
  obtain ⟨a, -, b'⟩ := wel_ok hM hL hw
  exact ⟨_, k, c, a, b' b c hE, hc⟩

