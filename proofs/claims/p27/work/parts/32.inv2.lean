/-! what holds of each taxi, and that the end of what it does keeps it -/
def Pl (x : Int32) : Prop := 0 ≤ x ∧ x ≤ 20
def TxW (z : Nat → Int32) (i : Nat) : Prop := (z (tp i 1) = 0 ∨ z (tp i 1) = 1 ∨ z (tp i 1) = 2 ∨ z (tp i 1) = 3 ∨ z (tp i 1) = 4 ∨ z (tp i 1) = 5) ∧ (¬ z (tp i 1) = 0 → z (tp i 8) = 0) ∧ (z (tp i 8) = 0 ∨ z (tp i 8) = 1) ∧ (z (tp i 12) = 0 ∨ z (tp i 12) = 1) ∧ (z (tp i 1) = 1 ∨ z (tp i 1) = 2 → Pl (z (tp i 10)) ∧ Pl (z (tp i 11)) ∧ z (tp i 10) ≠ z (tp i 11)) ∧ (z (tp i 1) = 3 → Pl (z (tp i 11)) ∧ z (tp i 11) ≠ 10 ∧ z (tp i 9) = if z (tp i 11) - 10 < 0 then -1 else 1)
def TxOK (z : Nat → Int32) (i : Nat) : Prop := TxW z i ∧ (z (tp i 1) = 1 ∨ z (tp i 1) = 2 ∨ z (tp i 1) = 3 ∨ z (tp i 1) = 4 → 0 < z (tp i 2))
def SetOK (z : Nat → Int32) : Prop := (1 ≤ z 0 ∧ z 0 ≤ 9) ∧ (1 ≤ z 1 ∧ z 1 ≤ 240) ∧ (1 ≤ z 2 ∧ z 2 ≤ 20) ∧ (30 ≤ z 3 ∧ z 3 ≤ 999) ∧ (1 ≤ z 4 ∧ z 4 ≤ 240)
theorem SetOK.same {z z' : Nat → Int32} (h : SetOK z) (e : ∀ k, k < 5 → z' k = z k) : SetOK z' := by
  unfold SetOK
  rw [e 0 (by omega), e 1 (by omega), e 2 (by omega), e 3 (by omega), e 4 (by omega)]
  exact h
theorem TxW.same {z z' : Nat → Int32} {i : Nat} (h : TxW z i) (e : ∀ u, u < 13 → z' (tp i u) = z (tp i u)) : TxW z' i := by
  unfold TxW
  rw [e 1 (by omega), e 8 (by omega), e 9 (by omega), e 10 (by omega), e 11 (by omega), e 12 (by omega)]
  exact h
theorem TxOK.same {z z' : Nat → Int32} {i : Nat} (h : TxOK z i) (e : ∀ u, u < 13 → z' (tp i u) = z (tp i u)) : TxOK z' i := by
  refine ⟨h.1.same e, ?_⟩
  rw [e 1 (by omega), e 2 (by omega)]
  exact h.2
theorem Pl.nat {x : Int32} (h : Pl x) : ∃ j, j ≤ 20 ∧ x = nI j := nI_of2 (M := 20) (n := 20) rfl (Int32.not_lt.mpr h.1) h.2
theorem way_tab : ∀ x, x < 21 → ∀ y, y < 21 → ∀ w, w < 10 → x ≠ y → 0 < w → 0 < sz32 (nI y - nI x) * nI w := by decide +kernel
theorem way_pos {a b p : Int32} (ha : Pl a) (hb : Pl b) (hab : a ≠ b) (hp : 1 ≤ p ∧ p ≤ 9) : 0 < sz32 (b - a) * p := by
  obtain ⟨x, hx, rfl⟩ := ha.nat
  obtain ⟨y, hy, rfl⟩ := hb.nat
  obtain ⟨w, hw, rfl⟩ := nI_of2 (M := 9) (n := 9) (x := p) rfl (fun q => by
    have h1 := Int32.le_iff_toInt_le.mp hp.1
    have h2 := Int32.lt_iff_toInt_lt.mp q
    have e1 : (1 : Int32).toInt = 1 := by decide
    have e0 : (0 : Int32).toInt = 0 := by decide
    omega) hp.2
  refine way_tab x (by omega) y (by omega) w (by omega) (fun q => hab (by rw [q])) ?_
  by_cases q : w = 0
  · subst q
    exact absurd hp.1 (by decide)
  · omega
theorem Pl10 : Pl 10 := by unfold Pl; decide
theorem lt0_of1 {x : Int32} (h : 1 ≤ x) : 0 < x := by
  have h1 := Int32.le_iff_toInt_le.mp h
  have e1 : (1 : Int32).toInt = 1 := by decide
  have e0 : (0 : Int32).toInt = 0 := by decide
  exact Int32.lt_iff_toInt_lt.mpr (by omega)
theorem zQuick_t (z : Nat → Int32) {i p m : Nat} (j u : Nat) (hm : m < 12) (hp : p ≤ m) (hu : u < 13) : zQuick z i p m (tp j u) = if j = i then (if u = 7 then z (tp i 7) + 1 else if u = 8 then 1 else if u = 1 ∨ u = 2 then 0 else z (tp i u)) else z (tp j u) := by
  simp only [zQuick]
  rw [upd_t _ _ _ _ _ _ hu (by omega), upd_t _ _ _ _ _ _ hu (by omega), zStand_t _ _ _ hm hp hu, zStand_t _ _ _ hm hp (by omega)]
  by_cases h : j = i
  · subst h
    by_cases h7 : u = 7
    · subst h7; simp
    · by_cases h8 : u = 8
      · subst h8; simp
      · simp [h7, h8]
  · simp [h]
theorem zQuick_l (z : Nat → Int32) {i p m k : Nat} (h : k < 72) : zQuick z i p m k = zStand z i p m k := by
  simp only [zQuick]
  rw [upd_l _ _ _ _ h, upd_l _ _ _ _ h]
theorem qO_m (z : Nat → Int32) (n m : Nat) : qO z n m 0 ≤ m := by have := (qO_le z n m 0).2; omega
/-- coming back -/
theorem zBack_ne (z : Nat → Int32) {i n m : Nat} (j u : Nat) (hm : m < 12) (hu : u < 13) (hj : j ≠ i) : zBack z i n m (tp j u) = z (tp j u) := by
  unfold zBack
  split
  · rw [upd_t _ _ _ _ _ _ hu (by omega), if_neg (fun q => hj q.1), upd_t _ _ _ _ _ _ hu (by omega), if_neg (fun q => hj q.1)]
  · split
    · rw [zQuick_t z j u hm (qO_m z n m) hu, if_neg hj]
    · rw [zStand_t z j u hm (Nat.le_refl m) hu, if_neg (fun q => hj q.1)]
theorem zBack_o (z : Nat → Int32) {i n m k : Nat} (hm : m < 12) (h : k < 15 ∧ k ≠ 12 ∨ 27 ≤ k ∧ k < 72) : zBack z i n m k = z k := by
  unfold zBack
  split
  · rw [upd_l _ _ _ _ (by omega), upd_l _ _ _ _ (by omega)]
  · split
    · rw [zQuick_l z (by omega), zStand_o z hm (qO_m z n m) h]
    · rw [zStand_o z hm (Nat.le_refl m) h]
theorem zBack_inv {z : Nat → Int32} {n m i : Nat} (h : LnX z n m i) (hi : i < n) (hs : SetOK z) (hw : z (tp i 8) = 0) (h12 : z (tp i 12) = 0 ∨ z (tp i 12) = 1) : (∃ m', Ln (zBack z i n m) n m') ∧ TxOK (zBack z i n m) i := by
  have hmn := h.lt hi
  have hm : m < 12 := by have := h.2.1; omega
  unfold zBack
  split
  · have e1 : ∀ u, u < 13 → upd (upd z (tp i 1) 4) (tp i 2) (z 4) (tp i u) = if u = 2 then z 4 else if u = 1 then 4 else z (tp i u) := fun u hu => by
      rw [upd_t _ _ _ _ _ _ hu (by omega), upd_t _ _ _ _ _ _ hu (by omega)]
      simp
    have d1 : upd (upd z (tp i 1) 4) (tp i 2) (z 4) (tp i 1) = 4 := by rw [e1 1 (by omega)]; simp
    refine ⟨⟨m, LnX.in (i := i) (LnX.same h (fun j => ?_) (fun j hj => ?_) (fun k _ _ _ _ => ?_)) (by rw [d1]; decide)⟩, ?_, ?_⟩
    · rw [upd_t _ _ _ _ _ _ (by omega) (by omega), if_neg (by omega), upd_t _ _ _ _ _ _ (by omega) (by omega), if_neg (by omega)]
    · rw [upd_t _ _ _ _ _ _ (by omega) (by omega), if_neg (by omega), upd_t _ _ _ _ _ _ (by omega) (by omega), if_neg (by omega)]
    · rw [upd_l _ _ _ _ (by omega), upd_l _ _ _ _ (by omega)]
    · unfold TxW
      rw [d1, e1 8 (by omega), e1 12 (by omega)]
      simp only [show ¬ (8 : Nat) = 2 by omega, show ¬ (8 : Nat) = 1 by omega, show ¬ (12 : Nat) = 2 by omega, show ¬ (12 : Nat) = 1 by omega, if_false]
      exact ⟨by decide, fun _ => hw, Or.inl hw, h12, fun q => absurd q (by decide), fun q => absurd q (by decide)⟩
    · intro _
      rw [e1 2 (by omega), if_pos rfl]
      exact lt0_of1 hs.2.2.2.2.1
  · split
    · have e1 : ∀ u, u < 13 → zQuick z i (qO z n m 0) m (tp i u) = if u = 7 then z (tp i 7) + 1 else if u = 8 then 1 else if u = 1 ∨ u = 2 then 0 else z (tp i u) := fun u hu => by
        rw [zQuick_t z i u hm (qO_m z n m) hu, if_pos rfl]
      have d1 : zQuick z i (qO z n m 0) m (tp i 1) = 0 := by rw [e1 1 (by omega)]; simp
      refine ⟨⟨m + 1, LnX.same (LnX.stand h hi (qO_m z n m)) (fun j => ?_) (fun j hj => ?_) (fun k _ _ _ _ => zQuick_l z (by omega))⟩, ?_, ?_⟩
      · rw [zQuick_t z j 0 hm (qO_m z n m) (by omega), zStand_t z j 0 hm (qO_m z n m) (by omega)]
        by_cases q : j = i
        · subst q; simp
        · simp [q]
      · rw [zQuick_t z j 1 hm (qO_m z n m) (by omega), zStand_t z j 1 hm (qO_m z n m) (by omega)]
        by_cases q : j = i
        · subst q; simp
        · simp [q]
      · unfold TxW
        rw [d1, e1 8 (by omega), e1 12 (by omega)]
        simp only [show ¬ (8 : Nat) = 7 by omega, show ¬ (12 : Nat) = 7 by omega, show ¬ (12 : Nat) = 8 by omega, show ¬ ((12 : Nat) = 1 ∨ (12 : Nat) = 2) by omega, if_false, if_true]
        exact ⟨by decide, fun q => absurd trivial q, by decide, h12, fun q => absurd q (by decide), fun q => absurd q (by decide)⟩
      · rw [d1]
        intro q
        exact absurd q (by decide)
    · have e1 : ∀ u, u < 13 → zStand z i m m (tp i u) = if u = 1 ∨ u = 2 then 0 else z (tp i u) := fun u hu => by
        rw [zStand_t z i u hm (Nat.le_refl m) hu]
        simp
      have d1 : zStand z i m m (tp i 1) = 0 := by rw [e1 1 (by omega)]; simp
      refine ⟨⟨m + 1, LnX.stand h hi (Nat.le_refl m)⟩, ?_, ?_⟩
      · unfold TxW
        rw [d1, e1 8 (by omega), e1 12 (by omega)]
        simp only [show ¬ ((8 : Nat) = 1 ∨ (8 : Nat) = 2) by omega, show ¬ ((12 : Nat) = 1 ∨ (12 : Nat) = 2) by omega, if_false]
        exact ⟨by decide, fun q => absurd trivial q, Or.inl hw, h12, fun q => absurd q (by decide), fun q => absurd q (by decide)⟩
      · rw [d1]
        intro q
        exact absurd q (by decide)

