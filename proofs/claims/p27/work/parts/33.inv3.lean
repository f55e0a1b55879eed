/-! the end of what a taxi does keeps what holds; a taxi's minute -/
theorem fld_same {z z' : Nat → Int32} {n m i : Nat} (h : LnX z n m i) (h0 : z' (tp i 0) = z (tp i 0)) (ht : ∀ j u, u < 13 → j ≠ i → z' (tp j u) = z (tp j u)) (ho : ∀ k, 11 ≤ k → k < 27 → z' k = z k) : LnX z' n m i :=
  LnX.same h (fun j => by
    by_cases q : j = i
    · subst q; exact h0
    · exact ht j 0 (by omega) q) (fun j hj => ht j 1 (by omega) hj) (fun k a b _ _ => ho k a b)
theorem zRide_inv {z : Nat → Int32} {n m i : Nat} (h : LnX z n m i) (hs : SetOK z) (h8 : z (tp i 8) = 0) (h12 : z (tp i 12) = 0 ∨ z (tp i 12) = 1) (hft : Pl (z (tp i 10)) ∧ Pl (z (tp i 11)) ∧ z (tp i 10) ≠ z (tp i 11)) : Ln (zRide z i) n m ∧ TxOK (zRide z i) i := by
  have e : ∀ u, u < 13 → zRide z i (tp i u) = if u = 1 then 2 else if u = 2 then sz32 (z (tp i 11) - z (tp i 10)) * z 0 else z (tp i u) := fun u hu => by rw [zRide_t z i u hu, if_pos rfl]
  have d1 : zRide z i (tp i 1) = 2 := by rw [e 1 (by omega), if_pos rfl]
  refine ⟨LnX.in (i := i) (fld_same h (by rw [e 0 (by omega)]; simp) (fun j u hu hj => by rw [zRide_t z j u hu, if_neg hj]) (fun k a b => by rw [zRide_o z (by omega), if_neg (by omega)])) (by rw [d1]; decide), ?_, fun _ => ?_⟩
  · unfold TxW
    rw [d1, e 8 (by omega), e 12 (by omega), e 10 (by omega), e 11 (by omega)]
    simp only [show ¬ (8 : Nat) = 1 by omega, show ¬ (8 : Nat) = 2 by omega, show ¬ (12 : Nat) = 1 by omega, show ¬ (12 : Nat) = 2 by omega, show ¬ (10 : Nat) = 1 by omega, show ¬ (10 : Nat) = 2 by omega, show ¬ (11 : Nat) = 1 by omega, show ¬ (11 : Nat) = 2 by omega, if_false]
    exact ⟨by decide, fun _ => h8, Or.inl h8, h12, fun _ => hft, fun q => absurd q (by decide)⟩
  · rw [e 2 (by omega), if_neg (by omega), if_pos rfl]
    exact way_pos hft.1 hft.2.1 hft.2.2 hs.1
theorem zPaid_ne (z : Nat → Int32) {i n m : Nat} (j u : Nat) (hm : m < 12) (hu : u < 13) (hj : j ≠ i) : zPaid z i n m (tp j u) = z (tp j u) := by
  unfold zPaid
  split
  · rw [zBack_ne _ j u hm hu hj, zPaid1_t z j u hu, if_neg (fun q => hj q.1)]
  · rw [upd_t _ _ _ _ _ _ hu (by omega), if_neg (fun q => hj q.1), upd_t _ _ _ _ _ _ hu (by omega), if_neg (fun q => hj q.1), upd_t _ _ _ _ _ _ hu (by omega), if_neg (fun q => hj q.1), zPaid1_t z j u hu, if_neg (fun q => hj q.1)]
theorem zPaid_o (z : Nat → Int32) {i n m k : Nat} (hm : m < 12) (h : k < 15 ∧ k ≠ 12 ∧ k ≠ 9 ∨ 27 ≤ k ∧ k < 72) : zPaid z i n m k = z k := by
  unfold zPaid
  split
  · rw [zBack_o _ hm (by omega), zPaid1_o z (by omega), if_neg (by omega)]
  · rw [upd_l _ _ _ _ (by omega), upd_l _ _ _ _ (by omega), upd_l _ _ _ _ (by omega), zPaid1_o z (by omega), if_neg (by omega)]
theorem zPaid_inv {z : Nat → Int32} {n m i : Nat} (h : LnX z n m i) (hi : i < n) (hs : SetOK z) (h8 : z (tp i 8) = 0) (h12 : z (tp i 12) = 0 ∨ z (tp i 12) = 1) (hft : Pl (z (tp i 11))) : (∃ m', Ln (zPaid z i n m) n m') ∧ TxOK (zPaid z i n m) i := by
  have hX : LnX (zPaid1 z i) n m i := fld_same h (by rw [zPaid1_t z i 0 (by omega), if_neg (by omega)]) (fun j u hu hj => by rw [zPaid1_t z j u hu, if_neg (fun q => hj q.1)]) (fun k a b => by rw [zPaid1_o z (by omega), if_neg (by omega)])
  have p : ∀ u, u < 13 → u ≠ 6 → zPaid1 z i (tp i u) = z (tp i u) := fun u hu h6 => by rw [zPaid1_t z i u hu, if_neg (fun q => h6 q.2)]
  have hs1 : SetOK (zPaid1 z i) := hs.same (fun k hk => by rw [zPaid1_o z (by omega), if_neg (by omega)])
  unfold zPaid
  split
  · exact zBack_inv hX hi hs1 (by rw [p 8 (by omega) (by omega)]; exact h8) (by rw [p 12 (by omega) (by omega)]; exact h12)
  · next g =>
    have hne : z (tp i 11) ≠ 10 := fun q => g (by rw [q]; decide)
    have e : ∀ u, u < 13 → upd (upd (upd (zPaid1 z i) (tp i 1) 3) (tp i 2) (sz32 (z (tp i 11) - 10) * z 0)) (tp i 9) (if z (tp i 11) - 10 < 0 then -1 else 1) (tp i u) = if u = 9 then (if z (tp i 11) - 10 < 0 then -1 else 1) else if u = 2 then sz32 (z (tp i 11) - 10) * z 0 else if u = 1 then 3 else zPaid1 z i (tp i u) := fun u hu => by
      rw [upd_t _ _ _ _ _ _ hu (by omega), upd_t _ _ _ _ _ _ hu (by omega), upd_t _ _ _ _ _ _ hu (by omega)]
      simp
    have d1 := e 1 (by omega)
    simp only [show ¬ (1 : Nat) = 9 by omega, show ¬ (1 : Nat) = 2 by omega, if_false, if_true] at d1
    refine ⟨⟨m, LnX.in (i := i) (fld_same hX (by rw [e 0 (by omega)]; simp) (fun j u hu hj => by rw [upd_t _ _ _ _ _ _ hu (by omega), if_neg (fun q => hj q.1), upd_t _ _ _ _ _ _ hu (by omega), if_neg (fun q => hj q.1), upd_t _ _ _ _ _ _ hu (by omega), if_neg (fun q => hj q.1)]) (fun k a b => by rw [upd_l _ _ _ _ (by omega), upd_l _ _ _ _ (by omega), upd_l _ _ _ _ (by omega)])) (by rw [d1]; decide)⟩, ?_, fun _ => ?_⟩
    · unfold TxW
      rw [d1, e 8 (by omega), e 12 (by omega), e 9 (by omega), e 11 (by omega)]
      simp only [show ¬ (8 : Nat) = 9 by omega, show ¬ (8 : Nat) = 2 by omega, show ¬ (8 : Nat) = 1 by omega, show ¬ (12 : Nat) = 9 by omega, show ¬ (12 : Nat) = 1 by omega, show ¬ (12 : Nat) = 2 by omega, show ¬ (11 : Nat) = 9 by omega, show ¬ (11 : Nat) = 1 by omega, show ¬ (11 : Nat) = 2 by omega, if_false, if_true]
      rw [p 8 (by omega) (by omega), p 12 (by omega) (by omega), p 11 (by omega) (by omega)]
      exact ⟨by decide, fun _ => h8, Or.inl h8, h12, fun q => absurd q (by decide), fun _ => ⟨hft, hne, rfl⟩⟩
    · rw [e 2 (by omega), if_neg (by omega), if_pos rfl]
      exact way_pos Pl10 hft (fun q => hne q.symm) hs.1
theorem zEnd_ne (z : Nat → Int32) {i n m : Nat} (j u : Nat) (hm : m < 12) (hu : u < 13) (hj : j ≠ i) : zEnd z i n m (tp j u) = z (tp j u) := by
  unfold zEnd
  split
  · rw [zRide_t z j u hu, if_neg hj]
  · split
    · exact zPaid_ne z j u hm hu hj
    · split
      · exact zBack_ne z j u hm hu hj
      · rw [zStand_t _ j u hm (Nat.le_refl m) hu, if_neg (fun q => hj q.1), upd_t _ _ _ _ _ _ hu (by omega), if_neg (fun q => hj q.1)]
theorem zEnd_o (z : Nat → Int32) {i n m k : Nat} (hm : m < 12) (h : k < 15 ∧ k ≠ 12 ∧ k ≠ 9 ∧ k ≠ 6 ∨ 27 ≤ k ∧ k < 72) : zEnd z i n m k = z k := by
  unfold zEnd
  split
  · rw [zRide_o z (by omega), if_neg (by omega)]
  · split
    · exact zPaid_o z hm (by omega)
    · split
      · exact zBack_o z hm (by omega)
      · rw [zStand_o _ hm (Nat.le_refl m) (by omega), upd_l _ _ _ _ (by omega)]
theorem zEnd_inv {z : Nat → Int32} {n m i : Nat} (h : LnX z n m i) (hi : i < n) (hs : SetOK z) (hw : TxW z i) (hd : ¬ z (tp i 1) = 0) : (∃ m', Ln (zEnd z i n m) n m') ∧ TxOK (zEnd z i n m) i := by
  obtain ⟨w1, w2, w3, w4, w5, w6⟩ := hw
  have hm : m < 12 := by have := h.lt hi; have := h.2.1; omega
  unfold zEnd
  split
  · next g =>
    obtain ⟨a, b⟩ := zRide_inv h hs (w2 hd) w4 (w5 (Or.inl g))
    exact ⟨⟨m, a⟩, b⟩
  · split
    · next g => exact zPaid_inv h hi hs (w2 hd) w4 (w5 (Or.inr g)).2.1
    · split
      · exact zBack_inv h hi hs (w2 hd) w4
      · have hX : LnX (upd z (tp i 3) 0) n m i := fld_same h (by rw [upd_t _ _ _ _ _ _ (by omega) (by omega), if_neg (by omega)]) (fun j u hu hj => by rw [upd_t _ _ _ _ _ _ hu (by omega), if_neg (fun q => hj q.1)]) (fun k a b => by rw [upd_l _ _ _ _ (by omega)])
        have e1 : ∀ u, u < 13 → u ≠ 3 → zStand (upd z (tp i 3) 0) i m m (tp i u) = if u = 1 ∨ u = 2 then 0 else z (tp i u) := fun u hu h3 => by
          rw [zStand_t _ i u hm (Nat.le_refl m) hu, upd_t _ _ _ _ _ _ hu (by omega)]
          simp [h3]
        have d1 := e1 1 (by omega) (by omega)
        simp only [true_or, if_true] at d1
        refine ⟨⟨m + 1, LnX.stand hX hi (Nat.le_refl m)⟩, ?_, ?_⟩
        · unfold TxW
          rw [d1, e1 8 (by omega) (by omega), e1 12 (by omega) (by omega)]
          simp only [show ¬ ((8 : Nat) = 1 ∨ (8 : Nat) = 2) by omega, show ¬ ((12 : Nat) = 1 ∨ (12 : Nat) = 2) by omega, if_false]
          exact ⟨by decide, fun q => absurd trivial q, Or.inl (w2 hd), w4, fun q => absurd q (by decide), fun q => absurd q (by decide)⟩
        · rw [d1]
          intro q
          exact absurd q (by decide)

