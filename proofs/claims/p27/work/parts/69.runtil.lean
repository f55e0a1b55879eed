/-! the reference: until a passenger rides, until a taxi is in the line -/
section F4
variable {l : Launch} {L : Nat} {I : Nat → Nat → Int32} {Q : Nat → Nat → Option Nat} {P : Option Value → PH → Prop} {z : Nat → Int32} {n m k : Nat} {y : Nat → Int32}
/-- one minute more, as the reference asks -/
theorem ra_step {b c p t0 : Nat} {s : Int32} {r0 : Nat} (hM : MV z n k) (hE : EX z n k b c) (hA : AT z k s (nI t0) r0) (ht : t0 ≤ c) (hp : z 1 = nI p) (hp2 : p ≤ 240) (hc : c < 1000000) : ∃ k', MV (zMn z) n k' ∧ EX (zMn z) n k' b (c + 1) ∧ zMn z 1 = nI p ∧ zMn z 5 = nI (c + 1) ∧ ((p + t0 ≤ c + 1 ∧ NT (zMn z) k' s ∧ (zMin s z 0).2 = 0) ∨ (¬ p + t0 ≤ c + 1 ∧ (((∃ r', AT (zMn z) k' s (nI t0) r') ∧ (zMin s z 0).2 = 0) ∨ (NT (zMn z) k' s ∧ (zMin s z 0).2 = 1)))) := by
  obtain ⟨k', m1, m2, ⟨m3, m4⟩, m5, m6⟩ := min_tk s 0 hM hE (Or.inl rfl)
  rw [zMin_1] at m1 m2 m3 m4 m5 m6
  have e5 : z 5 + 1 - nI t0 = nI (c + 1 - t0) := by rw [hE.2.1, nI_up, nI_sub (by omega)]
  have key : (z 1 ≤ z 5 + 1 - nI t0) ↔ p + t0 ≤ c + 1 := by
    rw [e5, hp, nI_leI (by omega) (by omega)]
    omega
  refine ⟨k', m1, m2, m3.trans hp, by rw [m4, hE.2.1, nI_up], ?_⟩
  by_cases g : p + t0 ≤ c + 1
  · exact Or.inl ⟨g, m6 _ r0 hA (key.mpr g)⟩
  · exact Or.inr ⟨g, m5 _ r0 hA (fun q => g (key.mp q))⟩
theorem RA_out {s : Int32} {t0 d j : Nat} {k' : Nat} (hM : MV (zMn z) n k') (hN : NT (zMn z) k' s) : RA s (nI t0) (d + 1) z j = if zMn z 1 ≤ zMn z 5 - nI t0 then -5 else nI (j + 1) := by
  have e13 : ix (zMn z 13) = k' := by rw [hM.2.2.2.1]; exact ix_nI (by have := hM.2.2.2.2.1; omega)
  simp only [RA, e13, hasN_f hN]
  rfl
theorem RA_in {s : Int32} {t0 d j : Nat} {k' r' : Nat} (hM : MV (zMn z) n k') (hA : AT (zMn z) k' s (nI t0) r') : RA s (nI t0) (d + 1) z j = RA s (nI t0) d (zMn z) (j + 1) := by
  have e13 : ix (zMn z 13) = k' := by rw [hM.2.2.2.1]; exact ix_nI (by have := hM.2.2.2.2.1; omega)
  simp only [RA, e13]
  rw [if_pos (hasN_t.mpr ⟨r', hA.1, hA.2.2⟩)]
end F4

