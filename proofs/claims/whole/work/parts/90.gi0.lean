/-! what holds at the start -/
section L6
def sat (j : Nat) : Int32 := if j = 0 then 2 else if j = 1 then 30 else if j = 2 then 7 else if j = 3 then 240 else if j = 4 then 45 else 0
theorem sat_up : upd (upd (upd (upd (upd (fun _ => (0 : Int32)) 0 2) 1 30) 2 7) 3 240) 4 45 = sat := by
  funext j
  unfold sat
  simp only [upd]
  by_cases h4 : j = 4
  · subst h4; rfl
  · by_cases h3 : j = 3
    · subst h3; rfl
    · by_cases h2 : j = 2
      · subst h2; rfl
      · by_cases h1 : j = 1
        · subst h1; rfl
        · by_cases h0 : j = 0
          · subst h0; rfl
          · simp [h0, h1, h2, h3, h4]
theorem sat_0 {j : Nat} (h : 5 ≤ j) : sat j = 0 := by
  unfold sat
  rw [if_neg (by omega), if_neg (by omega), if_neg (by omega), if_neg (by omega), if_neg (by omega)]
theorem sat_ln : Ln sat 0 0 := ⟨by rw [sat_0 (by omega)]; rfl, by omega, by rw [sat_0 (by omega)]; rfl, fun i _ hi => absurd hi (by omega), fun i hi => absurd hi (by omega), fun i hi => absurd hi (by omega), fun i _ hi => absurd hi (by omega), by omega⟩
theorem sat_mv : MV sat 0 0 := ⟨⟨0, sat_ln⟩, fun i hi => absurd hi (by omega), by unfold SetOK sat; decide, by rw [sat_0 (by omega)]; rfl, by omega, fun i hi => absurd hi (by omega)⟩
theorem sat_xw : XW sat 0 := by
  refine ⟨⟨0, 0, 0, sat_mv, ⟨fun i hi => absurd hi (by omega), by rw [sat_0 (by omega)]; rfl, ⟨0, by rw [sat_0 (by omega)]; rfl, by omega, fun i hi => absurd hi (by omega)⟩, fun i _ hi => absurd hi (by omega)⟩, by omega⟩, fun t ht => ?_⟩
  rw [sat_mv.ixn] at ht
  exact absurd ht (by omega)
theorem gi0 {I I' : Nat → Nat → Int32} {Q' Q2 : Nat → Nat → Option Nat} (h0 : ∀ p, p < 1000 → I p = fun _ => 0) (hk : KonI I) (hr : ∀ j, j < 5 → I 1002 j = sat j) (hz : QZ Q') (q61 : Q' 61 0 = some 62) (q62 : ∀ i, i < 4 → Q' 62 i = some (63 + 20 * i)) (hw : TW I' Q' 1 (I 1002) ∧ TW I' Q' 21 (I 1002) ∧ TW I' Q' 41 (I 1002) ∧ ∀ i, i < 4 → TW I' Q' (63 + 20 * i) (I 1002)) (e1 : ∀ p, (p = 0 ∨ p = 61 ∨ 143 ≤ p) → I' p = I p) (e2 : ∀ B, TB B → ∀ p, B ≤ p → p < B + 19 → I' p = I p) (hm : QM Q2) (hq : ∀ q, q ≠ 149 → Q2 q = Q' q) : GI (uR I' 150 (upd (upd (upd (upd (upd (I' 150) 0 2) 1 30) 2 7) 3 240) 4 45)) Q2 0 := by
  have e150 : I' 150 = fun _ => 0 := by rw [e1 150 (by omega)]; exact h0 150 (by omega)
  rw [e150, sat_up]
  have fr : ∀ p, p ≠ 150 → uR I' 150 sat p = I' p := fun p hp => uR_n _ _ hp
  have fz : ∀ p, p ≠ 150 → p < 1000 → (p = 0 ∨ p = 61 ∨ 143 ≤ p) → uR I' 150 sat p = fun _ => 0 := fun p hp h1 h2 => by rw [fr p hp, e1 p h2]; exact h0 p h1
  have f150 : uR I' 150 sat 150 = sat := uR_s _ _ _
  have tw : ∀ B, TB B → TW I' Q' B (I 1002) := fun B hB => by
    unfold TB at hB
    rcases hB with h | h | h | h | h | h | h <;> subst h
    · exact hw.1
    · exact hw.2.1
    · exact hw.2.2.1
    · exact hw.2.2.2 0 (by omega)
    · exact hw.2.2.2 1 (by omega)
    · exact hw.2.2.2 2 (by omega)
    · exact hw.2.2.2 3 (by omega)
  have hQA : QA Q2 (fun _ i => i) := fun B hB => by
    have b9 := tbl hB
    obtain ⟨t1, t2, -⟩ := tw B hB
    refine ⟨?_, fun i hi => ?_, fun i hi => hi, fun i j _ _ e => e⟩
    · unfold QT0
      rw [hq _ (by omega), hq _ (by omega)]
      exact t1
    · rw [hq _ (by omega)]
      exact t2 i hi
  have cz : ∀ p, 1 ≤ p → p < 20 → uR I' 150 sat p = fun _ => 0 := fun p a b => by
    rw [fr p (by omega), e2 1 tb1.1 p a (by omega)]
    exact h0 p (by omega)
  have c20 := hw.1.2.2
  have hCA : CA (uR I' 150 sat) 1 (fun i => i) sat 0 0 0 := by
    refine ⟨⟨⟨?_, ?_⟩, fun u u1 u2 => ?_⟩, fun i hi => absurd hi (by omega), fun i _ hi u _ => ?_, fun j hj => absurd hj (by omega), fun j hj => ?_, ⟨⟨?_, ?_⟩, fun r hr => absurd hr (by omega)⟩⟩
    · rw [cz 1 (by omega) (by omega), sat_0 (by omega)]
    · rw [cz 1 (by omega) (by omega), sat_0 (by omega)]
    · rw [cz 1 (by omega) (by omega), sat_0 (by omega)]
    · show uR I' 150 sat (1 + 2 + i) _ = 0
      rw [cz _ (by omega) (by omega)]
    · rw [fr _ (by omega)]
      exact (c20 j hj).trans (hr j hj)
    · rw [cz _ (by omega) (by omega), sat_0 (by omega)]
    · rw [cz _ (by omega) (by omega), sat_0 (by omega)]
  refine ⟨fun _ i => i, fun i => 63 + 20 * i, 0, 0, 0, 0, 0, ⟨⟨hQA, ⟨?_, fun i hi => ⟨?_, ?_⟩, fun i j _ _ e => by have e' : 63 + 20 * i = 63 + 20 * j := e; omega⟩, ?_⟩, ⟨by rw [f150]; exact hCA, by rw [f150]; exact sat_mv, by rw [f150]; exact sat_ln⟩, ⟨?_, by omega, fun i hi => absurd hi (by omega)⟩⟩, hm, fun j hj => ?_, ?_, by rw [f150]; exact sat_xw, fun i hi => absurd hi (by omega), Or.inl ⟨?_, ?_⟩, ⟨?_, ?_, by omega, fun j hj => absurd hj (by omega), fun j => ?_⟩, ?_, ?_⟩
  · rw [hq _ (by omega)]; exact q61
  · rw [hq _ (by omega)]; exact q62 i hi
  · show HB (63 + 20 * i); unfold HB; omega
  · unfold QZ
    rw [hq 0 (by omega), hq 144 (by omega)]
    exact hz
  · rw [fr 61 (by omega), e1 61 (by omega), h0 61 (by omega)]; rfl
  · rw [fr 1000 (by omega), fr 1001 (by omega), e1 1000 (by omega), e1 1001 (by omega)]; exact hk j hj
  · rw [fz 149 (by omega) (by omega) (by omega)]; rfl
  · rw [fz 0 (by omega) (by omega) (by omega)]
  · rw [fz 149 (by omega) (by omega) (by omega)]
  · rw [fz 0 (by omega) (by omega) (by omega)]; rfl
  · rw [fz 149 (by omega) (by omega) (by omega)]; rfl
  · rw [fz 143 (by omega) (by omega) (by omega)]; rfl
  · rw [fz 0 (by omega) (by omega) (by omega), fz 149 (by omega) (by omega) (by omega)]
  · rw [fz 0 (by omega) (by omega) (by omega), fz 149 (by omega) (by omega) (by omega)]
end L6
