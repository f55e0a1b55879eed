/-! p27: a minute and the accounts -/
def CR (z : Nat → Int32) (k : Nat) : Prop := ∀ r, r + 1 < k → z (27 + 3 * r + 1) ≤ z (27 + 3 * (r + 1) + 1)
theorem CR.same {z z' : Nat → Int32} {k : Nat} (h : CR z k) (hk : k ≤ 15) (e : ∀ j, 27 ≤ j → j < 72 → z' j = z j) : CR z' k := fun r hr => by
  rw [e _ (by omega) (by omega), e _ (by omega) (by omega)]
  exact h r hr
theorem CR.goes {z : Nat → Int32} {k r : Nat} (h : CR z k) (hr : r < k) : CR (zGoes z r k) (k - 1) := fun q hq => by
  rw [zGoes_w z (r := r) (show q < k - 1 by omega) (by omega), zGoes_w z (r := r) (show q + 1 < k - 1 by omega) (by omega)]
  by_cases a : q + 1 < r
  · rw [if_pos (by omega), if_pos a]
    exact h q (by omega)
  · by_cases b : q < r
    · rw [if_pos b, if_neg a]
      exact i32_le_trans (h q (by omega)) (h (q + 1) (by omega))
    · rw [if_neg b, if_neg a]
      exact h (q + 1) (by omega)
theorem CR.le {z : Nat → Int32} {k : Nat} (h : CR z k) : ∀ r, r < k → z (27 + 3 * 0 + 1) ≤ z (27 + 3 * r + 1) := by
  intro r
  induction r with
  | zero => intro _; exact Int32.le_refl _
  | succ r ih => intro hr; exact i32_le_trans (ih (by omega)) (h r hr)
abbrev gC (z : Nat → Int32) (t : Nat) : Int32 := b2 (z (tp t 1) = 1 ∧ z (tp t 2) = 1)
abbrev gW (z : Nat → Int32) (t : Nat) : Int32 := b2 (0 < z (tp t 1) ∧ z (tp t 1) < 4)
theorem tick_n {z : Nat → Int32} {n k i : Nat} (hM : MV z n k) (hi : i < n) : zTick z i 6 = z 6 + gC z i ∧ zTick z i 10 = z 10 + gW z i := by
  obtain ⟨⟨m, h2⟩, -⟩ := id hM
  obtain ⟨w, -⟩ := hM.2.1 i hi
  rcases tick_c hM h2 hi with ⟨g, e⟩ | ⟨hd, hm, hX, c⟩
  · obtain ⟨a, b⟩ := not14 w.1 g
    rw [e]
    exact ⟨b2_ff' (fun q => b q.1) _, b2_ff' a _⟩
  · have e10 : zT1 z i 10 = z 10 + gW z i := by rw [zT1_o z (by omega), if_pos rfl]; exact congrArg _ (b2_iff (not4 hd))
    rcases c with ⟨g, e⟩ | ⟨g, e⟩
    · rw [e]
      exact ⟨by rw [zT1_o z (by omega), if_neg (by omega)]; exact b2_ff' (fun q => g q.2) _, e10⟩
    · have r1 := zT1_r z i 1 (by omega) (by omega) (by omega)
      have hER : ER (zT1 z i) (zEnd (zT1 z i) i n m) i := zEnd_r _ hm (by rw [r1]; exact hd)
      rw [e]
      refine ⟨?_, by rw [zEnd_o _ hm (by omega)]; exact e10⟩
      rw [hER.2.2.1, r1, zT1_o z (by omega), if_neg (by omega)]
      exact congrArg _ (b2_iff ⟨fun q => ⟨q, g⟩, fun q => q.1⟩)
theorem ticks_w {z : Nat → Int32} {n k b : Nat} (hM : MV z n k) (hW : WZ z n b) : ∀ i, i ≤ n → WZ (zTs z i) n b ∧ (∀ j, i ≤ j → ∀ u, u < 13 → zTs z i (tp j u) = z (tp j u)) ∧ zTs z i 6 = z 6 + Sm (gC z) i ∧ zTs z i 10 = z 10 + Sm (gW z) i := by
  intro i
  induction i with
  | zero => intro _; exact ⟨hW, fun _ _ _ _ => rfl, (Int32.add_zero _).symm, (Int32.add_zero _).symm⟩
  | succ i ih =>
    intro hi
    obtain ⟨a, b, c, d⟩ := ih (by omega)
    have hMi := zTs_inv hM i (by omega)
    obtain ⟨-, t2, -⟩ := tick_o hMi (show i < n by omega)
    obtain ⟨n1, n2⟩ := tick_n hMi (show i < n by omega)
    have e1 := b i (Nat.le_refl i) 1 (by omega)
    have e2 := b i (Nat.le_refl i) 2 (by omega)
    refine ⟨a.tick hMi (by omega), fun j hj u hu => (t2 j u hu (by omega)).trans (b j (by omega) u hu), ?_, ?_⟩
    · show zTick (zTs z i) i 6 = _
      rw [n1, c, Int32.add_assoc]
      show z 6 + (Sm (gC z) i + gC (zTs z i) i) = z 6 + (Sm (gC z) i + gC z i)
      simp only [gC]
      rw [e1, e2]
    · show zTick (zTs z i) i 10 = _
      rw [n2, d, Int32.add_assoc]
      show z 10 + (Sm (gW z) i + gW (zTs z i) i) = z 10 + (Sm (gW z) i + gW z i)
      simp only [gW]
      rw [e1]
/-- nobody's doing ends -/
theorem ticks_q {z : Nat → Int32} {n k b : Nat} (hM : MV z n k) (hW : WZ z n b) (hq : ∀ t, t < n → ¬ endsZ z t) : ∀ i, i ≤ n → (∀ q, q < 72 → q ≠ 10 → zTs z i q = z q) ∧ ∀ j u, u < 13 → (u ≠ 2 ∧ u ≠ 3 ∨ z (tp j 1) = 0) → zTs z i (tp j u) = z (tp j u) := by
  intro i
  induction i with
  | zero => intro _; exact ⟨fun _ _ _ => rfl, fun _ _ _ _ => rfl⟩
  | succ i ih =>
    intro hi
    obtain ⟨a, b⟩ := ih (by omega)
    have hMi := zTs_inv hM i (by omega)
    obtain ⟨-, c, -, -⟩ := ticks_w hM hW i (by omega)
    have e1 := c i (Nat.le_refl i) 1 (by omega)
    have e2 := c i (Nat.le_refl i) 2 (by omega)
    obtain ⟨⟨m, hl⟩, -⟩ := id hMi
    have one : (∀ q, q < 72 → q ≠ 10 → zTick (zTs z i) i q = zTs z i q) ∧ ∀ j u, u < 13 → (u ≠ 2 ∧ u ≠ 3 ∨ z (tp j 1) = 0) → zTick (zTs z i) i (tp j u) = zTs z i (tp j u) := by
      rcases tick_c hMi hl (show i < n by omega) with ⟨-, e⟩ | ⟨hd, hm, hX, g⟩
      · rw [e]; exact ⟨fun _ _ _ => rfl, fun _ _ _ _ => rfl⟩
      · rcases g with ⟨-, e⟩ | ⟨g, -⟩
        · rw [e]
          refine ⟨fun q h1 h2 => by rw [zT1_o _ h1, if_neg h2], fun j u hu hj => ?_⟩
          by_cases q : j = i
          · subst q
            rcases hj with hj | hj
            · exact zT1_r _ j u hu hj.1 hj.2
            · rw [e1] at hd
              exact absurd hj (ne_14 hd).1
          · rw [zT1_t _ j u hu, if_neg q]
        · rw [e1] at hd
          rw [e2] at g
          refine absurd ⟨?_, g⟩ (hq i (by omega))
          rcases hd with h | h | h | h <;> (rw [h]; decide)
    exact ⟨fun q h1 h2 => (one.1 q h1 h2).trans (a q h1 h2), fun j u hu hj => (one.2 j u hu hj).trans (b j u hu hj)⟩
theorem dis_w {n b : Nat} : ∀ r (z : Nat → Int32) k, MV z n k → WZ z n b → CR z k → r ≤ k → ∃ k' g, MV (zDis z r) n k' ∧ WZ (zDis z r) n b ∧ CR (zDis z r) k' ∧ k' + g = k ∧ zDis z r 7 = z 7 + nI g ∧ (∀ q, q ≠ 7 → q ≠ 13 → q < 27 → zDis z r q = z q) ∧ ∀ j u, u < 13 → zDis z r (tp j u) = z (tp j u) := by
  intro r
  induction r with
  | zero => intro z k hM hW hC _; exact ⟨k, 0, hM, hW, hC, rfl, add_nI0 _, fun _ _ _ _ => rfl, fun _ _ _ => rfl⟩
  | succ r ih =>
    intro z k hM hW hC hr
    have hk := hM.2.2.2.2.1
    have e13 : ix (z 13) = k := by rw [hM.2.2.2.1]; exact ix_nI (by omega)
    show ∃ k' g, MV (zDis (zDs z r) r) n k' ∧ WZ (zDis (zDs z r) r) n b ∧ CR (zDis (zDs z r) r) k' ∧ k' + g = k ∧ zDis (zDs z r) r 7 = z 7 + nI g ∧ (∀ q, q ≠ 7 → q ≠ 13 → q < 27 → zDis (zDs z r) r q = z q) ∧ ∀ j u, u < 13 → zDis (zDs z r) r (tp j u) = z (tp j u)
    by_cases g : z 1 ≤ z 5 - z (27 + 3 * r + 1)
    · have e : zDs z r = upd (zGoes z r k) 7 (z 7 + 1) := by unfold zDs; rw [if_pos g, e13]
      rw [e]
      have et : ∀ j u, u < 13 → upd (zGoes z r k) 7 (z 7 + 1) (tp j u) = z (tp j u) := fun j u hu => by rw [upd_n _ _ (by have := tp_ge j u; omega), zGoes_t z j u hk]
      have eo : ∀ q, q ≠ 7 → q ≠ 13 → q < 27 → upd (zGoes z r k) 7 (z 7 + 1) q = z q := fun q h1 h2 h3 => by rw [upd_n _ _ h1, zGoes_o z hk (by omega)]
      obtain ⟨k', g', a1, a2, a3, a4, a5, a6, a7⟩ := ih (upd (zGoes z r k) 7 (z 7 + 1)) (k - 1) ((hM.goes (by omega)).cnt 7 (by omega) _) (hW.same et (fun q hq => eo q (by omega) (by omega) (by omega))) ((hC.goes (show r < k by omega)).same (by omega) (fun j h1 h2 => upd_n _ _ (by omega))) (by omega)
      refine ⟨k', g' + 1, a1, a2, a3, by omega, ?_, fun q h1 h2 h3 => (a6 q h1 h2 h3).trans (eo q h1 h2 h3), fun j u hu => (a7 j u hu).trans (et j u hu)⟩
      rw [a5, upd_e, Int32.add_assoc, Int32.add_comm 1, nI_up]
    · have e : zDs z r = z := by unfold zDs; rw [if_neg g]
      rw [e]
      exact ih z k hM hW hC (by omega)
theorem dis_0 : ∀ r (z : Nat → Int32), (∀ q, q < r → ¬ z 1 ≤ z 5 - z (27 + 3 * q + 1)) → zDis z r = z := by
  intro r
  induction r with
  | zero => intro z _; rfl
  | succ r ih =>
    intro z h
    show zDis (zDs z r) r = z
    have e : zDs z r = z := by unfold zDs; rw [if_neg (h r (by omega))]
    rw [e]
    exact ih z (fun q hq => h q (by omega))
/-- a passenger's ride and the accounts -/
theorem sit_w {z : Nat → Int32} {n m k t r b : Nat} (hM : MV z n k) (hW : WZ z n b) (hL : Ln z n m) (hr : r < k) (hrd : rider z n m (z (27 + 3 * r)) = some t) : WZ (zSit z t r) n (b + 1) ∧ (zSit z t r 6 = z 6 + 1 ∧ zSit z t r 5 = z 5 ∧ zSit z t r 7 = z 7 ∧ zSit z t r 10 = z 10 ∧ zSit z t r 9 = z 9) ∧ (∀ j u, u < 13 → j ≠ t → zSit z t r (tp j u) = z (tp j u)) ∧ zSit z t r (tp t 1) = 2 ∧ z (tp t 1) = 0 ∧ t < n ∧ ∃ w, zSit z t r = zGoes w r k ∧ ∀ j, 27 ≤ j → j < 72 → w j = z j := by
  obtain ⟨ht, -, hd, hin⟩ := rider_in hL hrd
  have hm := hL.2.2.2.2.2.2.2
  have hk := hM.2.2.2.2.1
  obtain ⟨p1, p2⟩ := plF_ok z (z (tp t 0)) m hin
  have ez : zSit z t r = zGoes (zOff z t m (z (27 + 3 * r))) r k := by
    unfold zSit
    rw [show ix (z 12) = m by rw [hL.2.2.1]; exact ix_nI (by omega), show ix (z 13) = k by rw [hM.2.2.2.1]; exact ix_nI (by omega)]
  obtain ⟨hMs, -⟩ : MV (zSit z t r) n (k - 1) ∧ True := ⟨hM.sit hL hr hrd, trivial⟩
  obtain ⟨⟨m', hl'⟩, -⟩ := id hMs
  have es : ∀ j u, u < 13 → zSit z t r (tp j u) = zOff z t m (z (27 + 3 * r)) (tp j u) := fun j u hu => by rw [ez, zGoes_t _ j u hk]
  have eo : ∀ q, q ≠ 13 → q < 27 → zSit z t r q = zOff z t m (z (27 + 3 * r)) q := fun q h1 h2 => by rw [ez, zGoes_o _ hk (by omega)]
  have hne : ∀ j u, u < 13 → j ≠ t → zSit z t r (tp j u) = z (tp j u) := fun j u hu hj => by rw [es j u hu, zOff_t z j u hm p1 hu hj]
  have row : ∀ u, u < 13 → zOff z t m (z (27 + 3 * r)) (tp t u) = if u = 1 then 2 else if u = 2 then sz32 (zFare (zLeave z t (plF z (z (tp t 0)) m) m) t 10 (z (27 + 3 * r)) 1 (tp t 11) - zFare (zLeave z t (plF z (z (tp t 0)) m) m) t 10 (z (27 + 3 * r)) 1 (tp t 10)) * zFare (zLeave z t (plF z (z (tp t 0)) m) m) t 10 (z (27 + 3 * r)) 1 0 else zFare (zLeave z t (plF z (z (tp t 0)) m) m) t 10 (z (27 + 3 * r)) 1 (tp t u) := fun u hu => by unfold zOff; rw [zRide_t _ t u hu, if_pos rfl]
  have lv : ∀ u, u < 13 → u ≠ 8 → zLeave z t (plF z (z (tp t 0)) m) m (tp t u) = z (tp t u) := fun u hu h8 => by rw [zLeave_t z t u hm p1 hu, if_neg (fun c => h8 c.2)]
  have d1 : zSit z t r (tp t 1) = 2 := by rw [es t 1 (by omega), row 1 (by omega)]; rfl
  have f0 : zSit z t r (tp t 0) = z (tp t 0) := by rw [es t 0 (by omega), row 0 (by omega), if_neg (by omega), if_neg (by omega), zFare_t _ _ _ _ t 0 (by omega), if_pos rfl, if_neg (by omega), if_neg (by omega), if_neg (by omega), if_neg (by omega), if_neg (by omega), lv 0 (by omega) (by omega)]
  have f4 : zSit z t r (tp t 4) = z (tp t 4) + 1 := by rw [es t 4 (by omega), row 4 (by omega), if_neg (by omega), if_neg (by omega), zFare_t _ _ _ _ t 4 (by omega), if_pos rfl, if_pos rfl, lv 4 (by omega) (by omega)]
  have f5 : ∃ c, (c = 0 ∨ c = 1) ∧ zSit z t r (tp t 5) = z (tp t 5) + nI c := by
    by_cases g : isLongZ (zLeave z t (plF z (z (tp t 0)) m) m) 10 (z (27 + 3 * r))
    · refine ⟨1, Or.inr rfl, ?_⟩
      rw [es t 5 (by omega), row 5 (by omega), if_neg (by omega), if_neg (by omega), zFare_t _ _ _ _ t 5 (by omega), if_pos rfl, if_neg (by omega), if_pos rfl, lv 5 (by omega) (by omega), b2_t g]
      rfl
    · refine ⟨0, Or.inl rfl, ?_⟩
      rw [es t 5 (by omega), row 5 (by omega), if_neg (by omega), if_neg (by omega), zFare_t _ _ _ _ t 5 (by omega), if_pos rfl, if_neg (by omega), if_pos rfl, lv 5 (by omega) (by omega), b2_f g]
      rfl
  have f6 : zSit z t r (tp t 6) = z (tp t 6) := by rw [es t 6 (by omega), row 6 (by omega), if_neg (by omega), if_neg (by omega), zFare_t _ _ _ _ t 6 (by omega), if_pos rfl, if_neg (by omega), if_neg (by omega), if_neg (by omega), if_neg (by omega), if_neg (by omega), lv 6 (by omega) (by omega)]
  have f7 : zSit z t r (tp t 7) = z (tp t 7) := by rw [es t 7 (by omega), row 7 (by omega), if_neg (by omega), if_neg (by omega), zFare_t _ _ _ _ t 7 (by omega), if_pos rfl, if_neg (by omega), if_neg (by omega), if_neg (by omega), if_neg (by omega), if_neg (by omega), lv 7 (by omega) (by omega)]
  have f8 : zSit z t r (tp t 8) = 0 := (hMs.2.1 t ht).1.2.1 (by rw [d1]; decide)
  have o6 : ∀ q, (q = 5 ∨ q = 7 ∨ q = 10 ∨ q = 9) → zSit z t r q = z q := fun q hq => by rw [eo q (by omega) (by omega), zOff_o z hm p1 (by omega), if_neg (by omega)]
  have o66 : zSit z t r 6 = z 6 + 1 := by rw [eo 6 (by omega) (by omega), zOff_o z hm p1 (by omega), if_pos rfl]
  refine ⟨⟨fun j hj => ?_, ⟨m', hl', ?_⟩, ?_, ?_⟩, ⟨o66, o6 5 (by omega), o6 7 (by omega), o6 10 (by omega), o6 9 (by omega)⟩, hne, d1, hd, ht, _, ez, fun j h1 h2 => by rw [zOff_o z hm p1 (by omega), if_neg (by omega)]⟩
  · by_cases q : j = t
    · subst q
      obtain ⟨f, lo, q, ⟨a1, a2, a3⟩, a4, a5, ⟨a6, a7⟩, a8, a9⟩ := hW.1 j hj
      obtain ⟨c, hc, ec⟩ := f5
      refine ⟨f + 1, lo + c, q, ⟨by rw [f4, a1]; exact nI_up f, by rw [ec, a2, nI_add], f7.trans a3⟩, by omega, by omega, ⟨by omega, fun _ => by omega⟩, fun g => ?_, fun g => ?_⟩
      · rw [f8] at g; exact absurd g (by decide)
      · rw [d1] at g; exact absurd g (by decide)
    · exact ((hW.1 j hj).same (fun u hu => hne j u hu q)).mono (by omega)
  · obtain ⟨m0, hL0, hQ0⟩ := hW.2.1
    have : m0 = m := (nI_eq (by have := hL0.2.2.2.2.2.2.2; omega) (by omega)).mp (hL0.2.2.1.symm.trans hL.2.2.1)
    subst this
    have h1 := hQ0.leave hL ht p1 p2
    have hX := LnX.leave hL ht p1 p2
    have em : m' = m0 - 1 := by
      refine (nI_eq (by have := hl'.2.2.2.2.2.2.2; omega) (by omega)).mp (hl'.2.2.1.symm.trans ?_)
      rw [eo 12 (by omega) (by omega)]
      unfold zOff
      rw [zRide_o _ (by omega), if_neg (by omega), zFare_o _ _ _ _ (by omega)]
      exact hX.2.2.1
    subst em
    refine h1.row hX (by rw [f0, lv 0 (by omega) (by omega)]) (fun j u hu hj => by rw [hne j u hu hj, zLeave_t z j u hm p1 hu, if_neg (fun c => hj c.1)]) (fun p hp => ?_)
    rw [eo _ (by omega) (by omega)]
    unfold zOff
    rw [zRide_o _ (by omega), if_neg (by omega), zFare_o _ _ _ _ (by omega)]
  · refine hW.2.2.1.row (i := t) (e := 0) (f := 1) ht hne (by rw [f6, Int32.add_zero]) (by rw [o6 9 (by omega), Int32.add_zero]) ?_ o66
    simp only [fr]
    rw [f4, d1, hd, b2_f (by decide), b2_f (by decide), Int32.sub_zero, Int32.sub_zero]
  · refine hW.2.2.2.same (fun j hj => ?_)
    by_cases q : j = t
    · subst q; exact f0
    · exact hne j 0 (by omega) q
theorem seat_w {n : Nat} : ∀ d r (z : Nat → Int32) k hr b, MV z n k → WZ z n b → CR z k → r + d = k → ∃ k' s, MV (seat 0 d z hr r).1 n k' ∧ WZ (seat 0 d z hr r).1 n (b + d) ∧ CR (seat 0 d z hr r).1 k' ∧ k' + s = k ∧ (seat 0 d z hr r).1 6 = z 6 + nI s ∧ ((seat 0 d z hr r).1 5 = z 5 ∧ (seat 0 d z hr r).1 7 = z 7 ∧ (seat 0 d z hr r).1 10 = z 10) ∧ ∀ t, z (tp t 1) = 2 → (seat 0 d z hr r).1 (tp t 1) = 2 := by
  intro d
  induction d with
  | zero => intro r z k hr b hM hW hC _; exact ⟨k, 0, hM, hW, hC, rfl, add_nI0 _, ⟨rfl, rfl, rfl⟩, fun _ h => h⟩
  | succ d ih =>
    intro r z k hr b hM hW hC he
    obtain ⟨⟨m, hl⟩, -⟩ := id hM
    have hk := hM.2.2.2.2.1
    have hm := hl.2.2.2.2.2.2.2
    have e11 : ix (z 11) = n := by rw [hl.1]; exact ix_nI (by have := hl.2.1; omega)
    have e12 : ix (z 12) = m := by rw [hl.2.2.1]; exact ix_nI (by omega)
    cases hrd : rider z n m (z (27 + 3 * r)) with
    | none =>
      have es : seat 0 (d + 1) z hr r = seat 0 d z hr (r + 1) := by simp only [seat, e11, e12, hrd]
      rw [es]
      obtain ⟨k', s, a1, a2, a3⟩ := ih (r + 1) z k hr b hM hW hC (by omega)
      exact ⟨k', s, a1, a2.mono (by omega), a3⟩
    | some t0 =>
      have es : seat 0 (d + 1) z hr r = seat 0 d (zSit z t0 r) (b2 (¬ hr = 0 ∨ z (27 + 3 * r + 2) = 0)) r := by simp only [seat, e11, e12, hrd]
      rw [es]
      obtain ⟨s1, ⟨s6, s5, s7, s10, -⟩, s2, s3, s4, -, w, w1, w2⟩ := sit_w hM hW hl (show r < k by omega) hrd
      have hC' : CR (zSit z t0 r) (k - 1) := by
        rw [w1]
        exact (hC.same hk w2).goes (by omega)
      obtain ⟨k', s, a1, a2, a3, a4, a5, ⟨b5, b7, b10⟩, a6⟩ := ih r (zSit z t0 r) (k - 1) (b2 (¬ hr = 0 ∨ z (27 + 3 * r + 2) = 0)) (b + 1) (hM.sit hl (by omega) hrd) s1 hC' (by omega)
      refine ⟨k', s + 1, a1, a2.mono (by omega), a3, by omega, ?_, ⟨b5.trans s5, b7.trans s7, b10.trans s10⟩, fun t ht => a6 t ?_⟩
      · rw [a5, s6, Int32.add_assoc, Int32.add_comm 1, nI_up]
      · by_cases q : t = t0
        · subst q; exact s3
        · rw [s2 t 1 (by omega) q]; exact ht
