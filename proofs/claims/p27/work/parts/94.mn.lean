/-! p27: a whole minute -/
theorem rd_same {z z' : Nat → Int32} {n m : Nat} (isL isL' : Prop) [Decidable isL] [Decidable isL'] (hi : isL' ↔ isL) (hx : ∀ p, p < m → lx z' n p = lx z n p ∧ (may z' (lx z n p) ↔ may z (lx z n p))) (h5 : ∀ j, z' (tp j 5) = z (tp j 5)) : ∀ k f, k ≤ m → rd z' n isL' k f = rd z n isL k f := by
  intro k
  induction k with
  | zero => intro f _; rfl
  | succ k ih =>
    intro f hk
    obtain ⟨e, em⟩ := hx k (by omega)
    simp only [rd]
    rw [e]
    have es : rdS z' isL' (lx z n k) f = rdS z isL (lx z n k) f := by
      cases f with
      | none =>
        simp only [rdS]
        by_cases g : may z (lx z n k)
        · rw [if_pos g, if_pos (em.mpr g)]
        · rw [if_neg g, if_neg (fun q => g (em.mp q))]
      | some j =>
        simp only [rdS]
        rw [h5, h5]
        have ec : (may z' (lx z n k) ∧ (¬ isL' ∨ z (tp (lx z n k) 5) ≤ z (tp j 5))) ↔ (may z (lx z n k) ∧ (¬ isL ∨ z (tp (lx z n k) 5) ≤ z (tp j 5))) := by rw [em, hi]
        by_cases g : may z (lx z n k) ∧ (¬ isL ∨ z (tp (lx z n k) 5) ≤ z (tp j 5))
        · rw [if_pos g, if_pos (ec.mpr g)]
        · rw [if_neg g, if_neg (fun q => g (ec.mp q))]
    rw [es]
    exact ih _ (by omega)
theorem day_same {c : Nat} (hc : c < 1000000) (h : ¬ irem (nI c + 1) 1440 = 0) : (nI c + 1) / 1440 = nI c / 1440 := by
  rw [nI_up, show (1440 : Int32) = nI 1440 from rfl] at h ⊢
  rw [pk_div (by omega) (by omega) (by omega), pk_div (by omega) (by omega) (by omega)]
  rw [show irem (nI (c + 1)) (nI 1440) = nI ((c + 1) % 1440) from pk_rem (by omega) (by omega) (by omega)] at h
  have hm : (c + 1) % 1440 ≠ 0 := fun q => h (by rw [q]; rfl)
  exact congrArg nI (by omega)
/-- a minute -/
theorem mn_w {z : Nat → Int32} {n k b : Nat} (hM : MV z n k) (hW : WZ z n b) (hC : CR z k) : ∃ k' g s, MV (zMn z) n k' ∧ WZ (zMn z) n (b + 15) ∧ CR (zMn z) k' ∧ k' + g + s = k ∧ zMn z 5 = z 5 + 1 ∧ zMn z 7 = z 7 + nI g ∧ zMn z 6 = z 6 + Sm (gC z) n + nI s ∧ zMn z 10 = z 10 + Sm (gW z) n := by
  have hk := hM.2.2.2.2.1
  have hn := hM.n
  have e11 : ix (z 11) = n := by rw [hn.1]; exact ix_nI (by omega)
  have e13 : ix (z 13) = k := by rw [hM.2.2.2.1]; exact ix_nI (by omega)
  have et : ∀ t u, upd z 5 (z 5 + 1) (tp t u) = z (tp t u) := fun t u => upd_n _ _ (by have := tp_ge t u; omega)
  have eo : ∀ q, q ≠ 5 → upd z 5 (z 5 + 1) q = z q := fun q hq => upd_n _ _ hq
  have hM1 := hM.clock (z 5 + 1)
  have hW1 : WZ (upd z 5 (z 5 + 1)) n b := hW.same (fun t u _ => et t u) (fun q hq => eo q (by omega))
  have hC1 : CR (upd z 5 (z 5 + 1)) k := hC.same hk (fun j a _ => eo j (by omega))
  have hM2 := zTs_inv hM1 n (Nat.le_refl n)
  obtain ⟨hW2, -, t6, t10⟩ := ticks_w hM1 hW1 n (Nat.le_refl n)
  have tk : ∀ q, (q < 15 ∧ q ≠ 12 ∧ q ≠ 9 ∧ q ≠ 6 ∧ q ≠ 10 ∨ 27 ≤ q ∧ q < 72) → zTs (upd z 5 (z 5 + 1)) n q = upd z 5 (z 5 + 1) q := by
    have key : ∀ i, i ≤ n → ∀ q, (q < 15 ∧ q ≠ 12 ∧ q ≠ 9 ∧ q ≠ 6 ∧ q ≠ 10 ∨ 27 ≤ q ∧ q < 72) → zTs (upd z 5 (z 5 + 1)) i q = upd z 5 (z 5 + 1) q := by
      intro i
      induction i with
      | zero => intro _ _ _; rfl
      | succ i ih => intro hi q hq; exact ((tick_o (zTs_inv hM1 i (by omega)) (show i < n by omega)).1 q hq).trans (ih (by omega) q hq)
    exact key n (Nat.le_refl n)
  have hC2 : CR (zTs (upd z 5 (z 5 + 1)) n) k := hC1.same hk (fun j a c => tk j (by omega))
  obtain ⟨k2, g, d1, d2, d3, d4, d5, d6, -⟩ := dis_w k (zTs (upd z 5 (z 5 + 1)) n) k hM2 hW2 hC2 (Nat.le_refl k)
  have e3 : zDis (zTs (upd z 5 (z 5 + 1)) n) k = zM3 z := by simp only [zM3, e11, e13]
  rw [e3] at d1 d2 d3 d5 d6
  have e13' : ix (zM3 z 13) = k2 := by rw [d1.2.2.2.1]; exact ix_nI (by have := d1.2.2.2.2.1; omega)
  have em : zMn z = (seat 0 k2 (zM3 z) 0 0).1 := by simp only [zMn, zMin, e13']
  obtain ⟨k', s, f1, f2, f3, f4, f5, ⟨f6, f7, f8⟩, -⟩ := seat_w k2 0 (zM3 z) k2 0 b d1 d2 d3 (by omega)
  rw [← em] at f1 f2 f3 f5 f6 f7 f8
  refine ⟨k', g, s, f1, f2.mono (by omega), f3, by omega, ?_, ?_, ?_, ?_⟩
  · rw [f6, d6 5 (by omega) (by omega) (by omega), tk 5 (by omega), upd_e]
  · rw [f7, d5, tk 7 (by omega), eo 7 (by omega)]
  · rw [f5, d6 6 (by omega) (by omega) (by omega), t6, eo 6 (by omega)]
    have : Sm (gC (upd z 5 (z 5 + 1))) n = Sm (gC z) n := Sm_cg (fun t _ => by simp only [gC]; rw [et t 1, et t 2])
    rw [this]
  · rw [f8, d6 10 (by omega) (by omega) (by omega), t10, eo 10 (by omega)]
    have : Sm (gW (upd z 5 (z 5 + 1))) n = Sm (gW z) n := Sm_cg (fun t _ => by simp only [gW]; rw [et t 1])
    rw [this]
/-- nobody ends: nothing is paid; who is first in the line of those who wait rides with the one that was told -/
theorem mn_q {z : Nat → Int32} {n m k b bd c : Nat} (hM : MV z n k) (hL : Ln z n m) (hW : WZ z n b) (hC : CR z k) (hE : EX z n k bd c) (hc : c ≤ 99999) (hq : ∀ t, t < n → ¬ endsZ z t) : zMn z 9 = z 9 ∧ ∀ t, 0 < k → ¬ z 1 ≤ z 5 - z (27 + 3 * 0 + 1) + 1 → ¬ irem (z 5 + 1) 1440 = 0 → rider z n m (z (27 + 3 * 0)) = some t → zMn z (tp t 1) = 2 ∧ ∃ s, zMn z 6 = z 6 + nI (s + 1) ∧ s < 15 := by
  have hk := hM.2.2.2.2.1
  have hn := hM.n
  have hm := hL.2.2.2.2.2.2.2
  have h5c := hE.2.1
  have e11 : ix (z 11) = n := by rw [hn.1]; exact ix_nI (by omega)
  have e13 : ix (z 13) = k := by rw [hM.2.2.2.1]; exact ix_nI (by omega)
  have et : ∀ t u, upd z 5 (z 5 + 1) (tp t u) = z (tp t u) := fun t u => upd_n _ _ (by have := tp_ge t u; omega)
  have eo : ∀ q, q ≠ 5 → upd z 5 (z 5 + 1) q = z q := fun q hq => upd_n _ _ hq
  have hM1 := hM.clock (z 5 + 1)
  have hW1 : WZ (upd z 5 (z 5 + 1)) n b := hW.same (fun t u _ => et t u) (fun q hq => eo q (by omega))
  have hC1 : CR (upd z 5 (z 5 + 1)) k := hC.same hk (fun j a _ => eo j (by omega))
  have hM2 := zTs_inv hM1 n (Nat.le_refl n)
  obtain ⟨hW2, -⟩ := ticks_w hM1 hW1 n (Nat.le_refl n)
  obtain ⟨q1, q2⟩ := ticks_q hM1 hW1 (fun t ht => by unfold endsZ; rw [et, et]; exact hq t ht) n (Nat.le_refl n)
  generalize hy : zTs (upd z 5 (z 5 + 1)) n = y at hM2 hW2 q1 q2
  have y5 : y 5 = z 5 + 1 := by rw [q1 5 (by omega) (by omega), upd_e]
  have yo : ∀ q, q < 72 → q ≠ 10 → q ≠ 5 → y q = z q := fun q a b' c' => by rw [q1 q a b', eo q c']
  have yt : ∀ j u, u < 13 → (u ≠ 2 ∧ u ≠ 3 ∨ z (tp j 1) = 0) → y (tp j u) = z (tp j u) := fun j u hu hj => by rw [q2 j u hu (by rw [et]; exact hj), et]
  have hC2 : CR y k := hC.same hk (fun j a d => yo j (by omega) (by omega) (by omega))
  obtain ⟨k2, g, d1, d2, d3, d4, -, d6, -⟩ := dis_w k y k hM2 hW2 hC2 (Nat.le_refl k)
  have e3 : zDis y k = zM3 z := by simp only [zM3, e11, e13]; rw [hy]
  rw [e3] at d1 d2 d3 d6
  have e13' : ix (zM3 z 13) = k2 := by rw [d1.2.2.2.1]; exact ix_nI (by have := d1.2.2.2.2.1; omega)
  have em : zMn z = (seat 0 k2 (zM3 z) 0 0).1 := by simp only [zMn, zMin, e13']
  have p9 : (seat 0 k2 (zM3 z) 0 0).1 9 = zM3 z 9 := (seat_p k2 0 (zM3 z) k2 0 d1 (by omega)).2
  refine ⟨by rw [em, p9, d6 9 (by omega) (by omega) (by omega), yo 9 (by omega) (by omega) (by omega)], fun t hk0 hp hday hrd => ?_⟩
  have nod : ∀ q, q < k → ¬ y 1 ≤ y 5 - y (27 + 3 * q + 1) := by
    intro q hqk hle
    rw [yo 1 (by omega) (by omega) (by omega), y5, yo (27 + 3 * q + 1) (by omega) (by omega) (by omega)] at hle
    obtain ⟨a, -, -, ha⟩ := hE.2.2.1
    obtain ⟨t0, n0, w0, w1, -⟩ := ha 0 hk0
    obtain ⟨tq, nq, v0, v1, -⟩ := ha q hqk
    have hle2 := hC.le q hqk
    rw [w0, v0, nI_leI (by omega) (by omega)] at hle2
    rw [h5c, w0, nI_sub w1, nI_up] at hp
    rw [h5c, v0, nI_up, nI_sub (by omega)] at hle
    exact hp (i32_le_trans hle (nI_le (by omega) (by omega)))
  have ey : zM3 z = y := by rw [← e3]; exact dis_0 k y nod
  have ek : k2 = k := (nI_eq (by have := d1.2.2.2.2.1; omega) (by omega)).mp (d1.2.2.2.1.symm.trans (by rw [ey]; exact hM2.2.2.2.1))
  subst ek
  rw [ey] at em
  have y12 : y 12 = nI m := (yo 12 (by omega) (by omega) (by omega)).trans hL.2.2.1
  have hLy : Ln y n m := hM2.ln y12 hm
  have hdy : y 5 / 1440 = z 5 / 1440 := by
    rw [y5, h5c]
    rw [h5c] at hday
    exact day_same (by omega) hday
  have hry : rider y n m (y (27 + 3 * 0)) = some t := by
    rw [yo (27 + 3 * 0) (by omega) (by omega) (by omega), ← hrd]
    refine rd_same _ _ (by show (y 2 ≤ _) ↔ (z 2 ≤ _); rw [yo 2 (by omega) (by omega) (by omega)]) (fun p hp => ?_) (fun j => yt j 5 (by omega) (by omega)) m none (Nat.le_refl m)
    have ex : lx y n p = lx z n p := lx_eq (fun j => yt j 0 (by omega) (by omega)) (yo _ (by omega) (by omega) (by omega))
    refine ⟨ex, ?_⟩
    have hd := (lx_in hL hp).2.2.2
    show (¬ irem (y (tp (lx z n p) 0)) 10 = irem (y 5 / 1440) 10 ∧ ¬ y 3 ≤ y (tp (lx z n p) 3)) ↔ (¬ irem (z (tp (lx z n p) 0)) 10 = irem (z 5 / 1440) 10 ∧ ¬ z 3 ≤ z (tp (lx z n p) 3))
    rw [hdy, yt (lx z n p) 0 (by omega) (by omega), yt (lx z n p) 3 (by omega) (Or.inr hd), yo 3 (by omega) (by omega) (by omega)]
  obtain ⟨d, hd⟩ : ∃ d, k2 = d + 1 := ⟨k2 - 1, by omega⟩
  have f11 : ix (y 11) = n := by rw [hM2.n.1]; exact ix_nI (by omega)
  have f12 : ix (y 12) = m := by rw [y12]; exact ix_nI (by omega)
  have es : (seat 0 k2 y 0 0).1 = (seat 0 d (zSit y t 0) (b2 (¬ (0 : Int32) = 0 ∨ y (27 + 3 * 0 + 2) = 0)) 0).1 := by
    rw [hd]
    simp only [seat, f11, f12, hry]
  obtain ⟨s1, ⟨s6, -⟩, s2, s3, s4, -, w, w1, w2⟩ := sit_w hM2 hW2 hLy hk0 hry
  have hC3 : CR (zSit y t 0) (k2 - 1) := by
    rw [w1]
    exact (hC2.same hk w2).goes hk0
  obtain ⟨k', s, f1, f2, f3, f4, f5, -, f7⟩ := seat_w d 0 (zSit y t 0) (k2 - 1) (b2 (¬ (0 : Int32) = 0 ∨ y (27 + 3 * 0 + 2) = 0)) (b + 1) (hM2.sit hLy hk0 hry) s1 hC3 (by omega)
  rw [em, es]
  refine ⟨f7 t s3, s, ?_, by omega⟩
  rw [f5, s6, yo 6 (by omega) (by omega) (by omega), Int32.add_assoc, Int32.add_comm 1, nI_up]
/-- many minutes -/
theorem it_w {z : Nat → Int32} {n k b : Nat} (hM : MV z n k) (hW : WZ z n b) (hC : CR z k) : ∀ i, ∃ k', MV (zIt z i) n k' ∧ WZ (zIt z i) n (b + 15 * i) ∧ CR (zIt z i) k' := by
  intro i
  induction i with
  | zero => exact ⟨k, hM, hW, hC⟩
  | succ i ih =>
    obtain ⟨k', a, b', c⟩ := ih
    obtain ⟨k2, g, s, x, y, w, -⟩ := mn_w a b' c
    exact ⟨k2, x, y.mono (by omega), w⟩
