/-! p27: what more holds of a state: accounts -/
def FTx (z : Nat → Int32) (t b : Nat) : Prop := ∃ f lo q : Nat, (z (tp t 4) = nI f ∧ z (tp t 5) = nI lo ∧ z (tp t 7) = nI q) ∧ f ≤ b ∧ lo ≤ f ∧ (q ≤ f ∧ (z (tp t 1) = 1 ∨ z (tp t 1) = 2 ∨ z (tp t 1) = 3 → q + 1 ≤ f)) ∧ (z (tp t 8) = 1 → 0 < q) ∧ (z (tp t 1) = 0 ∨ z (tp t 1) = 5 → z (tp t 2) = 0)
theorem FTx.mono {z : Nat → Int32} {t b b' : Nat} (h : FTx z t b) (hb : b ≤ b') : FTx z t b' := by
  obtain ⟨f, lo, q, a, c, d⟩ := h
  exact ⟨f, lo, q, a, by omega, d⟩
theorem FTx.same {z z' : Nat → Int32} {t b : Nat} (h : FTx z t b) (e : ∀ u, u < 13 → z' (tp t u) = z (tp t u)) : FTx z' t b := by
  unfold FTx
  rw [e 1 (by omega), e 2 (by omega), e 4 (by omega), e 5 (by omega), e 7 (by omega), e 8 (by omega)]
  exact h
theorem FTx.at {z z' : Nat → Int32} {t j b : Nat} (h : FTx z t b) (e : ∀ u, u < 13 → z' (tp j u) = z (tp t u)) : FTx z' j b := by
  unfold FTx
  rw [e 1 (by omega), e 2 (by omega), e 4 (by omega), e 5 (by omega), e 7 (by omega), e 8 (by omega)]
  exact h
theorem sub1_0 {x : Int32} : x - 1 = 0 ↔ x = 1 := by
  constructor
  · intro h
    have := Int32.sub_add_cancel x 1
    rw [h] at this
    exact this.symm
  · intro h; rw [h]; decide
/-- the account of fares: those that are not on the way to a caller -/
abbrev fr (z : Nat → Int32) (t : Nat) : Int32 := z (tp t 4) - b2 (z (tp t 1) = 1)
def AC (z : Nat → Int32) (n : Nat) : Prop := Sm (fun t => z (tp t 6)) n = z 9 ∧ Sm (fun t => fr z t) n = z 6
def PR (z : Nat → Int32) (n : Nat) : Prop := (∀ i j, i < j → j < n → z (tp i 0) < z (tp j 0)) ∧ ∀ t, t < n → 0 ≤ z (tp t 0) ∧ z (tp t 0) ≤ 999
theorem PR.same {z z' : Nat → Int32} {n : Nat} (h : PR z n) (e : ∀ t, t < n → z' (tp t 0) = z (tp t 0)) : PR z' n :=
  ⟨fun i j a b => by rw [e i (by omega), e j b]; exact h.1 i j a b, fun t ht => by rw [e t ht]; exact h.2 t ht⟩
def WZ (z : Nat → Int32) (n b : Nat) : Prop := (∀ t, t < n → FTx z t b) ∧ (∃ m, Ln z n m ∧ QF z n m) ∧ AC z n ∧ PR z n
theorem WZ.mono {z : Nat → Int32} {n b b' : Nat} (h : WZ z n b) (hb : b ≤ b') : WZ z n b' := ⟨fun t ht => (h.1 t ht).mono hb, h.2⟩
/-- the taxis, the line and the accounts as they were -/
theorem WZ.same {z z' : Nat → Int32} {n b : Nat} (h : WZ z n b) (e : ∀ t u, u < 13 → z' (tp t u) = z (tp t u)) (ho : ∀ q, q = 6 ∨ q = 9 ∨ q = 11 ∨ q = 12 ∨ 15 ≤ q ∧ q < 27 → z' q = z q) : WZ z' n b := by
  obtain ⟨h1, ⟨m, h2, h3⟩, ⟨h4, h5⟩, h6⟩ := h
  have hm := h2.2.2.2.2.2.2.2
  refine ⟨fun t ht => (h1 t ht).same (fun u hu => e t u hu), ⟨m, LnX.same h2 (fun j => e j 0 (by omega)) (fun j _ => e j 1 (by omega)) (fun q a b c d => ho q (by omega)), h3.same (fun j => e j 0 (by omega)) (fun p hp => ho _ (by omega)) (fun p _ => e _ 8 (by omega))⟩, ⟨?_, ?_⟩, h6.same (fun t _ => e t 0 (by omega))⟩
  · rw [ho 9 (by omega), ← h4]
    exact Sm_cg (fun t _ => e t 6 (by omega))
  · rw [ho 6 (by omega), ← h5]
    refine Sm_cg (fun t _ => ?_)
    simp only [fr]
    rw [e t 4 (by omega), e t 1 (by omega)]
/-- one row has changed, and the accounts with it -/
theorem AC.row {z z' : Nat → Int32} {n i : Nat} {e f : Int32} (h : AC z n) (hi : i < n) (ht : ∀ j u, u < 13 → j ≠ i → z' (tp j u) = z (tp j u)) (h6 : z' (tp i 6) = z (tp i 6) + e) (h9 : z' 9 = z 9 + e) (hf : fr z' i = fr z i + f) (h60 : z' 6 = z 6 + f) : AC z' n := by
  constructor
  · rw [h9, ← h.1]
    exact Sm_one hi (fun t _ hn => ht t 6 (by omega) hn) h6
  · rw [h60, ← h.2]
    refine Sm_one hi (fun t _ hn => ?_) hf
    simp only [fr]
    rw [ht t 4 (by omega) hn, ht t 1 (by omega) hn]
/-! a taxi's minute -/
def endsZ (z : Nat → Int32) (i : Nat) : Prop := (1 ≤ z (tp i 1) ∧ z (tp i 1) ≤ 4) ∧ z (tp i 2) = 1
theorem ne_14 {x : Int32} (h : x = 1 ∨ x = 2 ∨ x = 3 ∨ x = 4) : ¬ x = 0 ∧ ¬ x = 5 := by
  rcases h with rfl | rfl | rfl | rfl <;> decide
theorem b2_iff {c d : Prop} [Decidable c] [Decidable d] (h : c ↔ d) : b2 c = b2 d := by
  by_cases g : c
  · rw [b2_t g, b2_t (h.mp g)]
  · rw [b2_f g, b2_f (fun q => g (h.mpr q))]
theorem not4 {x : Int32} (h : x = 1 ∨ x = 2 ∨ x = 3 ∨ x = 4) : (¬ x = 4) ↔ (0 < x ∧ x < 4) := by
  rcases h with rfl | rfl | rfl | rfl <;> decide
theorem not14 {x : Int32} (h : x = 0 ∨ x = 1 ∨ x = 2 ∨ x = 3 ∨ x = 4 ∨ x = 5) (g : ¬ (1 ≤ x ∧ x ≤ 4)) : ¬ (0 < x ∧ x < 4) ∧ ¬ x = 1 := by
  rcases h with rfl | rfl | rfl | rfl | rfl | rfl <;> first | exact absurd (by decide) g | decide
/-- the three cases of a taxi's minute -/
theorem tick_c {z : Nat → Int32} {n k m i : Nat} (hM : MV z n k) (hl : Ln z n m) (hi : i < n) : (¬ (1 ≤ z (tp i 1) ∧ z (tp i 1) ≤ 4) ∧ zTick z i = z) ∨ ((z (tp i 1) = 1 ∨ z (tp i 1) = 2 ∨ z (tp i 1) = 3 ∨ z (tp i 1) = 4) ∧ m < 12 ∧ LnX (zT1 z i) n m i ∧ ((¬ z (tp i 2) = 1 ∧ zTick z i = zT1 z i) ∨ (z (tp i 2) = 1 ∧ zTick z i = zEnd (zT1 z i) i n m))) := by
  by_cases g : 1 ≤ z (tp i 1) ∧ z (tp i 1) ≤ 4
  · right
    have hd : ¬ z (tp i 1) = 0 := fun q => by rw [q] at g; exact absurd g.1 (by decide)
    obtain ⟨w, wp⟩ := hM.2.1 i hi
    have hX : LnX (zT1 z i) n m i := fld_same (LnX.out hl hi hd) (by rw [zT1_t z i 0 (by omega)]; simp) (fun j u hu hj => by rw [zT1_t z j u hu, if_neg hj]) (fun k a b => by rw [zT1_o z (by omega), if_neg (by omega)])
    have hm : m < 12 := by have := hX.lt hi; have := hl.2.1; omega
    have e11 : ix (z 11) = n := by rw [hl.1]; exact ix_nI (by have := hl.2.1; omega)
    have e12 : ix (z 12) = m := by rw [hl.2.2.1]; exact ix_nI (by omega)
    refine ⟨(doing14 w.1).mp g, hm, hX, ?_⟩
    by_cases g2 : z (tp i 2) - 1 = 0
    · exact Or.inr ⟨sub1_0.mp g2, by unfold zTick; rw [if_pos g, if_pos g2, e11, e12]⟩
    · exact Or.inl ⟨fun q => g2 (sub1_0.mpr q), by unfold zTick; rw [if_pos g, if_neg g2]⟩
  · exact Or.inl ⟨g, by unfold zTick; rw [if_neg g]⟩
theorem zT1_r (z : Nat → Int32) (i : Nat) : ∀ u, u < 13 → u ≠ 2 → u ≠ 3 → zT1 z i (tp i u) = z (tp i u) := fun u hu h2 h3 => by rw [zT1_t z i u hu]; simp [h2, h3]
theorem QF.end {z : Nat → Int32} {n m i : Nat} (h : QF z n m) (hX : LnX z n m i) (hi : i < n) (h8 : z (tp i 8) = 0) : ∃ m', zEnd z i n m 12 = nI m' ∧ m' ≤ 12 ∧ QF (zEnd z i n m) n m' := by
  have hm : m < 12 := by have := hX.lt hi; have := hX.2.1; omega
  have e12 : z 12 = nI m := hX.2.2.1
  have back : ∀ w : Nat → Int32, QF w n m → LnX w n m i → w (tp i 8) = 0 → ∃ m', zBack w i n m 12 = nI m' ∧ m' ≤ 12 ∧ QF (zBack w i n m) n m' := by
    intro w hw hXw hw8
    unfold zBack
    split
    · refine ⟨m, by rw [upd_l _ _ _ _ (by omega), upd_l _ _ _ _ (by omega)]; exact hXw.2.2.1, by omega, hw.row hXw ?_ (fun j u hu hj => ?_) (fun p hp => ?_)⟩
      · rw [upd_t _ _ _ _ _ _ (by omega) (by omega), if_neg (by omega), upd_t _ _ _ _ _ _ (by omega) (by omega), if_neg (by omega)]
      · rw [upd_t _ _ _ _ _ _ hu (by omega), if_neg (fun q => hj q.1), upd_t _ _ _ _ _ _ hu (by omega), if_neg (fun q => hj q.1)]
      · rw [upd_l _ _ _ _ (by omega), upd_l _ _ _ _ (by omega)]
    · split
      · exact ⟨m + 1, by rw [zQuick_l w (by omega)]; exact zStand_12 w, by omega, hw.quick hXw hi⟩
      · exact ⟨m + 1, zStand_12 w, by omega, hw.stand hXw hi hw8⟩
  unfold zEnd
  split
  · refine ⟨m, by rw [zRide_o z (by omega), if_neg (by omega)]; exact e12, by omega, h.row hX ?_ (fun j u hu hj => ?_) (fun p hp => ?_)⟩
    · rw [zRide_t z i 0 (by omega)]; simp
    · rw [zRide_t z j u hu, if_neg hj]
    · rw [zRide_o z (by omega), if_neg (by omega)]
  · split
    · have hX1 : LnX (zPaid1 z i) n m i := fld_same hX (by rw [zPaid1_t z i 0 (by omega), if_neg (by omega)]) (fun j u hu hj => by rw [zPaid1_t z j u hu, if_neg (fun q => hj q.1)]) (fun k a b => by rw [zPaid1_o z (by omega), if_neg (by omega)])
      have h1 : QF (zPaid1 z i) n m := h.row hX (by rw [zPaid1_t z i 0 (by omega), if_neg (by omega)]) (fun j u hu hj => by rw [zPaid1_t z j u hu, if_neg (fun q => hj q.1)]) (fun p hp => by rw [zPaid1_o z (by omega), if_neg (by omega)])
      unfold zPaid
      split
      · exact back _ h1 hX1 (by rw [zPaid1_t z i 8 (by omega), if_neg (by omega)]; exact h8)
      · refine ⟨m, by rw [upd_l _ _ _ _ (by omega), upd_l _ _ _ _ (by omega), upd_l _ _ _ _ (by omega)]; exact hX1.2.2.1, by omega, h1.row hX1 ?_ (fun j u hu hj => ?_) (fun p hp => ?_)⟩
        · rw [upd_t _ _ _ _ _ _ (by omega) (by omega), if_neg (by omega), upd_t _ _ _ _ _ _ (by omega) (by omega), if_neg (by omega), upd_t _ _ _ _ _ _ (by omega) (by omega), if_neg (by omega)]
        · rw [upd_t _ _ _ _ _ _ hu (by omega), if_neg (fun q => hj q.1), upd_t _ _ _ _ _ _ hu (by omega), if_neg (fun q => hj q.1), upd_t _ _ _ _ _ _ hu (by omega), if_neg (fun q => hj q.1)]
        · rw [upd_l _ _ _ _ (by omega), upd_l _ _ _ _ (by omega), upd_l _ _ _ _ (by omega)]
    · split
      · exact back z h hX h8
      · have hX1 : LnX (upd z (tp i 3) 0) n m i := fld_same hX (by rw [upd_t _ _ _ _ _ _ (by omega) (by omega), if_neg (by omega)]) (fun j u hu hj => by rw [upd_t _ _ _ _ _ _ hu (by omega), if_neg (fun q => hj q.1)]) (fun k a b => by rw [upd_l _ _ _ _ (by omega)])
        have h1 : QF (upd z (tp i 3) 0) n m := h.row hX (by rw [upd_t _ _ _ _ _ _ (by omega) (by omega), if_neg (by omega)]) (fun j u hu hj => by rw [upd_t _ _ _ _ _ _ hu (by omega), if_neg (fun q => hj q.1)]) (fun p hp => by rw [upd_l _ _ _ _ (by omega)])
        exact ⟨m + 1, zStand_12 _, by omega, h1.stand hX1 hi (by rw [upd_t _ _ _ _ _ _ (by omega) (by omega), if_neg (by omega)]; exact h8)⟩
theorem ER.ft {z z' : Nat → Int32} {i b : Nat} (h : ER z z' i) (hf : FTx z i b) (h8 : z (tp i 8) = 0) : FTx z' i b := by
  obtain ⟨f, lo, q, ⟨a1, a2, a3⟩, a4, a5, ⟨a6, a7⟩, -, -⟩ := hf
  obtain ⟨⟨e4, e5⟩, -, -, ⟨n1, n5⟩, z0, c⟩ := h
  rcases c with ⟨c7, c8, c9⟩ | ⟨c7, c8, c1, c9⟩
  · refine ⟨f, lo, q, ⟨e4.trans a1, e5.trans a2, c7.trans a3⟩, a4, a5, ⟨a6, fun g => ?_⟩, fun g => ?_, fun g => ?_⟩
    · refine a7 ?_
      rcases g with g | g
      · exact absurd g n1
      · rcases c9 g with y | y
        · exact Or.inl y
        · exact Or.inr (Or.inl y)
    · rw [c8, h8] at g; exact absurd g (by decide)
    · rcases g with g | g
      · exact z0 g
      · exact absurd g n5
  · have := a7 (by rcases c9 with y | y; exact Or.inr (Or.inl y); exact Or.inr (Or.inr y))
    refine ⟨f, lo, q + 1, ⟨e4.trans a1, e5.trans a2, by rw [c7, a3]; exact nI_up q⟩, a4, a5, ⟨by omega, fun g => ?_⟩, fun _ => by omega, fun _ => z0 c1⟩
    rw [c1] at g
    exact absurd g (by decide)
theorem fr_er {z z' : Nat → Int32} {i : Nat} (h : ER z z' i) : fr z' i = fr z i + b2 (z (tp i 1) = 1) := by
  simp only [fr]
  rw [h.1.1, b2_f h.2.2.2.1.1, Int32.sub_zero, Int32.sub_add_cancel]
theorem WZ.tick {z : Nat → Int32} {n k i b : Nat} (h : WZ z n b) (hM : MV z n k) (hi : i < n) : WZ (zTick z i) n b := by
  obtain ⟨h1, ⟨m, h2, h3⟩, h4, h5⟩ := id h
  obtain ⟨t1, t2, -⟩ := tick_o hM hi
  obtain ⟨⟨m', hl'⟩, -⟩ := hM.tick hi
  obtain ⟨w, -⟩ := hM.2.1 i hi
  have hp : PR (zTick z i) n := h5.same (fun t _ => (tick_p hM hi).1 t)
  rcases tick_c hM h2 hi with ⟨-, e⟩ | ⟨hd, hm, hX, c⟩
  · rw [e]; exact h
  have hne := ne_14 hd
  have h8 : z (tp i 8) = 0 := w.2.1 hne.1
  have r := zT1_r z i
  have q1 : QF (zT1 z i) n m := h3.row (LnX.out h2 hi hne.1) (r 0 (by omega) (by omega) (by omega)) (fun j u hu hj => by rw [zT1_t z j u hu, if_neg hj]) (fun p hp => by rw [zT1_o z (by omega), if_neg (by omega)])
  rcases c with ⟨-, e⟩ | ⟨-, e⟩
  · rw [e] at hp ⊢
    refine ⟨fun t ht => ?_, ⟨m, LnX.in (i := i) hX (by rw [r 1 (by omega) (by omega) (by omega)]; exact hne.1), q1⟩, ?_, hp⟩
    · by_cases q : t = i
      · subst q
        obtain ⟨f, lo, q, ⟨a1, a2, a3⟩, a4, a5, ⟨a6, a7⟩, a8, a9⟩ := h1 t ht
        refine ⟨f, lo, q, ⟨(r 4 (by omega) (by omega) (by omega)).trans a1, (r 5 (by omega) (by omega) (by omega)).trans a2, (r 7 (by omega) (by omega) (by omega)).trans a3⟩, a4, a5, ⟨a6, ?_⟩, ?_, fun g => ?_⟩
        · rw [r 1 (by omega) (by omega) (by omega)]; exact a7
        · rw [r 8 (by omega) (by omega) (by omega)]; exact a8
        · rw [r 1 (by omega) (by omega) (by omega)] at g
          rcases g with g | g
          · exact absurd g hne.1
          · exact absurd g hne.2
      · exact (h1 t ht).same (fun u hu => by rw [zT1_t z t u hu, if_neg q])
    · refine h4.row (i := i) (e := 0) (f := 0) hi (fun j u hu hj => by rw [zT1_t z j u hu, if_neg hj]) (by rw [r 6 (by omega) (by omega) (by omega), Int32.add_zero]) (by rw [zT1_o z (by omega), if_neg (by omega), Int32.add_zero]) ?_ (by rw [zT1_o z (by omega), if_neg (by omega), Int32.add_zero])
      simp only [fr]
      rw [r 4 (by omega) (by omega) (by omega), r 1 (by omega) (by omega) (by omega), Int32.add_zero]
  · rw [e] at hp hl' t2 ⊢
    have r1 := r 1 (by omega) (by omega) (by omega)
    have r8 : zT1 z i (tp i 8) = 0 := (r 8 (by omega) (by omega) (by omega)).trans h8
    have hER : ER (zT1 z i) (zEnd (zT1 z i) i n m) i := zEnd_r _ hm (by rw [r1]; exact hd)
    obtain ⟨m2, e12, hm2, q2⟩ := q1.end hX hi r8
    have em : m' = m2 := (nI_eq (by have := hl'.2.2.2.2.2.2.2; omega) (by omega)).mp (hl'.2.2.1.symm.trans e12)
    subst em
    refine ⟨fun t ht => ?_, ⟨m', hl', q2⟩, ?_, hp⟩
    · by_cases q : t = i
      · subst q
        refine hER.ft ?_ r8
        obtain ⟨f, lo, q, ⟨a1, a2, a3⟩, a4, a5, ⟨a6, a7⟩, a8, a9⟩ := h1 t ht
        refine ⟨f, lo, q, ⟨(r 4 (by omega) (by omega) (by omega)).trans a1, (r 5 (by omega) (by omega) (by omega)).trans a2, (r 7 (by omega) (by omega) (by omega)).trans a3⟩, a4, a5, ⟨a6, ?_⟩, ?_, fun g => ?_⟩
        · rw [r1]; exact a7
        · rw [r 8 (by omega) (by omega) (by omega)]; exact a8
        · rw [r1] at g
          rcases g with g | g
          · exact absurd g hne.1
          · exact absurd g hne.2
      · exact (h1 t ht).same (fun u hu => t2 t u hu q)
    · obtain ⟨d, d6, d9⟩ := hER.2.1
      refine h4.row (i := i) (e := d) (f := b2 (z (tp i 1) = 1)) hi (fun j u hu hj => t2 j u hu hj) (by rw [d6, r 6 (by omega) (by omega) (by omega)]) (by rw [d9, zT1_o z (by omega), if_neg (by omega)]) ?_ (by rw [hER.2.2.1, r1, zT1_o z (by omega), if_neg (by omega)])
      rw [fr_er hER, r1]
      simp only [fr]
      rw [r 4 (by omega) (by omega) (by omega), r1]
