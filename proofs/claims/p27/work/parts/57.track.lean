/-! a minute: numbers, clock and minutes; a passenger is followed through it -/
theorem way_ubt : ∀ x, x < 21 → ∀ y, y < 21 → ∀ w, w < 10 → sz32 (nI y - nI x) * nI w ≤ 200 := by decide +kernel
theorem nn_of1 {x : Int32} (h : 1 ≤ x) : ¬ x < 0 := fun q => by
  have h1 := Int32.le_iff_toInt_le.mp h
  have h2 := Int32.lt_iff_toInt_lt.mp q
  have e1 : (1 : Int32).toInt = 1 := by decide
  have e0 : (0 : Int32).toInt = 0 := by decide
  omega
theorem way_le {a b p : Int32} (ha : Pl a) (hb : Pl b) (hp : 1 ≤ p ∧ p ≤ 9) : sz32 (b - a) * p ≤ 200 := by
  obtain ⟨x, hx, rfl⟩ := ha.nat
  obtain ⟨y, hy, rfl⟩ := hb.nat
  obtain ⟨w, hw, rfl⟩ := nI_of2 (M := 9) (n := 9) (x := p) rfl (nn_of1 hp.1) hp.2
  exact way_ubt x (by omega) y (by omega) w (by omega)
theorem le1000 {x : Int32} (h : x ≤ 240) : x ≤ 1000 := i32_le_trans h (by decide)
theorem le200 {x : Int32} (h : x ≤ 200) : x ≤ 1000 := i32_le_trans h (by decide)
theorem ML.of {z : Nat → Int32} {i : Nat} (h : z (tp i 2) ≤ 200) : ML z i := ⟨le200 h, fun _ => h⟩
theorem ML.same {z z' : Nat → Int32} {i : Nat} (h : ML z i) (e1 : z' (tp i 1) = z (tp i 1)) (e2 : z' (tp i 2) = z (tp i 2)) : ML z' i := by
  unfold ML
  rw [e1, e2]
  exact h
theorem zBack_2 {z : Nat → Int32} {i n m : Nat} (hm : m < 12) (hs : SetOK z) : ML (zBack z i n m) i := by
  unfold zBack
  split
  · refine ⟨?_, fun q => ?_⟩
    · rw [upd_e]; exact le1000 hs.2.2.2.2.2
    · rw [upd_t _ _ _ _ _ _ (by omega) (by omega), if_neg (by omega), upd_e] at q
      exact absurd q (by decide)
  · split
    · refine ML.of ?_
      rw [zQuick_t z i 2 hm (qO_m z n m) (by omega)]
      simp
    · refine ML.of ?_
      rw [zStand_t z i 2 hm (Nat.le_refl m) (by omega), if_pos ⟨rfl, Or.inr rfl⟩]
      decide
theorem zEnd_2 {z : Nat → Int32} {i n m : Nat} (hm : m < 12) (hs : SetOK z) (hw : TxW z i) : ML (zEnd z i n m) i := by
  obtain ⟨w1, w2, w3, w4, w5, w6⟩ := hw
  unfold zEnd
  split
  · next g =>
    have h := w5 (Or.inl g)
    refine ML.of ?_
    rw [zRide_t z i 2 (by omega), if_pos rfl, if_neg (by omega), if_pos rfl]
    exact way_le h.1 h.2.1 hs.1
  · split
    · next g =>
      have h := w5 (Or.inr g)
      unfold zPaid
      split
      · exact zBack_2 hm (hs.same (fun k hk => by rw [zPaid1_o z (by omega), if_neg (by omega)]))
      · refine ML.of ?_
        rw [upd_t _ _ _ _ _ _ (by omega) (by omega), if_neg (by omega), upd_e]
        exact way_le Pl10 h.2.1 hs.1
    · split
      · exact zBack_2 hm hs
      · refine ML.of ?_
        rw [zStand_t _ i 2 hm (Nat.le_refl m) (by omega), if_pos ⟨rfl, Or.inr rfl⟩]
        decide
theorem dec_le {x : Int32} {M : Nat} (hM : M ≤ 1000) (h0 : 0 < x) (h : x ≤ nI M) : x - 1 ≤ nI M := by
  obtain ⟨j, hj, rfl⟩ := nI_of2 (M := nI M) (n := M) (nI_toInt (by omega)) (fun q => by
    have h1 := Int32.lt_iff_toInt_lt.mp h0
    have h2 := Int32.lt_iff_toInt_lt.mp q
    omega) h
  have hj0 : 0 < j := by
    by_cases q : j = 0
    · subst q; exact absurd h0 (by decide)
    · omega
  rw [(nI_dn hj0).2]
  exact nI_le (by omega) (by omega)
theorem tick_o {z : Nat → Int32} {n k i : Nat} (h : MV z n k) (hi : i < n) : (∀ q, (q < 15 ∧ q ≠ 12 ∧ q ≠ 9 ∧ q ≠ 6 ∧ q ≠ 10 ∨ 27 ≤ q ∧ q < 72) → zTick z i q = z q) ∧ (∀ j u, u < 13 → j ≠ i → zTick z i (tp j u) = z (tp j u)) ∧ ((∀ j, j < n → ML z j) → ML (zTick z i) i) := by
  obtain ⟨⟨m, hl⟩, ht, hs, hk, hk2, hw⟩ := h
  by_cases g : 1 ≤ z (tp i 1) ∧ z (tp i 1) ≤ 4
  · have hd : ¬ z (tp i 1) = 0 := fun q => by rw [q] at g; exact absurd g.1 (by decide)
    obtain ⟨w, wp⟩ := ht i hi
    have h4 := (doing14 w.1).mp g
    have hX : LnX (zT1 z i) n m i := fld_same (LnX.out hl hi hd) (by rw [zT1_t z i 0 (by omega)]; simp) (fun j u hu hj => by rw [zT1_t z j u hu, if_neg hj]) (fun k a b => by rw [zT1_o z (by omega), if_neg (by omega)])
    have hs1 : SetOK (zT1 z i) := hs.same (fun k hk => by rw [zT1_o z (by omega), if_neg (by omega)])
    have e : ∀ u, u < 13 → u ≠ 2 → u ≠ 3 → zT1 z i (tp i u) = z (tp i u) := fun u hu h2 h3 => by rw [zT1_t z i u hu]; simp [h2, h3]
    have hw1 : TxW (zT1 z i) i := by
      unfold TxW
      rw [e 1 (by omega) (by omega) (by omega), e 8 (by omega) (by omega) (by omega), e 9 (by omega) (by omega) (by omega), e 10 (by omega) (by omega) (by omega), e 11 (by omega) (by omega) (by omega), e 12 (by omega) (by omega) (by omega)]
      exact w
    have hm : m < 12 := by have := hX.lt hi; have := hl.2.1; omega
    have e11 : ix (z 11) = n := by rw [hl.1]; exact ix_nI (by have := hl.2.1; omega)
    have e12 : ix (z 12) = m := by rw [hl.2.2.1]; exact ix_nI (by omega)
    by_cases g2 : z (tp i 2) - 1 = 0
    · have e3 : zTick z i = zEnd (zT1 z i) i n m := by unfold zTick; rw [if_pos g, if_pos g2, e11, e12]
      rw [e3]
      exact ⟨fun q hq => by rw [zEnd_o _ hm (by omega), zT1_o z (by omega), if_neg (by omega)], fun j u hu hj => by rw [zEnd_ne _ j u hm hu hj, zT1_t z j u hu, if_neg hj], fun _ => zEnd_2 hm hs1 hw1⟩
    · have e3 : zTick z i = zT1 z i := by unfold zTick; rw [if_pos g, if_neg g2]
      rw [e3]
      refine ⟨fun q hq => by rw [zT1_o z (by omega), if_neg (by omega)], fun j u hu hj => by rw [zT1_t z j u hu, if_neg hj], fun hb => ?_⟩
      obtain ⟨b1, b2'⟩ := hb i hi
      unfold ML
      rw [zT1_t z i 2 (by omega), if_pos rfl, if_pos rfl, e 1 (by omega) (by omega) (by omega)]
      exact ⟨dec_le (M := 1000) (by omega) (wp h4) b1, fun q => dec_le (M := 200) (by omega) (wp h4) (b2' q)⟩
  · have e3 : zTick z i = z := by unfold zTick; rw [if_neg g]
    rw [e3]
    exact ⟨fun _ _ => rfl, fun _ _ _ _ => rfl, fun hb => hb i hi⟩
theorem EX.same {z z' : Nat → Int32} {n k b c : Nat} (h : EX z n k b c) (hk : k ≤ 15) (e5 : z' 5 = z 5) (e14 : z' 14 = z 14) (ew : ∀ j, 27 ≤ j → j < 72 → z' j = z j) (h2 : ∀ i, i < n → ML z' i) : EX z' n k b c := by
  obtain ⟨h1, h3, ⟨a, a1, a2, a3⟩, h4⟩ := h
  refine ⟨h2, by rw [e5]; exact h3, ⟨a, by rw [e14]; exact a1, a2, fun r hr => ?_⟩, fun r r' hr hr' => by rw [ew _ (by omega) (by omega), ew _ (by omega) (by omega)]; exact h4 r r' hr hr'⟩
  rw [ew _ (by omega) (by omega), ew _ (by omega) (by omega)]
  exact a3 r hr
theorem EX.tick {z : Nat → Int32} {n k b c i : Nat} (h : EX z n k b c) (hM : MV z n k) (hi : i < n) : EX (zTick z i) n k b c := by
  obtain ⟨t1, t2, t3⟩ := tick_o hM hi
  refine h.same hM.2.2.2.2.1 (t1 5 (by omega)) (t1 14 (by omega)) (fun j a b => t1 j (by omega)) (fun j hj => ?_)
  by_cases q : j = i
  · subst q; exact t3 h.1
  · exact (h.1 j hj).same (t2 j 1 (by omega) q) (t2 j 2 (by omega) q)
theorem ticks_o {z : Nat → Int32} {n k b c : Nat} (hM : MV z n k) (h : EX z n k b c) : ∀ i, i ≤ n → EX (zTs z i) n k b c ∧ ∀ q, (q < 15 ∧ q ≠ 12 ∧ q ≠ 9 ∧ q ≠ 6 ∧ q ≠ 10 ∨ 27 ≤ q ∧ q < 72) → zTs z i q = z q := by
  intro i
  induction i with
  | zero => intro _; exact ⟨h, fun _ _ => rfl⟩
  | succ i ih =>
    intro hi
    obtain ⟨a, b⟩ := ih (by omega)
    have hI := zTs_inv hM i (by omega)
    exact ⟨a.tick hI (by omega), fun q hq => ((tick_o hI (show i < n by omega)).1 q hq).trans (b q hq)⟩
/-- a passenger's place; nobody has the number -/
def AT (z : Nat → Int32) (k : Nat) (s t : Int32) (r : Nat) : Prop := r < k ∧ z (27 + 3 * r + 1) = t ∧ z (27 + 3 * r + 2) = s
def NT (z : Nat → Int32) (k : Nat) (s : Int32) : Prop := ∀ r, r < k → z (27 + 3 * r + 2) ≠ s
theorem AT.same {z z' : Nat → Int32} {k r : Nat} {s t : Int32} (h : AT z k s t r) (hk : k ≤ 15) (ew : ∀ j, 27 ≤ j → j < 72 → z' j = z j) : AT z' k s t r := by
  obtain ⟨a, b, c⟩ := h
  exact ⟨a, by rw [ew _ (by omega) (by omega)]; exact b, by rw [ew _ (by omega) (by omega)]; exact c⟩
theorem NT.same {z z' : Nat → Int32} {k : Nat} {s : Int32} (h : NT z k s) (hk : k ≤ 15) (ew : ∀ j, 27 ≤ j → j < 72 → z' j = z j) : NT z' k s := fun r hr => by
  rw [ew _ (by omega) (by omega)]; exact h r hr
theorem EX.goes {z : Nat → Int32} {n k b c r : Nat} (h : EX z n k b c) (hk : k ≤ 15) (hr : r < k) : EX (zGoes z r k) n (k - 1) b c := by
  obtain ⟨h1, h3, ⟨a, a1, a2, a3⟩, h4⟩ := h
  refine ⟨fun i hi => (h1 i hi).same (zGoes_t z i 1 hk) (zGoes_t z i 2 hk), by rw [zGoes_o z hk (by omega)]; exact h3, ⟨a, by rw [zGoes_o z hk (by omega)]; exact a1, a2, fun q hq => ?_⟩, fun q q' hq hq' e => ?_⟩
  · rw [zGoes_w z hq (by omega), zGoes_w z hq (by omega)]
    split
    · exact a3 q (by omega)
    · exact a3 (q + 1) (by omega)
  · rw [zGoes_w z hq (by omega), zGoes_w z hq' (by omega)] at e
    split at e <;> split at e
    · exact h4 q q' (by omega) (by omega) e
    · have := h4 q (q' + 1) (by omega) (by omega) e; omega
    · have := h4 (q + 1) q' (by omega) (by omega) e; omega
    · have := h4 (q + 1) (q' + 1) (by omega) (by omega) e; omega
theorem AT.goes1 {z : Nat → Int32} {k r r0 : Nat} {s t : Int32} (h : AT z k s t r0) (hk : k ≤ 15) (hr : r < k) (hlt : r0 < r) : AT (zGoes z r k) (k - 1) s t r0 := by
  obtain ⟨a, b, c⟩ := h
  refine ⟨by omega, ?_, ?_⟩
  · rw [zGoes_w z (by omega) (by omega), if_pos hlt]; exact b
  · rw [zGoes_w z (by omega) (by omega), if_pos hlt]; exact c
theorem AT.goes2 {z : Nat → Int32} {k r r0 : Nat} {s t : Int32} (h : AT z k s t r0) (hk : k ≤ 15) (hr : r < k) (hlt : r < r0) : AT (zGoes z r k) (k - 1) s t (r0 - 1) := by
  obtain ⟨a, b, c⟩ := h
  refine ⟨by omega, ?_, ?_⟩
  · rw [zGoes_w z (by omega) (by omega), if_neg (by omega), show r0 - 1 + 1 = r0 by omega]; exact b
  · rw [zGoes_w z (by omega) (by omega), if_neg (by omega), show r0 - 1 + 1 = r0 by omega]; exact c
theorem AT.gone {z : Nat → Int32} {n k b c r : Nat} {s t : Int32} (h : AT z k s t r) (hE : EX z n k b c) (hk : k ≤ 15) : NT (zGoes z r k) (k - 1) s := by
  obtain ⟨a, b, c⟩ := h
  intro q hq e
  rw [zGoes_w z hq (by omega)] at e
  split at e
  · have := hE.2.2.2 q r (by omega) a (e.trans c.symm); omega
  · have := hE.2.2.2 (q + 1) r (by omega) a (e.trans c.symm); omega
theorem NT.goes {z : Nat → Int32} {k r : Nat} {s : Int32} (h : NT z k s) (hk : k ≤ 15) (hr : r < k) : NT (zGoes z r k) (k - 1) s := by
  intro q hq
  rw [zGoes_w z hq (by omega)]
  split
  · exact h q (by omega)
  · exact h (q + 1) (by omega)
theorem dis_tk {n b c : Nat} (s : Int32) : ∀ r (z : Nat → Int32) k, MV z n k → EX z n k b c → r ≤ k → ∃ k', MV (zDis z r) n k' ∧ EX (zDis z r) n k' b c ∧ (zDis z r 1 = z 1 ∧ zDis z r 5 = z 5) ∧ (∀ t r0, AT z k s t r0 → ¬ z 1 ≤ z 5 - t → ∃ r', AT (zDis z r) k' s t r') ∧ (∀ t r0, AT z k s t r0 → r0 < r → z 1 ≤ z 5 - t → NT (zDis z r) k' s) ∧ (NT z k s → NT (zDis z r) k' s) := by
  intro r
  induction r with
  | zero => intro z k hM hE _; exact ⟨k, hM, hE, ⟨rfl, rfl⟩, fun t r0 h _ => ⟨r0, h⟩, fun t r0 _ h => absurd h (by omega), fun h => h⟩
  | succ r ih =>
    intro z k hM hE hr
    have hk := hM.2.2.2.2.1
    have e13 : ix (z 13) = k := by rw [hM.2.2.2.1]; exact ix_nI (by omega)
    by_cases g : z 1 ≤ z 5 - z (27 + 3 * r + 1)
    · have e : zDs z r = upd (zGoes z r k) 7 (z 7 + 1) := by unfold zDs; rw [if_pos g, e13]
      have hM1 := (hM.goes (show r < k by omega)).cnt 7 (by omega) (z 7 + 1)
      have u : ∀ j, j ≠ 7 → upd (zGoes z r k) 7 (z 7 + 1) j = zGoes z r k j := fun j hj => upd_n _ _ hj
      have hE1 : EX (upd (zGoes z r k) 7 (z 7 + 1)) n (k - 1) b c := (hE.goes hk (by omega)).same (by omega) (u 5 (by omega)) (u 14 (by omega)) (fun j a b => u j (by omega)) (fun i hi => ((hE.goes hk (by omega)).1 i hi).same (u _ (by have := tp_ge i 1; omega)) (u _ (by have := tp_ge i 2; omega)))
      have uw : ∀ j, 27 ≤ j → j < 72 → upd (zGoes z r k) 7 (z 7 + 1) j = zGoes z r k j := fun j a b => u j (by omega)
      obtain ⟨k', i1, i2, ⟨i3, i4⟩, i5, i6, i7⟩ := ih _ (k - 1) hM1 hE1 (by omega)
      have e1 : upd (zGoes z r k) 7 (z 7 + 1) 1 = z 1 := by rw [u 1 (by omega), zGoes_o z hk (by omega)]
      have e5 : upd (zGoes z r k) 7 (z 7 + 1) 5 = z 5 := by rw [u 5 (by omega), zGoes_o z hk (by omega)]
      rw [e1] at i3 i5 i6
      rw [e5] at i4 i5 i6
      have ez : zDis z (r + 1) = zDis (upd (zGoes z r k) 7 (z 7 + 1)) r := by show zDis (zDs z r) r = _; rw [e]
      rw [ez]
      refine ⟨k', i1, i2, ⟨i3, i4⟩, fun t r0 h hp => ?_, fun t r0 h hlt hp => ?_, fun h => i7 ((h.goes hk (by omega)).same (by omega) uw)⟩
      · rcases Nat.lt_trichotomy r0 r with q | q | q
        · exact i5 t r0 ((h.goes1 hk (by omega) q).same (by omega) uw) hp
        · subst q
          rw [h.2.1] at g
          exact absurd g hp
        · exact i5 t (r0 - 1) ((h.goes2 hk (by omega) q).same (by omega) uw) hp
      · by_cases q : r0 = r
        · subst q
          exact i7 ((h.gone hE hk).same (by omega) uw)
        · exact i6 t r0 ((h.goes1 hk (by omega) (by omega)).same (by omega) uw) (by omega) hp
    · have e : zDs z r = z := by unfold zDs; rw [if_neg g]
      obtain ⟨k', i1, i2, i3, i5, i6, i7⟩ := ih z k hM hE (by omega)
      have ez : zDis z (r + 1) = zDis z r := by show zDis (zDs z r) r = _; rw [e]
      rw [ez]
      refine ⟨k', i1, i2, i3, i5, fun t r0 h hlt hp => ?_, i7⟩
      by_cases q : r0 = r
      · subst q
        rw [h.2.1] at g
        exact absurd hp g
      · exact i6 t r0 h (by omega) hp
theorem zOff_2 {z : Nat → Int32} {n m k t : Nat} {b : Int32} (hM : MV z n k) (hm : m ≤ 12) (hp : plF z (z (tp t 0)) m < m) (hb : Pl b) : ML (zOff z t m b) t := by
  refine ML.of ?_
  unfold zOff
  rw [zRide_t _ t 2 (by omega), if_pos rfl, if_neg (by omega), if_pos rfl, zFare_t _ _ _ _ t 11 (by omega), zFare_t _ _ _ _ t 10 (by omega), zFare_o _ _ _ _ (by omega), zLeave_o z (k := 0) hm hp (by omega)]
  simp only [if_true, show ¬ (11 : Nat) = 4 by omega, show ¬ (11 : Nat) = 5 by omega, show ¬ (11 : Nat) = 12 by omega, show ¬ (11 : Nat) = 10 by omega, show ¬ (10 : Nat) = 4 by omega, show ¬ (10 : Nat) = 5 by omega, show ¬ (10 : Nat) = 12 by omega, if_false]
  exact way_le Pl10 hb hM.2.2.1.1
theorem sit_ex {z : Nat → Int32} {n m k t r b c : Nat} (hM : MV z n k) (hE : EX z n k b c) (hl : Ln z n m) (hr : r < k) (hrd : rider z n m (z (27 + 3 * r)) = some t) : ∃ w, zSit z t r = zGoes w r k ∧ MV (zSit z t r) n (k - 1) ∧ EX w n k b c ∧ (∀ j, 27 ≤ j → j < 72 → w j = z j) ∧ w 1 = z 1 ∧ w 5 = z 5 := by
  obtain ⟨a, b', c', d⟩ := rider_in hl hrd
  have hm : m ≤ 12 := hl.2.2.2.2.2.2.2
  have hk := hM.2.2.2.2.1
  obtain ⟨p1, p2⟩ := plF_ok z (z (tp t 0)) m d
  have o : ∀ q, (q < 15 ∧ q ≠ 12 ∧ q ≠ 6 ∨ 27 ≤ q ∧ q < 72) → zOff z t m (z (27 + 3 * r)) q = z q := fun q hq => by rw [zOff_o z hm p1 (by omega), if_neg (by omega)]
  refine ⟨zOff z t m (z (27 + 3 * r)), ?_, hM.sit hl hr hrd, hE.same hk (o 5 (by omega)) (o 14 (by omega)) (fun j x y => o j (by omega)) (fun i hi => ?_), fun j x y => o j (by omega), o 1 (by omega), o 5 (by omega)⟩
  · unfold zSit
    rw [show ix (z 12) = m by rw [hl.2.2.1]; exact ix_nI (by omega), show ix (z 13) = k by rw [hM.2.2.2.1]; exact ix_nI (by omega)]
  · by_cases q : i = t
    · subst q; exact zOff_2 hM hm p1 (hM.2.2.2.2.2 r hr).1
    · exact (hE.1 i hi).same (zOff_t z i 1 hm p1 (by omega) q) (zOff_t z i 2 hm p1 (by omega) q)
theorem seat_tk {n b c : Nat} (s : Int32) : ∀ d r (z : Nat → Int32) k hr, MV z n k → EX z n k b c → r + d = k → (hr = 0 ∨ hr = 1) → ∃ k', MV (seat s d z hr r).1 n k' ∧ EX (seat s d z hr r).1 n k' b c ∧ ((seat s d z hr r).1 1 = z 1 ∧ (seat s d z hr r).1 5 = z 5) ∧ (∀ t r0, AT z k s t r0 → r ≤ r0 → ((∃ r', AT (seat s d z hr r).1 k' s t r') ∧ (seat s d z hr r).2 = hr) ∨ (NT (seat s d z hr r).1 k' s ∧ (seat s d z hr r).2 = 1)) ∧ (∀ t r0, AT z k s t r0 → r0 < r → (∃ r', AT (seat s d z hr r).1 k' s t r') ∧ (seat s d z hr r).2 = hr) ∧ (NT z k s → NT (seat s d z hr r).1 k' s ∧ (seat s d z hr r).2 = hr) := by
  intro d
  induction d with
  | zero =>
    intro r z k hr hM hE he _
    exact ⟨k, hM, hE, ⟨rfl, rfl⟩, fun t r0 h hle => absurd h.1 (by omega), fun t r0 h _ => ⟨⟨r0, h⟩, rfl⟩, fun h => ⟨h, rfl⟩⟩
  | succ d ih =>
    intro r z k hr hM hE he hh
    obtain ⟨⟨m, hl⟩, -⟩ := id hM
    have hk := hM.2.2.2.2.1
    have e11 : ix (z 11) = n := by rw [hl.1]; exact ix_nI (by have := hl.2.1; omega)
    have e12 : ix (z 12) = m := by rw [hl.2.2.1]; exact ix_nI (by have := hl.2.2.2.2.2.2.2; omega)
    cases hrd : rider z n m (z (27 + 3 * r)) with
    | none =>
      have es : seat s (d + 1) z hr r = seat s d z hr (r + 1) := by simp only [seat, e11, e12, hrd]
      rw [es]
      obtain ⟨k', i1, i2, i3, i4, i5, i6⟩ := ih (r + 1) z k hr hM hE (by omega) hh
      refine ⟨k', i1, i2, i3, fun t r0 h hle => ?_, fun t r0 h hlt => i5 t r0 h (by omega), i6⟩
      by_cases q : r0 = r
      · exact Or.inl (i5 t r0 h (by omega))
      · exact i4 t r0 h (by omega)
    | some t0 =>
      have es : seat s (d + 1) z hr r = seat s d (zSit z t0 r) (b2 (¬ hr = 0 ∨ z (27 + 3 * r + 2) = s)) r := by simp only [seat, e11, e12, hrd]
      rw [es]
      obtain ⟨w, w1, w2, w3, w4, w5, w6⟩ := sit_ex hM hE hl (show r < k by omega) hrd
      have hE2 : EX (zSit z t0 r) n (k - 1) b c := by rw [w1]; exact w3.goes hk (by omega)
      obtain ⟨k', i1, i2, ⟨i3, i3'⟩, i4, i5, i6⟩ := ih r (zSit z t0 r) (k - 1) (b2 (¬ hr = 0 ∨ z (27 + 3 * r + 2) = s)) w2 hE2 (by omega) b2_01
      have e1 : zSit z t0 r 1 = z 1 := by rw [w1, zGoes_o w hk (by omega)]; exact w5
      have e5 : zSit z t0 r 5 = z 5 := by rw [w1, zGoes_o w hk (by omega)]; exact w6
      have ne : z (27 + 3 * r + 2) ≠ s → b2 (¬ hr = 0 ∨ z (27 + 3 * r + 2) = s) = hr := fun q => by
        rcases hh with rfl | rfl
        · exact b2_f (fun c => c.elim (fun x => x rfl) q)
        · exact b2_t (Or.inl (by decide))
      refine ⟨k', i1, i2, ⟨i3.trans e1, i3'.trans e5⟩, fun t r1 h hle => ?_, fun t r1 h hlt => ?_, fun h => ?_⟩
      · by_cases q : r1 = r
        · subst q
          have e : b2 (¬ hr = 0 ∨ z (27 + 3 * r1 + 2) = s) = 1 := b2_t (Or.inr h.2.2)
          have hn : NT (zSit z t0 r1) (k - 1) s := by rw [w1]; exact (h.same hk w4).gone w3 hk
          obtain ⟨x, y⟩ := i6 hn
          exact Or.inr ⟨x, y.trans e⟩
        · have hs : z (27 + 3 * r + 2) ≠ s := fun e => q (hE.2.2.2 r1 r h.1 (by omega) (h.2.2.trans e.symm))
          have ha : AT (zSit z t0 r) (k - 1) s t (r1 - 1) := by rw [w1]; exact (h.same hk w4).goes2 hk (by omega) (by omega)
          have := i4 t (r1 - 1) ha (by omega)
          rw [ne hs] at this ⊢
          exact this
      · have hs : z (27 + 3 * r + 2) ≠ s := fun e => by have := hE.2.2.2 r1 r h.1 (by omega) (h.2.2.trans e.symm); omega
        have ha : AT (zSit z t0 r) (k - 1) s t r1 := by rw [w1]; exact (h.same hk w4).goes1 hk (by omega) hlt
        have := i5 t r1 ha hlt
        rw [ne hs] at this ⊢
        exact this
      · have hn : NT (zSit z t0 r) (k - 1) s := by rw [w1]; exact (h.same hk w4).goes hk (by omega)
        have := i6 hn
        rw [ne (h r (by omega))] at this ⊢
        exact this
theorem seat_1 (s s' : Int32) : ∀ d (z : Nat → Int32) hr hr' r, (seat s d z hr r).1 = (seat s' d z hr' r).1 := by
  intro d
  induction d with
  | zero => intro z hr hr' r; rfl
  | succ d ih =>
    intro z hr hr' r
    cases h : rider z (ix (z 11)) (ix (z 12)) (z (27 + 3 * r)) with
    | none => simp only [seat, h]; exact ih _ _ _ _
    | some t => simp only [seat, h]; exact ih _ _ _ _
def zMn (z : Nat → Int32) : Nat → Int32 := (zMin 0 z 0).1
theorem zMin_1 (s : Int32) (z : Nat → Int32) (hr : Int32) : (zMin s z hr).1 = zMn z := seat_1 _ _ _ _ _ _ _
theorem EX.clock {z : Nat → Int32} {n k b c : Nat} (h : EX z n k b c) (hk : k ≤ 15) : EX (upd z 5 (z 5 + 1)) n k b (c + 1) := by
  obtain ⟨h1, h3, ⟨a, a1, a2, a3⟩, h4⟩ := h
  have u : ∀ j, j ≠ 5 → upd z 5 (z 5 + 1) j = z j := fun j hj => upd_n _ _ hj
  refine ⟨fun i hi => (h1 i hi).same (u _ (by have := tp_ge i 1; omega)) (u _ (by have := tp_ge i 2; omega)), by rw [upd_e, h3, nI_up], ⟨a, by rw [u 14 (by omega)]; exact a1, a2, fun r hr => ?_⟩, fun r r' hr hr' => by rw [u _ (by omega), u _ (by omega)]; exact h4 r r' hr hr'⟩
  obtain ⟨t, q, x, y, w, v⟩ := a3 r hr
  exact ⟨t, q, by rw [u _ (by omega)]; exact x, by omega, by rw [u _ (by omega)]; exact w, v⟩
theorem min_tk {z : Nat → Int32} {n k b c : Nat} (s hr : Int32) (hM : MV z n k) (hE : EX z n k b c) (hh : hr = 0 ∨ hr = 1) : ∃ k', MV (zMin s z hr).1 n k' ∧ EX (zMin s z hr).1 n k' b (c + 1) ∧ ((zMin s z hr).1 1 = z 1 ∧ (zMin s z hr).1 5 = z 5 + 1) ∧ (∀ t r0, AT z k s t r0 → ¬ z 1 ≤ z 5 + 1 - t → ((∃ r', AT (zMin s z hr).1 k' s t r') ∧ (zMin s z hr).2 = hr) ∨ (NT (zMin s z hr).1 k' s ∧ (zMin s z hr).2 = 1)) ∧ (∀ t r0, AT z k s t r0 → z 1 ≤ z 5 + 1 - t → NT (zMin s z hr).1 k' s ∧ (zMin s z hr).2 = hr) := by
  have hk := hM.2.2.2.2.1
  have hM1 := hM.clock (z 5 + 1)
  have hE1 := hE.clock hk
  have hn := hM.n
  have e11 : ix (z 11) = n := by rw [hn.1]; exact ix_nI (by omega)
  have e13 : ix (z 13) = k := by rw [hM.2.2.2.1]; exact ix_nI (by omega)
  have hM2 := zTs_inv hM1 n (Nat.le_refl n)
  obtain ⟨hE2, o2⟩ := ticks_o hM1 hE1 n (Nat.le_refl n)
  obtain ⟨k3, hM3, hE3, ⟨d1, d5⟩, d6, d7, d8⟩ := dis_tk s k _ k hM2 hE2 (Nat.le_refl k)
  have e3 : zDis (zTs (upd z 5 (z 5 + 1)) n) k = zM3 z := by simp only [zM3, e11, e13]
  rw [e3] at hM3 hE3 d1 d5 d6 d7 d8
  have ep : zTs (upd z 5 (z 5 + 1)) n 1 = z 1 := by rw [o2 1 (by omega), upd_n _ _ (by omega)]
  have ec : zTs (upd z 5 (z 5 + 1)) n 5 = z 5 + 1 := by rw [o2 5 (by omega), upd_e]
  rw [ep] at d1 d6 d7
  rw [ec] at d5 d6 d7
  have e13' : ix (zM3 z 13) = k3 := by rw [hM3.2.2.2.1]; exact ix_nI (by have := hM3.2.2.2.2.1; omega)
  obtain ⟨k', s1, s2, ⟨s3, s4⟩, s5, s6, s7⟩ := seat_tk s k3 0 (zM3 z) k3 hr hM3 hE3 (by omega) hh
  have em : zMin s z hr = seat s k3 (zM3 z) hr 0 := by simp only [zMin, e13']
  rw [em]
  have aw : ∀ j, 27 ≤ j → j < 72 → zTs (upd z 5 (z 5 + 1)) n j = z j := fun j x y => by rw [o2 j (by omega), upd_n _ _ (by omega)]
  refine ⟨k', s1, s2, ⟨s3.trans d1, s4.trans d5⟩, fun t r0 h hp => ?_, fun t r0 h hp => ?_⟩
  · obtain ⟨r', h'⟩ := d6 t r0 (h.same hk aw) hp
    exact s5 t r' h' (by omega)
  · exact s7 (d7 t r0 (h.same hk aw) h.1 hp)

