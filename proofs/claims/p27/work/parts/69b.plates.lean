/-! plates stay; what is paid in a minute -/
theorem zBack_0 (z : Nat → Int32) {i n m : Nat} (hm : m < 12) : zBack z i n m (tp i 0) = z (tp i 0) := by
  unfold zBack
  split
  · rw [upd_t _ _ _ _ _ _ (by omega) (by omega), if_neg (by omega), upd_t _ _ _ _ _ _ (by omega) (by omega), if_neg (by omega)]
  · split
    · rw [zQuick_t z i 0 hm (qO_m z n m) (by omega)]
      simp
    · rw [zStand_t z i 0 hm (Nat.le_refl m) (by omega), if_neg (by omega)]
theorem zEnd_0 (z : Nat → Int32) {i n m : Nat} (hm : m < 12) : zEnd z i n m (tp i 0) = z (tp i 0) := by
  unfold zEnd
  split
  · rw [zRide_t z i 0 (by omega)]; simp
  · split
    · unfold zPaid
      split
      · rw [zBack_0 _ hm, zPaid1_t z i 0 (by omega), if_neg (by omega)]
      · rw [upd_t _ _ _ _ _ _ (by omega) (by omega), if_neg (by omega), upd_t _ _ _ _ _ _ (by omega) (by omega), if_neg (by omega), upd_t _ _ _ _ _ _ (by omega) (by omega), if_neg (by omega), zPaid1_t z i 0 (by omega), if_neg (by omega)]
    · split
      · exact zBack_0 _ hm
      · rw [zStand_t _ i 0 hm (Nat.le_refl m) (by omega), if_neg (by omega), upd_t _ _ _ _ _ _ (by omega) (by omega), if_neg (by omega)]
theorem fare_tab : ∀ x, x < 21 → ∀ y, y < 21 → fare32 (nI x) (nI y) = nI ((fare32 (nI x) (nI y)).toNatClampNeg) ∧ (fare32 (nI x) (nI y)).toNatClampNeg ≤ 270 := by decide +kernel
theorem fare_b {f t : Int32} (hf : Pl f) (ht : Pl t) : ∃ e, e ≤ 270 ∧ fare32 f t = nI e := by
  obtain ⟨x, hx, rfl⟩ := hf.nat
  obtain ⟨y, hy, rfl⟩ := ht.nat
  obtain ⟨a, b⟩ := fare_tab x (by omega) y (by omega)
  exact ⟨_, b, a⟩
theorem add_nI0 (x : Int32) : x = x + nI 0 := (Int32.add_zero x).symm
theorem zEnd_9 {z : Nat → Int32} {i n m : Nat} (hm : m < 12) (hw : TxW z i) : ∃ e, e ≤ 270 ∧ zEnd z i n m 9 = z 9 + nI e := by
  obtain ⟨w1, w2, w3, w4, w5, w6⟩ := hw
  unfold zEnd
  split
  · exact ⟨0, by omega, by rw [zRide_o z (by omega), if_neg (by omega)]; exact add_nI0 _⟩
  · split
    · next g =>
      have h := w5 (Or.inr g)
      obtain ⟨e, he, ef⟩ := fare_b h.1 h.2.1
      refine ⟨e, he, ?_⟩
      unfold zPaid
      split
      · rw [zBack_o _ hm (by omega), zPaid1_o z (by omega), if_pos rfl, ef]
      · rw [upd_l _ _ _ _ (by omega), upd_l _ _ _ _ (by omega), upd_l _ _ _ _ (by omega), zPaid1_o z (by omega), if_pos rfl, ef]
    · split
      · exact ⟨0, by omega, by rw [zBack_o _ hm (by omega)]; exact add_nI0 _⟩
      · exact ⟨0, by omega, by rw [zStand_o _ hm (Nat.le_refl m) (by omega), upd_l _ _ _ _ (by omega)]; exact add_nI0 _⟩
theorem tick_p {z : Nat → Int32} {n k i : Nat} (h : MV z n k) (hi : i < n) : (∀ j, zTick z i (tp j 0) = z (tp j 0)) ∧ ∃ e, e ≤ 270 ∧ zTick z i 9 = z 9 + nI e := by
  obtain ⟨⟨m, hl⟩, ht, hs, hk, hk2, hw⟩ := id h
  have hne := (tick_o h hi).2.1
  by_cases g : 1 ≤ z (tp i 1) ∧ z (tp i 1) ≤ 4
  · have hd : ¬ z (tp i 1) = 0 := fun q => by rw [q] at g; exact absurd g.1 (by decide)
    obtain ⟨w, wp⟩ := ht i hi
    have hX : LnX (zT1 z i) n m i := fld_same (LnX.out hl hi hd) (by rw [zT1_t z i 0 (by omega)]; simp) (fun j u hu hj => by rw [zT1_t z j u hu, if_neg hj]) (fun k a b => by rw [zT1_o z (by omega), if_neg (by omega)])
    have e : ∀ u, u < 13 → u ≠ 2 → u ≠ 3 → zT1 z i (tp i u) = z (tp i u) := fun u hu h2 h3 => by rw [zT1_t z i u hu]; simp [h2, h3]
    have hw1 : TxW (zT1 z i) i := by
      unfold TxW
      rw [e 1 (by omega) (by omega) (by omega), e 8 (by omega) (by omega) (by omega), e 9 (by omega) (by omega) (by omega), e 10 (by omega) (by omega) (by omega), e 11 (by omega) (by omega) (by omega), e 12 (by omega) (by omega) (by omega)]
      exact w
    have hm : m < 12 := by have := hX.lt hi; have := hl.2.1; omega
    have e11 : ix (z 11) = n := by rw [hl.1]; exact ix_nI (by have := hl.2.1; omega)
    have e12 : ix (z 12) = m := by rw [hl.2.2.1]; exact ix_nI (by omega)
    by_cases g2 : z (tp i 2) - 1 = 0
    · have e3 : zTick z i = zEnd (zT1 z i) i n m := by unfold zTick; rw [if_pos g, if_pos g2, e11, e12]
      refine ⟨fun j => ?_, ?_⟩
      · by_cases q : j = i
        · subst q
          rw [e3, zEnd_0 _ hm, e 0 (by omega) (by omega) (by omega)]
        · exact hne j 0 (by omega) q
      · rw [e3]
        obtain ⟨f, f1, f2⟩ := zEnd_9 (n := n) hm hw1
        exact ⟨f, f1, by rw [f2, zT1_o z (by omega), if_neg (by omega)]⟩
    · have e3 : zTick z i = zT1 z i := by unfold zTick; rw [if_pos g, if_neg g2]
      refine ⟨fun j => ?_, 0, by omega, ?_⟩
      · by_cases q : j = i
        · subst q
          rw [e3, e 0 (by omega) (by omega) (by omega)]
        · exact hne j 0 (by omega) q
      · rw [e3, zT1_o z (by omega), if_neg (by omega)]; exact add_nI0 _
  · have e3 : zTick z i = z := by unfold zTick; rw [if_neg g]
    rw [e3]
    exact ⟨fun _ => rfl, 0, by omega, add_nI0 _⟩
theorem ticks_p {z : Nat → Int32} {n k : Nat} (h : MV z n k) : ∀ i, i ≤ n → (∀ j, zTs z i (tp j 0) = z (tp j 0)) ∧ ∃ e, e ≤ 270 * i ∧ zTs z i 9 = z 9 + nI e := by
  intro i
  induction i with
  | zero => intro _; exact ⟨fun _ => rfl, 0, by omega, add_nI0 _⟩
  | succ i ih =>
    intro hi
    obtain ⟨a, e, e1, e2⟩ := ih (by omega)
    obtain ⟨b, f, f1, f2⟩ := tick_p (zTs_inv h i (by omega)) (show i < n by omega)
    refine ⟨fun j => (b j).trans (a j), e + f, by omega, ?_⟩
    show zTick (zTs z i) i 9 = _
    rw [f2, e2, Int32.add_assoc, nI_add]
theorem dis_p {n : Nat} : ∀ r (z : Nat → Int32) k, MV z n k → r ≤ k → (∀ j, zDis z r (tp j 0) = z (tp j 0)) ∧ zDis z r 9 = z 9 := by
  intro r
  induction r with
  | zero => intro z k _ _; exact ⟨fun _ => rfl, rfl⟩
  | succ r ih =>
    intro z k hM hr
    have hk := hM.2.2.2.2.1
    have e13 : ix (z 13) = k := by rw [hM.2.2.2.1]; exact ix_nI (by omega)
    obtain ⟨k', a, b⟩ := hM.ds (r := r) (by omega)
    obtain ⟨x, y⟩ := ih _ k' a b
    have e : (∀ j, zDs z r (tp j 0) = z (tp j 0)) ∧ zDs z r 9 = z 9 := by
      unfold zDs
      split
      · rw [e13]
        exact ⟨fun j => by rw [upd_n _ _ (by have := tp_ge j 0; omega), zGoes_t z j 0 hk], by rw [upd_n _ _ (by omega), zGoes_o z hk (by omega)]⟩
      · exact ⟨fun _ => rfl, rfl⟩
    exact ⟨fun j => (x j).trans (e.1 j), y.trans e.2⟩
theorem seat_p {n : Nat} : ∀ d r (z : Nat → Int32) k hr, MV z n k → r + d = k → (∀ j, (seat 0 d z hr r).1 (tp j 0) = z (tp j 0)) ∧ (seat 0 d z hr r).1 9 = z 9 := by
  intro d
  induction d with
  | zero => intro r z k hr _ _; exact ⟨fun _ => rfl, rfl⟩
  | succ d ih =>
    intro r z k hr hM he
    obtain ⟨⟨m, hl⟩, -⟩ := id hM
    have hk := hM.2.2.2.2.1
    have hm := hl.2.2.2.2.2.2.2
    have e11 : ix (z 11) = n := by rw [hl.1]; exact ix_nI (by have := hl.2.1; omega)
    have e12 : ix (z 12) = m := by rw [hl.2.2.1]; exact ix_nI (by omega)
    have e13 : ix (z 13) = k := by rw [hM.2.2.2.1]; exact ix_nI (by omega)
    cases hrd : rider z n m (z (27 + 3 * r)) with
    | none =>
      have es : seat 0 (d + 1) z hr r = seat 0 d z hr (r + 1) := by simp only [seat, e11, e12, hrd]
      rw [es]
      exact ih (r + 1) z k hr hM (by omega)
    | some t0 =>
      have es : seat 0 (d + 1) z hr r = seat 0 d (zSit z t0 r) (b2 (¬ hr = 0 ∨ z (27 + 3 * r + 2) = 0)) r := by simp only [seat, e11, e12, hrd]
      rw [es]
      obtain ⟨x, y⟩ := ih r (zSit z t0 r) (k - 1) _ (hM.sit hl (by omega) hrd) (by omega)
      obtain ⟨a, -, -, c⟩ := rider_in hl hrd
      obtain ⟨p1, p2⟩ := plF_ok z (z (tp t0 0)) m c
      have ez : zSit z t0 r = zGoes (zOff z t0 m (z (27 + 3 * r))) r k := by unfold zSit; rw [e12, e13]
      refine ⟨fun j => ?_, ?_⟩
      · rw [x j, ez, zGoes_t _ j 0 hk]
        by_cases q : j = t0
        · subst q
          unfold zOff
          rw [zRide_t _ j 0 (by omega), zFare_t _ _ _ _ j 0 (by omega), zLeave_t z j 0 hm p1 (by omega)]
          simp
        · exact zOff_t z j 0 hm p1 (by omega) q
      · rw [y, ez, zGoes_o _ hk (by omega), zOff_o z hm p1 (by omega), if_neg (by omega)]
theorem mn_p {z : Nat → Int32} {n k : Nat} (hM : MV z n k) : (∀ j, zMn z (tp j 0) = z (tp j 0)) ∧ ∃ e, e ≤ 3240 ∧ zMn z 9 = z 9 + nI e := by
  have hM1 := hM.clock (z 5 + 1)
  have hn := hM.n
  have hk := hM.2.2.2.2.1
  have e11 : ix (z 11) = n := by rw [hn.1]; exact ix_nI (by omega)
  have e13 : ix (z 13) = k := by rw [hM.2.2.2.1]; exact ix_nI (by omega)
  have hM2 := zTs_inv hM1 n (Nat.le_refl n)
  obtain ⟨a1, e, a2, a3⟩ := ticks_p hM1 n (Nat.le_refl n)
  obtain ⟨b1, b2'⟩ := dis_p k _ k hM2 (Nat.le_refl k)
  have key : ∀ r k (w : Nat → Int32), MV w n k → r ≤ k → ∃ k3, MV (zDis w r) n k3 := by
    intro r
    induction r with
    | zero => intro k w hw _; exact ⟨k, hw⟩
    | succ r ih =>
      intro k w hw hr
      obtain ⟨k', a, b⟩ := hw.ds (r := r) (by omega)
      exact ih k' _ a b
  obtain ⟨k3, hM3⟩ := key k k _ hM2 (Nat.le_refl k)
  have e3 : zDis (zTs (upd z 5 (z 5 + 1)) n) k = zM3 z := by simp only [zM3, e11, e13]
  rw [e3] at hM3 b1 b2'
  have e13' : ix (zM3 z 13) = k3 := by rw [hM3.2.2.2.1]; exact ix_nI (by have := hM3.2.2.2.2.1; omega)
  have em : zMn z = (seat 0 k3 (zM3 z) 0 0).1 := by simp only [zMn, zMin, e13']
  obtain ⟨c1, c2⟩ := seat_p k3 0 (zM3 z) k3 0 hM3 (by omega)
  refine ⟨fun j => ?_, e, by omega, ?_⟩
  · rw [em, c1 j, b1 j, a1 j, upd_n _ _ (by have := tp_ge j 0; omega)]
  · rw [em, c2, b2', a3, upd_n _ _ (by omega)]
theorem it_p {z : Nat → Int32} {n k : Nat} (hM : MV z n k) : ∀ i, (∃ k', MV (zIt z i) n k') ∧ (∀ j, zIt z i (tp j 0) = z (tp j 0)) ∧ ∃ e, e ≤ 3240 * i ∧ zIt z i 9 = z 9 + nI e := by
  intro i
  induction i with
  | zero => exact ⟨⟨k, hM⟩, fun _ => rfl, 0, by omega, add_nI0 _⟩
  | succ i ih =>
    obtain ⟨⟨k', m⟩, a, e, e1, e2⟩ := ih
    obtain ⟨b, f, f1, f2⟩ := mn_p m
    refine ⟨m.mn0, fun j => (b j).trans (a j), e + f, by omega, ?_⟩
    show zMn (zIt z i) 9 = _
    rw [f2, e2, Int32.add_assoc, nI_add]
theorem pass_nn {z : Nat → Int32} {n k : Nat} (hM : MV z n k) {x : Int32} {c : Nat} (h5 : z 5 = nI c) (hc : c ≤ 99999) (h : whyP z x = 0) : ¬ zIt z (ix x) 9 - z 9 < 0 := by
  obtain ⟨N, h1, h2, rfl, h3⟩ := whyP_0 h5 hc h
  rw [ix_nI (by omega)]
  obtain ⟨-, -, e, e1, e2⟩ := it_p hM N
  rw [e2, Int32.add_comm, Int32.add_sub_cancel]
  exact nI_pos (by omega)
/-- plates are no less than 0 -/
def PV (z : Nat → Int32) (n : Nat) : Prop := ∀ t, t < n → ¬ z (tp t 0) < 0
theorem PV.same {z z' : Nat → Int32} {n : Nat} (h : PV z n) (e : ∀ t, t < n → z' (tp t 0) = z (tp t 0)) : PV z' n := fun t ht => by rw [e t ht]; exact h t ht
theorem PV.it {z : Nat → Int32} {n k : Nat} (h : PV z n) (hM : MV z n k) (i : Nat) : PV (zIt z i) n := h.same (fun t _ => (it_p hM i).2.1 t)
theorem PV.join {z : Nat → Int32} {n k : Nat} (h : PV z n) (hk : z 13 = nI k) (hk2 : k < 15) (to : Int32) : PV (zJoin z to) n := h.same (fun t _ => zJoin_o z to (by rw [hk, ix_nI (by omega)]; have := tp_ge t 0; omega))
theorem PV.set {z : Nat → Int32} {n j : Nat} (h : PV z n) (hj : j < 5) (v : Int32) : PV (upd z j v) n := h.same (fun t _ => upd_n _ _ (by have := tp_ge t 0; omega))
theorem PV.home {z : Nat → Int32} {n m i : Nat} (h : PV z n) (hL : Ln z n m) (hi : i < n) : PV (zHm z i m) n := h.same (fun t _ => by
  rw [zHm_t hL hi t 0 (by omega)]
  by_cases q : t = i
  · subst q; simp
  · rw [if_neg q])
theorem PV.call {z : Nat → Int32} {n m t : Nat} (h : PV z n) (hL : Ln z n m) (ht : t < n) (f to : Int32) : PV (zCl z t f to m) n := h.same (fun j _ => by
  have e : wCl z t f to m (tp j 0) = z (tp j 0) := wCl_t hL ht f to j 0 (by omega) (by omega)
  unfold zCl
  split
  · rw [zRide_t _ j 0 (by omega)]
    by_cases q : j = t
    · subst q; simp; exact e
    · rw [if_neg q]; exact e
  · rw [upd_t _ _ _ _ _ _ (by omega) (by omega), if_neg (by omega), upd_t _ _ _ _ _ _ (by omega) (by omega), if_neg (by omega)]
    exact e)
theorem we1_0 {z : Nat → Int32} {n m i : Nat} (hX : LnX z n m i) (hi : i < n) (t : Nat) : zWe1 z i m (tp t 0) = z (tp t 0) := by
  have hm : m < 12 := by have := hX.lt hi; have := hX.2.1; omega
  unfold zWe1
  rw [zStand_t _ t 0 hm (Nat.le_refl m) (by omega), if_neg (by omega), upd_t _ _ _ _ _ _ (by omega) (by omega), if_neg (by omega)]
theorem PV.wel {z : Nat → Int32} {n m : Nat} {p : Int32} (h : PV z n) (hL : Ln z n m) (hw : whyW z n p = 0) : PV (zWel z n m p) (nWel z n p) := by
  unfold whyW at hw
  by_cases g : 0 ≤ p ∧ p ≤ 999
  · rw [if_neg (fun q => q g)] at hw
    unfold zWel nWel
    cases hf : ftz z p n with
    | none =>
      rw [hf] at hw
      simp only at hw ⊢
      have hn : n ≠ 12 := fun q => by rw [if_pos q] at hw; exact absurd hw (by decide)
      have hn2 := hL.2.1
      have hX := LnX.ins hL (by omega) (ftz_n hf)
      have hi : insAt z p n < n + 1 := by have := insAt_le z p n; omega
      have key : PV (zIns z p n) (n + 1) := fun t ht => by
        by_cases q : t = insAt z p n
        · rw [q, ins_q z p (by omega), if_pos rfl]
          exact Int32.not_lt.mpr g.1
        · obtain ⟨i0, i1, _, i3⟩ := ins_dn z p ht q
          rw [i3 0 (by omega)]
          exact h i0 i1
      exact key.same (fun t _ => we1_0 hX hi t)
    | some i =>
      rw [hf] at hw
      simp only at hw ⊢
      obtain ⟨hi, -⟩ := ftz_s hf
      have h5 : z (tp i 1) = 5 := Decidable.byContradiction (fun q => by rw [if_neg q] at hw; exact absurd hw (by decide))
      have hX := LnX.out hL hi (by rw [h5]; decide)
      exact h.same (fun t _ => we1_0 hX hi t)
  · rw [if_pos g] at hw
    exact absurd hw (by decide)

