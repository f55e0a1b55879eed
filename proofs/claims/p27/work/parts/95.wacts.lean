/-! p27: the acts and the accounts -/
theorem WZ.join {z : Nat → Int32} {n k b : Nat} (h : WZ z n b) (hk : z 13 = nI k) (hk15 : k < 15) (to : Int32) : WZ (zJoin z to) n b := by
  have e13 : ix (z 13) = k := by rw [hk]; exact ix_nI (by omega)
  exact h.same (fun t u _ => zJoin_o z to (by have := tp_ge t u; omega)) (fun q hq => zJoin_o z to (by omega))
theorem CR.join {z : Nat → Int32} {n k bd c : Nat} (h : CR z k) (hE : EX z n k bd c) (hk : z 13 = nI k) (hk15 : k < 15) (hc : c ≤ 99999) (to : Int32) : CR (zJoin z to) (k + 1) := by
  have e13 : ix (z 13) = k := by rw [hk]; exact ix_nI (by omega)
  obtain ⟨w1, w2, w3⟩ := zJoin_w z to
  rw [e13] at w2
  intro r hr
  by_cases q : r + 1 < k
  · rw [zJoin_o z to (by omega), zJoin_o z to (by omega)]
    exact h r q
  · have e : k = r + 1 := by omega
    subst e
    rw [w2, zJoin_o z to (by omega), hE.2.1]
    obtain ⟨a, -, -, ha⟩ := hE.2.2.1
    obtain ⟨t, n0, h1, h2, -⟩ := ha r (by omega)
    rw [h1]
    exact nI_le h2 (by omega)
theorem WZ.set {z : Nat → Int32} {n b j : Nat} (h : WZ z n b) (hj : j < 5) (v : Int32) : WZ (upd z j v) n b :=
  h.same (fun t u _ => upd_n _ _ (by have := tp_ge t u; omega)) (fun q hq => upd_n _ _ (by omega))
theorem CR.set {z : Nat → Int32} {k j : Nat} (h : CR z k) (hk : k ≤ 15) (hj : j < 5) (v : Int32) : CR (upd z j v) k := h.same hk (fun q a _ => upd_n _ _ (by omega))
theorem Ln.m {z : Nat → Int32} {n m m' : Nat} (h : Ln z n m) (h' : Ln z n m') : m' = m := (nI_eq (by have := h'.2.2.2.2.2.2.2; omega) (by have := h.2.2.2.2.2.2.2; omega)).mp (h'.2.2.1.symm.trans h.2.2.1)
theorem QF.lv {z : Nat → Int32} {n m i : Nat} (h : QF z n m) (hL : Ln z n m) (hi : i < n) : QF (zLv z i m) n (mLv z i m) := by
  unfold zLv mLv
  by_cases hd : z (tp i 1) = 0
  · rw [if_pos hd, if_pos hd]
    obtain ⟨a, b⟩ := plF_in hL hi hd
    exact h.leave hL hi a b
  · rw [if_neg hd, if_neg hd]
    exact h.row (LnX.out hL hi hd) (by rw [upd_t _ _ _ _ _ _ (by omega) (by omega), if_neg (by omega)]) (fun j u hu hj => by rw [upd_t _ _ _ _ _ _ hu (by omega), if_neg (fun q => hj q.1)]) (fun p hp => by have := hL.2.2.2.2.2.2.2; rw [upd_l _ _ _ _ (by omega)])
theorem WZ.home {z : Nat → Int32} {n m k b i : Nat} (h : WZ z n b) (hM : MV z n k) (hL : Ln z n m) (hi : i < n) (hd : ¬ z (tp i 1) = 1) : WZ (zHm z i m) n b := by
  obtain ⟨h1, ⟨m0, h2, h3⟩, h4, h5⟩ := h
  obtain rfl := hL.m h2
  have t := fun j u hu => zHm_t hL hi j u hu
  have o := fun {q} hq => zHm_o (k := q) hL hi hq
  have hne : ∀ j u, u < 13 → j ≠ i → zHm z i m0 (tp j u) = z (tp j u) := fun j u hu hj => by rw [t j u hu, if_neg hj]
  have r : ∀ u, u < 13 → u ≠ 8 → u ≠ 2 → u ≠ 1 → zHm z i m0 (tp i u) = z (tp i u) := fun u hu a c d => by rw [t i u hu, if_pos rfl, if_neg a, if_neg c, if_neg d]
  have d1 : zHm z i m0 (tp i 1) = 5 := by rw [t i 1 (by omega)]; simp
  have d2 : zHm z i m0 (tp i 2) = 0 := by rw [t i 2 (by omega)]; simp
  have d8 : zHm z i m0 (tp i 8) = 0 := by rw [t i 8 (by omega)]; simp
  refine ⟨fun j hj => ?_, ⟨_, hL.home hi, ?_⟩, ?_, h5.same (fun j hj => ?_)⟩
  · by_cases q : j = i
    · subst q
      obtain ⟨f, lo, q, ⟨a1, a2, a3⟩, a4, a5, ⟨a6, a7⟩, a8, a9⟩ := h1 j hj
      refine ⟨f, lo, q, ⟨(r 4 (by omega) (by omega) (by omega) (by omega)).trans a1, (r 5 (by omega) (by omega) (by omega) (by omega)).trans a2, (r 7 (by omega) (by omega) (by omega) (by omega)).trans a3⟩, a4, a5, ⟨a6, fun g => ?_⟩, fun g => ?_, fun _ => d2⟩
      · rw [d1] at g; exact absurd g (by decide)
      · rw [d8] at g; exact absurd g (by decide)
    · exact (h1 j hj).same (fun u hu => hne j u hu q)
  · have hX := LnX.lv hL hi
    refine (h3.lv hL hi).row hX ?_ (fun j u hu hj => ?_) (fun p hp => ?_)
    · rw [r 0 (by omega) (by omega) (by omega) (by omega), zLv_t hL hi i 0 (by omega), if_neg (by omega)]
    · rw [hne j u hu hj, zLv_t hL hi j u hu, if_neg (fun c => hj c.1)]
    · have := hX.2.2.2.2.2.2.2
      unfold zHm
      rw [upd_l _ _ _ _ (by omega), upd_l _ _ _ _ (by omega)]
  · refine h4.row (i := i) (e := 0) (f := 0) hi hne (by rw [r 6 (by omega) (by omega) (by omega) (by omega), Int32.add_zero]) (by rw [o (by omega), Int32.add_zero]) ?_ (by rw [o (by omega), Int32.add_zero])
    simp only [fr]
    rw [r 4 (by omega) (by omega) (by omega) (by omega), d1, b2_f (by decide), b2_f hd, Int32.add_zero]
  · by_cases q : j = i
    · subst q; exact r 0 (by omega) (by omega) (by omega) (by omega)
    · exact hne j 0 (by omega) q
theorem CR.home {z : Nat → Int32} {n m k i : Nat} (h : CR z k) (hk : k ≤ 15) (hL : Ln z n m) (hi : i < n) : CR (zHm z i m) k := h.same hk (fun j a c => zHm_o hL hi (by omega))
/-- what a call leaves -/
theorem cl_row {z : Nat → Int32} {n m k t bd c : Nat} {f to : Int32} (hM : MV z n k) (hL : Ln z n m) (hE : EX z n k bd c) (ht : t < n) (hc : cnd z t) (hf : Pl f) (hto : Pl to) (hne : f ≠ to) : (∀ j u, u < 13 → j ≠ t → zCl z t f to m (tp j u) = z (tp j u)) ∧ (zCl z t f to m (tp t 0) = z (tp t 0) ∧ zCl z t f to m (tp t 4) = z (tp t 4) + 1 ∧ (∃ c, (c = 0 ∨ c = 1) ∧ zCl z t f to m (tp t 5) = z (tp t 5) + nI c) ∧ zCl z t f to m (tp t 6) = z (tp t 6) ∧ zCl z t f to m (tp t 7) = z (tp t 7) ∧ zCl z t f to m (tp t 8) = 0) ∧ (zCl z t f to m (tp t 1) = if nd z t f = 0 then 2 else 1) ∧ (zCl z t f to m (tp t 2) = if nd z t f = 0 then sz32 (to - f) * z 0 else nd z t f) ∧ (∀ q, (q < 15 ∧ q ≠ 12 ∧ q ≠ 8 ∧ q ≠ 6 ∨ 27 ≤ q ∧ q < 72) → zCl z t f to m q = z q) ∧ zCl z t f to m 8 = z 8 + 1 ∧ zCl z t f to m 6 = z 6 + b2 (nd z t f = 0) ∧ ∀ q, 11 ≤ q → q < 27 → zCl z t f to m q = wCl z t f to m q := by
  have wt := wCl_t hL ht f to
  obtain ⟨f8, f12, f10, f11⟩ := wCl_f hL ht f to
  have wo : ∀ {q}, (q < 15 ∧ q ≠ 12 ∧ q ≠ 8 ∨ 27 ≤ q ∧ q < 72) → wCl z t f to m q = z q := fun h => wCl_o hL ht f to h
  have w8 : wCl z t f to m 8 = z 8 + 1 := upd_e _ _ _
  have wr : ∀ u, u < 13 → wCl z t f to m (tp t u) = zFare (zLv z t m) t f to 0 (tp t u) := fun u _ => by unfold wCl; rw [upd_n _ _ (by have := tp_ge t u; omega)]
  have lv : ∀ u, u < 13 → u ≠ 8 → zLv z t m (tp t u) = z (tp t u) := fun u hu h8 => by rw [zLv_t hL ht t u hu, if_neg (fun c => h8 c.2)]
  have r4 : wCl z t f to m (tp t 4) = z (tp t 4) + 1 := by rw [wr 4 (by omega), zFare_t _ _ _ _ t 4 (by omega), if_pos rfl, if_pos rfl, lv 4 (by omega) (by omega)]
  have r5 : ∃ c, (c = 0 ∨ c = 1) ∧ wCl z t f to m (tp t 5) = z (tp t 5) + nI c := by
    by_cases g : isLongZ (zLv z t m) f to
    · exact ⟨1, Or.inr rfl, by rw [wr 5 (by omega), zFare_t _ _ _ _ t 5 (by omega), if_pos rfl, if_neg (by omega), if_pos rfl, lv 5 (by omega) (by omega), b2_t g]; rfl⟩
    · exact ⟨0, Or.inl rfl, by rw [wr 5 (by omega), zFare_t _ _ _ _ t 5 (by omega), if_pos rfl, if_neg (by omega), if_pos rfl, lv 5 (by omega) (by omega), b2_f g]; rfl⟩
  have r67 : ∀ u, u = 6 ∨ u = 7 → wCl z t f to m (tp t u) = z (tp t u) := fun u hu => by rw [wr u (by omega), zFare_t _ _ _ _ t u (by omega), if_pos rfl, if_neg (by omega), if_neg (by omega), if_neg (by omega), if_neg (by omega), if_neg (by omega), lv u (by omega) (by omega)]
  unfold zCl
  by_cases g : nd z t f = 0
  · rw [if_pos g]
    have rt : ∀ u, u < 13 → u ≠ 1 → u ≠ 2 → zRide (wCl z t f to m) t (tp t u) = wCl z t f to m (tp t u) := fun u hu h1 h2 => by rw [zRide_t _ t u hu, if_pos rfl, if_neg h1, if_neg h2]
    refine ⟨fun j u hu hj => by rw [zRide_t _ j u hu, if_neg hj, wt j u hu (Or.inl hj)], ⟨(rt 0 (by omega) (by omega) (by omega)).trans (wt t 0 (by omega) (by omega)), (rt 4 (by omega) (by omega) (by omega)).trans r4, ?_, (rt 6 (by omega) (by omega) (by omega)).trans (r67 6 (by omega)), (rt 7 (by omega) (by omega) (by omega)).trans (r67 7 (by omega)), (rt 8 (by omega) (by omega) (by omega)).trans f8⟩, ?_, ?_, fun q hq => by rw [zRide_o _ (by omega), if_neg (by omega), wo (by omega)], by rw [zRide_o _ (by omega), if_neg (by omega), w8], ?_, fun q a b => by rw [zRide_o _ (by omega), if_neg (by omega)]⟩
    · obtain ⟨c, hc, e⟩ := r5
      exact ⟨c, hc, (rt 5 (by omega) (by omega) (by omega)).trans e⟩
    · rw [if_pos g, zRide_t _ t 1 (by omega), if_pos rfl, if_pos rfl]
    · rw [if_pos g, zRide_t _ t 2 (by omega), if_pos rfl, if_neg (by omega), if_pos rfl, f10, f11, wo (by omega)]
    · rw [zRide_o _ (by omega), if_pos rfl, wo (by omega), b2_t g]
  · rw [if_neg g]
    have ut : ∀ j u, u < 13 → upd (upd (wCl z t f to m) (tp t 1) 1) (tp t 2) (nd z t f) (tp j u) = if j = t then (if u = 2 then nd z t f else if u = 1 then 1 else wCl z t f to m (tp t u)) else z (tp j u) := fun j u hu => by
      rw [upd_t _ _ _ _ _ _ hu (by omega), upd_t _ _ _ _ _ _ hu (by omega)]
      by_cases q : j = t
      · subst q; simp
      · rw [if_neg (fun c => q c.1), if_neg (fun c => q c.1), if_neg q, wt j u hu (Or.inl q)]
    have rt : ∀ u, u < 13 → u ≠ 1 → u ≠ 2 → upd (upd (wCl z t f to m) (tp t 1) 1) (tp t 2) (nd z t f) (tp t u) = wCl z t f to m (tp t u) := fun u hu h1 h2 => by rw [ut t u hu, if_pos rfl, if_neg h2, if_neg h1]
    refine ⟨fun j u hu hj => by rw [ut j u hu, if_neg hj], ⟨(rt 0 (by omega) (by omega) (by omega)).trans (wt t 0 (by omega) (by omega)), (rt 4 (by omega) (by omega) (by omega)).trans r4, ?_, (rt 6 (by omega) (by omega) (by omega)).trans (r67 6 (by omega)), (rt 7 (by omega) (by omega) (by omega)).trans (r67 7 (by omega)), (rt 8 (by omega) (by omega) (by omega)).trans f8⟩, ?_, ?_, fun q hq => by rw [upd_l _ _ _ _ (by omega), upd_l _ _ _ _ (by omega), wo (by omega)], by rw [upd_l _ _ _ _ (by omega), upd_l _ _ _ _ (by omega), w8], ?_, fun q a b => by rw [upd_l _ _ _ _ (by omega), upd_l _ _ _ _ (by omega)]⟩
    · obtain ⟨c, hc, e⟩ := r5
      exact ⟨c, hc, (rt 5 (by omega) (by omega) (by omega)).trans e⟩
    · rw [if_neg g, ut t 1 (by omega), if_pos rfl, if_neg (by omega), if_pos rfl]
    · rw [if_neg g, ut t 2 (by omega), if_pos rfl, if_pos rfl]
    · rw [upd_l _ _ _ _ (by omega), upd_l _ _ _ _ (by omega), wo (by omega)]
      exact b2_ff' g _
theorem WZ.call {z : Nat → Int32} {n m k t b bd c : Nat} {f to : Int32} (h : WZ z n b) (hM : MV z n k) (hL : Ln z n m) (hE : EX z n k bd c) (ht : t < n) (hc : cnd z t) (hf : Pl f) (hto : Pl to) (hne : f ≠ to) : WZ (zCl z t f to m) n (b + 1) := by
  obtain ⟨h1, ⟨m0, h2, h3⟩, h4, h5⟩ := h
  obtain rfl := hL.m h2
  obtain ⟨-, hL', -⟩ := MV.call hM hL hE ht hc hf hto hne
  obtain ⟨c1, ⟨c0, c4, ⟨x, hx, c5⟩, c6, c7, c8⟩, d1, d2, co, e8, e6, el⟩ := cl_row hM hL hE ht hc hf hto hne
  have hd : z (tp t 1) = 0 ∨ z (tp t 1) = 3 := hc.1
  refine ⟨fun j hj => ?_, ⟨_, hL', ?_⟩, ?_, h5.same (fun j hj => ?_)⟩
  · by_cases q : j = t
    · subst q
      obtain ⟨fa, lo, q, ⟨a1, a2, a3⟩, a4, a5, ⟨a6, a7⟩, a8, a9⟩ := h1 j hj
      refine ⟨fa + 1, lo + x, q, ⟨by rw [c4, a1]; exact nI_up fa, by rw [c5, a2, nI_add], c7.trans a3⟩, by omega, by omega, ⟨by omega, fun _ => by omega⟩, fun g => ?_, fun g => ?_⟩
      · rw [c8] at g; exact absurd g (by decide)
      · rw [d1] at g
        by_cases y : nd z j f = 0
        · rw [if_pos y] at g; exact absurd g (by decide)
        · rw [if_neg y] at g; exact absurd g (by decide)
    · exact ((h1 j hj).same (fun u hu => c1 j u hu q)).mono (by omega)
  · have hX := LnX.lv hL ht
    have hm' := hX.2.2.2.2.2.2.2
    refine (h3.lv hL ht).row hX (by rw [c0, zLv_t hL ht t 0 (by omega), if_neg (by omega)]) (fun j u hu hj => by rw [c1 j u hu hj, zLv_t hL ht j u hu, if_neg (fun y => hj y.1)]) (fun p hp => ?_)
    rw [el _ (by omega) (by omega)]
    unfold wCl
    rw [upd_n _ _ (by omega), zFare_o _ _ _ _ (by omega)]
  · refine h4.row (i := t) (e := 0) (f := b2 (nd z t f = 0)) ht c1 (by rw [c6, Int32.add_zero]) (by rw [co 9 (by omega), Int32.add_zero]) ?_ e6
    simp only [fr]
    rw [c4, d1, b2_f (c := z (tp t 1) = 1) (by rcases hd with y | y <;> (rw [y]; decide)), Int32.sub_zero]
    by_cases y : nd z t f = 0
    · rw [if_pos y, b2_f (c := (2 : Int32) = 1) (by decide), b2_t y, Int32.sub_zero]
    · rw [if_neg y, b2_t (c := (1 : Int32) = 1) rfl, b2_f y, Int32.add_zero, Int32.add_sub_cancel]
  · by_cases q : j = t
    · subst q; exact c0
    · exact c1 j 0 (by omega) q
theorem CR.call {z : Nat → Int32} {n m k t bd c : Nat} {f to : Int32} (h : CR z k) (hM : MV z n k) (hL : Ln z n m) (hE : EX z n k bd c) (ht : t < n) (hc : cnd z t) (hf : Pl f) (hto : Pl to) (hne : f ≠ to) : CR (zCl z t f to m) k := by
  obtain ⟨-, -, -, -, co, -⟩ := cl_row hM hL hE ht hc hf hto hne
  exact h.same hM.2.2.2.2.1 (fun j a b => co j (by omega))
/-- a taxi that is outside for the moment stands last -/
theorem WZ.we1 {z : Nat → Int32} {n m b i : Nat} (hT : ∀ j, j < n → FTx z j b) (hX : LnX z n m i) (hQ : QF z n m) (hA : AC z n) (hP : PR z n) (hi : i < n) (h8 : z (tp i 8) = 0) (h1 : ¬ z (tp i 1) = 1) (hL' : Ln (zWe1 z i m) n (m + 1)) : WZ (zWe1 z i m) n b := by
  have hm : m < 12 := by have := hX.lt hi; have := hX.2.1; omega
  have row : ∀ u, u < 13 → u ≠ 1 → u ≠ 2 → u ≠ 3 → zWe1 z i m (tp i u) = z (tp i u) := fun u hu a b c => by
    unfold zWe1
    rw [(zStand_r _ (i := i) hm (Nat.le_refl m)).2 u hu a b, upd_t _ _ _ _ _ _ hu (by omega), if_neg (fun q => c q.2)]
  obtain ⟨⟨d1, d2⟩, -⟩ := zStand_r (upd z (tp i 3) 0) (i := i) hm (Nat.le_refl m)
  have hne : ∀ j u, u < 13 → j ≠ i → zWe1 z i m (tp j u) = z (tp j u) := fun j u hu hj => by
    unfold zWe1
    rw [zStand_t _ j u hm (Nat.le_refl m) hu, if_neg (fun q => hj q.1), upd_t _ _ _ _ _ _ hu (by omega), if_neg (fun q => hj q.1)]
  have eo : ∀ q, (q < 15 ∧ q ≠ 12 ∨ 27 ≤ q ∧ q < 72) → zWe1 z i m q = z q := fun q hq => by
    unfold zWe1
    rw [zStand_o _ hm (Nat.le_refl m) hq, upd_l _ _ _ _ (by omega)]
  have hX1 : LnX (upd z (tp i 3) 0) n m i := fld_same hX (by rw [upd_t _ _ _ _ _ _ (by omega) (by omega), if_neg (by omega)]) (fun j u hu hj => by rw [upd_t _ _ _ _ _ _ hu (by omega), if_neg (fun q => hj q.1)]) (fun k a b => by rw [upd_l _ _ _ _ (by omega)])
  have hQ1 : QF (upd z (tp i 3) 0) n m := hQ.row hX (by rw [upd_t _ _ _ _ _ _ (by omega) (by omega), if_neg (by omega)]) (fun j u hu hj => by rw [upd_t _ _ _ _ _ _ hu (by omega), if_neg (fun q => hj q.1)]) (fun p hp => by rw [upd_l _ _ _ _ (by omega)])
  refine ⟨fun j hj => ?_, ⟨_, hL', hQ1.stand hX1 hi (by rw [upd_t _ _ _ _ _ _ (by omega) (by omega), if_neg (by omega)]; exact h8)⟩, ?_, hP.same (fun j _ => ?_)⟩
  · by_cases q : j = i
    · subst q
      obtain ⟨f, lo, q, ⟨a1, a2, a3⟩, a4, a5, ⟨a6, a7⟩, a8, a9⟩ := hT j hj
      refine ⟨f, lo, q, ⟨(row 4 (by omega) (by omega) (by omega) (by omega)).trans a1, (row 5 (by omega) (by omega) (by omega) (by omega)).trans a2, (row 7 (by omega) (by omega) (by omega) (by omega)).trans a3⟩, a4, a5, ⟨a6, fun g => ?_⟩, fun g => ?_, fun _ => d2⟩
      · rw [show zWe1 z j m (tp j 1) = 0 from d1] at g; exact absurd g (by decide)
      · rw [row 8 (by omega) (by omega) (by omega) (by omega), h8] at g; exact absurd g (by decide)
    · exact (hT j hj).same (fun u hu => hne j u hu q)
  · refine hA.row (i := i) (e := 0) (f := 0) hi hne (by rw [row 6 (by omega) (by omega) (by omega) (by omega), Int32.add_zero]) (by rw [eo 9 (by omega), Int32.add_zero]) ?_ (by rw [eo 6 (by omega), Int32.add_zero])
    simp only [fr]
    rw [row 4 (by omega) (by omega) (by omega) (by omega), show zWe1 z i m (tp i 1) = 0 from d1, b2_f (by decide), b2_f h1, Int32.add_zero]
  · by_cases q : j = i
    · subst q; exact row 0 (by omega) (by omega) (by omega) (by omega)
    · exact hne j 0 (by omega) q
theorem insAt_lt {z : Nat → Int32} {p : Int32} : ∀ {n : Nat}, (∀ i j, i < j → j < n → z (tp i 0) < z (tp j 0)) → ∀ j, j < n → (j < insAt z p n → z (tp j 0) ≤ p) ∧ (insAt z p n ≤ j → p < z (tp j 0)) := by
  intro n
  induction n with
  | zero => intro _ j hj; omega
  | succ n ih =>
    intro hP j hj
    have hP' : ∀ i j, i < j → j < n → z (tp i 0) < z (tp j 0) := fun i j a b => hP i j a (by omega)
    simp only [insAt]
    by_cases g : p < z (tp n 0)
    · rw [if_pos g]
      by_cases q : j = n
      · subst q
        exact ⟨fun c => absurd c (by have := insAt_le z p j; omega), fun _ => g⟩
      · exact ih hP' j (by omega)
    · rw [if_neg g]
      refine ⟨fun _ => ?_, fun c => absurd c (by omega)⟩
      by_cases q : j = n
      · subst q; exact Int32.not_lt.mp g
      · exact i32_le_trans (Int32.le_of_lt (hP j n (by omega) (by omega))) (Int32.not_lt.mp g)
theorem PR.ins {z : Nat → Int32} {n : Nat} {p : Int32} (h : PR z n) (hp : 0 ≤ p ∧ p ≤ 999) (hno : ∀ i, i < n → z (tp i 0) ≠ p) : PR (zIns z p n) (n + 1) := by
  have hq := insAt_le z p n
  have il := fun j hj => insAt_lt (p := p) h.1 j hj
  have v : ∀ j, j < n + 1 → j ≠ insAt z p n → ∃ i, i < n ∧ (j = if i < insAt z p n then i else i + 1) ∧ zIns z p n (tp j 0) = z (tp i 0) := fun j hj hjq => by
    obtain ⟨i, a, b, c⟩ := ins_dn z p hj hjq
    exact ⟨i, a, b, c 0 (by omega)⟩
  have vq : zIns z p n (tp (insAt z p n) 0) = p := by rw [ins_q z p (by omega), if_pos rfl]
  refine ⟨fun i j hij hj => ?_, fun t ht => ?_⟩
  · by_cases qi : i = insAt z p n
    · obtain ⟨j0, a, b, c⟩ := v j hj (by omega)
      rw [qi, vq, c]
      refine (il j0 a).2 ?_
      split at b <;> omega
    · obtain ⟨i0, a, b, c⟩ := v i (by omega) qi
      by_cases qj : j = insAt z p n
      · rw [qj, vq, c]
        have hlt : i0 < insAt z p n := by split at b <;> omega
        exact Int32.lt_of_le_of_ne ((il i0 a).1 hlt) (hno i0 a)
      · obtain ⟨j0, a', b', c'⟩ := v j hj qj
        rw [c, c']
        refine h.1 i0 j0 ?_ a'
        split at b <;> split at b' <;> omega
  · by_cases q : t = insAt z p n
    · rw [q, vq]; exact hp
    · obtain ⟨i, a, b, c⟩ := v t ht q
      rw [c]; exact h.2 i a
theorem WZ.wel {z : Nat → Int32} {n m k b : Nat} {p : Int32} (h : WZ z n b) (hM : MV z n k) (hL : Ln z n m) (hw : whyW z n p = 0) : WZ (zWel z n m p) (nWel z n p) b := by
  obtain ⟨-, hL', -⟩ := wel_ok hM hL hw
  obtain ⟨h1, ⟨m0, h2, h3⟩, h4, h5⟩ := h
  obtain rfl := hL.m h2
  unfold whyW at hw
  by_cases g : 0 ≤ p ∧ p ≤ 999
  · rw [if_neg (fun q => q g)] at hw
    unfold zWel nWel at hL' ⊢
    cases hf : ftz z p n with
    | none =>
      rw [hf] at hw hL'
      simp only at hw hL' ⊢
      have hn : n ≠ 12 := fun q => by rw [if_pos q] at hw; exact absurd hw (by decide)
      have hn2 := hL.2.1
      have hq := insAt_le z p n
      have hX := LnX.ins hL (by omega) (ftz_n hf)
      have hi : insAt z p n < n + 1 := by omega
      have o : ∀ j, j < 72 → j ≠ 11 → zIns z p n j = z j := fun j hj h => by rw [zIns_o z p hj, if_neg h]
      have z0 : ∀ u, u < 13 → u ≠ 0 → zIns z p n (tp (insAt z p n) u) = 0 := fun u hu h0 => by rw [ins_q z p hu, if_neg h0]
      have hP := h5.ins g (ftz_n hf)
      have hm := hL.2.2.2.2.2.2.2
      refine WZ.we1 (fun j hj => ?_) hX ?_ ?_ hP hi (z0 8 (by omega) (by omega)) (by rw [z0 1 (by omega) (by omega)]; decide) hL'
      · by_cases q : j = insAt z p n
        · subst q
          refine ⟨0, 0, 0, ⟨z0 4 (by omega) (by omega), z0 5 (by omega) (by omega), z0 7 (by omega) (by omega)⟩, by omega, by omega, ⟨by omega, fun c => ?_⟩, fun c => ?_, fun _ => z0 2 (by omega) (by omega)⟩
          · rw [z0 1 (by omega) (by omega)] at c; exact absurd c (by decide)
          · rw [z0 8 (by omega) (by omega)] at c; exact absurd c (by decide)
        · obtain ⟨i0, i1, _, i3⟩ := ins_dn z p hj q
          exact (h1 i0 i1).at i3
      · obtain ⟨q, a, b⟩ := h3
        refine ⟨q, a, fun r hr => ?_⟩
        obtain ⟨j, j1, j2, j3, j4⟩ := lx_in hX hr |>.imp_left id |> fun w => (⟨lx (zIns z p n) (n + 1) r, w.1, w.2.1, w.2.2.1, w.2.2.2⟩ : ∃ j, j < n + 1 ∧ j ≠ insAt z p n ∧ zIns z p n (tp j 0) = zIns z p n (15 + r) ∧ zIns z p n (tp j 1) = 0)
        obtain ⟨i0, i1, _, i3⟩ := ins_dn z p j1 j2
        have ej : lx (zIns z p n) (n + 1) r = j := lx_i hX j1 j3
        have ei : lx z n r = i0 := lx_i hL i1 (by rw [← i3 0 (by omega), j3, o _ (by omega) (by omega)])
        rw [ej, i3 8 (by omega), ← ei]
        exact b r hr
      · have ins : ∀ (u : Nat), u < 13 → u ≠ 0 → ∀ (F : (Nat → Int32) → Nat → Int32), True := fun _ _ _ _ => trivial
        have lo : ∀ t, t < insAt z p n → ∀ u, u < 13 → zIns z p n (tp t u) = z (tp t u) := fun t ht u hu => by rw [zIns_t z p hu (by omega), if_pos ht]
        have hi' : ∀ t, insAt z p n < t → t ≤ n → ∀ u, u < 13 → zIns z p n (tp t u) = z (tp (t - 1) u) := fun t ht htn u hu => by rw [zIns_t z p hu htn, if_neg (by omega), if_neg (by omega)]
        constructor
        · rw [o 9 (by omega) (by omega), ← h4.1]
          exact Sm_ins hq (fun t ht => lo t ht 6 (by omega)) (z0 6 (by omega) (by omega)) (fun t a b => hi' t a b 6 (by omega))
        · rw [o 6 (by omega) (by omega), ← h4.2]
          refine Sm_ins hq (fun t ht => ?_) ?_ (fun t a b => ?_)
          · simp only [fr]
            rw [lo t ht 4 (by omega), lo t ht 1 (by omega)]
          · simp only [fr]
            rw [z0 4 (by omega) (by omega), z0 1 (by omega) (by omega)]
            decide
          · simp only [fr]
            rw [hi' t a b 4 (by omega), hi' t a b 1 (by omega)]
    | some i =>
      rw [hf] at hw hL'
      simp only at hw hL' ⊢
      obtain ⟨hi, -⟩ := ftz_s hf
      have h50 : z (tp i 1) = 5 := Decidable.byContradiction (fun q => by rw [if_neg q] at hw; exact absurd hw (by decide))
      have hd : ¬ z (tp i 1) = 0 := by rw [h50]; decide
      exact WZ.we1 h1 (LnX.out hL hi hd) h3 h4 h5 hi ((hM.2.1 i hi).1.2.1 hd) (by rw [h50]; decide) hL'
  · rw [if_pos g] at hw
    exact absurd hw (by decide)
theorem CR.wel {z : Nat → Int32} {n m k : Nat} {p : Int32} (h : CR z k) (hM : MV z n k) (hL : Ln z n m) (hw : whyW z n p = 0) : CR (zWel z n m p) k := by
  have hk := hM.2.2.2.2.1
  have e1 : ∀ (y : Nat → Int32) (n' i : Nat), LnX y n' m i → i < n' → ∀ j, 27 ≤ j → j < 72 → zWe1 y i m j = y j := fun y n' i hX hi j a b => by
    have hm : m < 12 := by have := hX.lt hi; have := hX.2.1; omega
    unfold zWe1
    rw [zStand_o _ hm (Nat.le_refl m) (by omega), upd_l _ _ _ _ (by omega)]
  unfold whyW at hw
  by_cases g : 0 ≤ p ∧ p ≤ 999
  · rw [if_neg (fun q => q g)] at hw
    unfold zWel
    cases hf : ftz z p n with
    | none =>
      rw [hf] at hw
      simp only at hw ⊢
      have hn : n ≠ 12 := fun q => by rw [if_pos q] at hw; exact absurd hw (by decide)
      have hn2 := hL.2.1
      have hX := LnX.ins hL (by omega) (ftz_n hf)
      exact h.same hk (fun j a b => by rw [e1 _ (n + 1) _ hX (by have := insAt_le z p n; omega) j a b, zIns_o z p b, if_neg (by omega)])
    | some i =>
      rw [hf] at hw
      simp only at hw ⊢
      obtain ⟨hi, -⟩ := ftz_s hf
      have h50 : z (tp i 1) = 5 := Decidable.byContradiction (fun q => by rw [if_neg q] at hw; exact absurd hw (by decide))
      exact h.same hk (fun j a b => e1 _ n i (LnX.out hL hi (by rw [h50]; decide)) hi j a b)
  · rw [if_pos g] at hw
    exact absurd hw (by decide)
