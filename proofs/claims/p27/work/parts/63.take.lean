/-! a call is taken: the class, the reference, what holds -/
theorem upd_cm (f : Nat → Int32) {a b : Nat} (x y : Int32) (h : a ≠ b) : upd (upd f a x) b y = upd (upd f b y) a x := by
  funext j
  by_cases h1 : j = a
  · subst h1; simp [upd, h]
  · by_cases h2 : j = b
    · subst h2; simp [upd, h1]
    · simp [upd, h1, h2]
theorem plF_8 (z : Nat → Int32) (v p : Int32) : ∀ m, plF (upd z 8 v) p m = plF z p m := by
  intro m
  induction m with
  | zero => rfl
  | succ m ih => simp only [plF, ih, upd_n z v (show 15 + m ≠ 8 by omega)]
theorem zLv_8 (z : Nat → Int32) (t m : Nat) (v : Int32) : zLv (upd z 8 v) t m = upd (zLv z t m) 8 v := by
  have e : ∀ u, upd z 8 v (tp t u) = z (tp t u) := fun u => upd_n z v (by have := tp_ge t u; omega)
  unfold zLv
  rw [e 1, e 0, plF_8]
  have ne : tp t 8 ≠ 8 := by have := tp_ge t 8; omega
  split
  · unfold zLeave
    rw [upd_cm z v _ (show 8 ≠ 12 by omega), upd_cm _ _ _ ne]
    congr 1
    funext j
    simp only [shL, upd]
    by_cases h : j = 8
    · subst h
      rw [if_neg (by omega), if_pos rfl, if_pos rfl]
    · rw [if_neg h, if_neg h]
      by_cases q : 15 + plF z (z (tp t 0)) m ≤ j ∧ j < 15 + (m - 1)
      · rw [if_pos q, if_pos q, if_neg (by omega)]
      · rw [if_neg q, if_neg q]
  · exact (upd_cm _ _ _ ne).symm
theorem zFare_8 (w : Nat → Int32) (i : Nat) (a b r v : Int32) : zFare (upd w 8 v) i a b r = upd (zFare w i a b r) 8 v := by
  have e : ∀ u, upd w 8 v (tp i u) = w (tp i u) := fun u => upd_n w v (by have := tp_ge i u; omega)
  have e2 : upd w 8 v 2 = w 2 := upd_n w v (by omega)
  have ne : ∀ u, 8 ≠ tp i u := fun u => by have := tp_ge i u; omega
  unfold zFare isLongZ
  rw [e 4, e 5, e2, upd_cm w v _ (ne 4), upd_cm _ v _ (ne 5), upd_cm _ v _ (ne 12), upd_cm _ v _ (ne 10), upd_cm _ v _ (ne 11)]
def whyC (z : Nat → Int32) (n m : Nat) (f to : Int32) : Int32 := if ¬ ((0 ≤ f ∧ f ≤ 20) ∧ 0 ≤ to ∧ to ≤ 20) then -1 else if f = to then -2 else match calZ z n m f with
  | none => -4
  | some _ => 0
def wCl (z : Nat → Int32) (t : Nat) (f to : Int32) (m : Nat) : Nat → Int32 := upd (zFare (zLv z t m) t f to 0) 8 (z 8 + 1)
def zCl (z : Nat → Int32) (t : Nat) (f to : Int32) (m : Nat) : Nat → Int32 := if nd z t f = 0 then zRide (wCl z t f to m) t else upd (upd (wCl z t f to m) (tp t 1) 1) (tp t 2) (nd z t f)
theorem wCl_t {z : Nat → Int32} {n m t : Nat} (hL : Ln z n m) (ht : t < n) (f to : Int32) (j u : Nat) (hu : u < 13) (hx : j ≠ t ∨ u = 0 ∨ u = 1 ∨ u = 2) : wCl z t f to m (tp j u) = z (tp j u) := by
  unfold wCl
  rw [upd_n _ _ (by have := tp_ge j u; omega), zFare_t _ _ _ _ j u hu]
  by_cases q : j = t
  · subst q
    rw [if_pos rfl, if_neg (by omega), if_neg (by omega), if_neg (by omega), if_neg (by omega), if_neg (by omega), zLv_t hL ht j u hu, if_neg (by omega)]
  · rw [if_neg q, zLv_t hL ht j u hu, if_neg (fun c => q c.1)]
theorem wCl_f {z : Nat → Int32} {n m t : Nat} (hL : Ln z n m) (ht : t < n) (f to : Int32) : wCl z t f to m (tp t 8) = 0 ∧ wCl z t f to m (tp t 12) = 0 ∧ wCl z t f to m (tp t 10) = f ∧ wCl z t f to m (tp t 11) = to := by
  have e : ∀ u, wCl z t f to m (tp t u) = zFare (zLv z t m) t f to 0 (tp t u) := fun u => by unfold wCl; rw [upd_n _ _ (by have := tp_ge t u; omega)]
  refine ⟨?_, ?_, ?_, ?_⟩
  · rw [e, zFare_t _ _ _ _ t 8 (by omega), if_pos rfl, if_neg (by omega), if_neg (by omega), if_neg (by omega), if_neg (by omega), if_neg (by omega), zLv_t hL ht t 8 (by omega), if_pos ⟨rfl, rfl⟩]
  · rw [e, zFare_t _ _ _ _ t 12 (by omega), if_pos rfl, if_neg (by omega), if_neg (by omega), if_pos rfl]
    exact b2_f (fun q => q.1 rfl)
  · rw [e, zFare_t _ _ _ _ t 10 (by omega), if_pos rfl, if_neg (by omega), if_neg (by omega), if_neg (by omega), if_pos rfl]
  · rw [e, zFare_t _ _ _ _ t 11 (by omega), if_pos rfl, if_neg (by omega), if_neg (by omega), if_neg (by omega), if_neg (by omega), if_pos rfl]
theorem wCl_o {z : Nat → Int32} {n m t : Nat} (hL : Ln z n m) (ht : t < n) (f to : Int32) {q : Nat} (h : q < 15 ∧ q ≠ 12 ∧ q ≠ 8 ∨ 27 ≤ q ∧ q < 72) : wCl z t f to m q = z q := by
  unfold wCl
  rw [upd_n _ _ (by omega), zFare_o _ _ _ _ (by omega), zLv_o hL ht (by omega)]
theorem wCl_X {z : Nat → Int32} {n m t : Nat} (hL : Ln z n m) (ht : t < n) (f to : Int32) : LnX (wCl z t f to m) n (mLv z t m) t := by
  refine fld_same (LnX.lv hL ht) ?_ (fun j u hu hj => ?_) (fun k a b => ?_)
  · rw [wCl_t hL ht f to t 0 (by omega) (by omega), zLv_t hL ht t 0 (by omega), if_neg (by omega)]
  · rw [wCl_t hL ht f to j u hu (Or.inl hj), zLv_t hL ht j u hu, if_neg (fun c => hj c.1)]
  · unfold wCl
    rw [upd_n _ _ (by omega), zFare_o _ _ _ _ (by omega)]
theorem sz_nat {a b : Nat} (ha : a < 1000000) (hb : b < 1000000) : ∃ e, e ≤ a + b ∧ sz32 (nI a - nI b) = nI e := by
  have sub : ∀ x y : Nat, y ≤ x → x < 1000000 → sz32 (nI x - nI y) = nI (x - y) := by
    intro x y h hx
    have e : nI x - nI y = nI (x - y) := by
      have : nI (x - y) + nI y = nI x := by rw [nI_add]; congr 1; omega
      rw [← this, Int32.add_sub_cancel]
    rw [e]
    unfold sz32
    rw [if_neg (nI_pos (by omega))]
  by_cases h : b ≤ a
  · exact ⟨a - b, by omega, sub a b h ha⟩
  · exact ⟨b - a, by omega, by rw [sz_sub]; exact sub b a (by omega) hb⟩
theorem far_tab : ∀ x, x < 21 → ∀ w, w < 10 → (nI x - 10) * nI w + 90 = nI (((nI x - 10) * nI w + 90).toNatClampNeg) ∧ ((nI x - 10) * nI w + 90).toNatClampNeg ≤ 180 := by decide +kernel
theorem far_b {f p : Int32} (hf : Pl f) (hp : 1 ≤ p ∧ p ≤ 9) : ∃ d, d ≤ 180 ∧ (f - 10) * p = nI d - nI 90 := by
  obtain ⟨x, hx, rfl⟩ := hf.nat
  obtain ⟨w, hw, rfl⟩ := nI_of2 (M := 9) (n := 9) (x := p) rfl (nn_of1 hp.1) hp.2
  obtain ⟨a, b⟩ := far_tab x (by omega) w (by omega)
  refine ⟨_, b, ?_⟩
  rw [← a, show nI 90 = (90 : Int32) from rfl, Int32.add_sub_cancel]
theorem nd_b {z : Nat → Int32} {n k b c t : Nat} {f : Int32} (hM : MV z n k) (hE : EX z n k b c) (ht : t < n) (hc : cnd z t) (hf : Pl f) : ∃ e, e ≤ 1000 ∧ nd z t f = nI e := by
  obtain ⟨d, hd, ed⟩ := far_b hf hM.2.2.1.1
  obtain ⟨hw, hp⟩ := hM.2.1 t ht
  unfold nd
  by_cases g : z (tp t 1) = 0
  · rw [if_pos g, ed]
    obtain ⟨e, h1, h2⟩ := sz_nat (a := d) (b := 90) (by omega) (by omega)
    exact ⟨e, by omega, h2⟩
  · have g3 : z (tp t 1) = 3 := hc.1.resolve_left g
    rw [if_neg g, ed]
    obtain ⟨-, -, -, -, -, w6⟩ := hw
    obtain ⟨-, -, w9⟩ := w6 g3
    have l2 := (hE.1 t ht).2 g3
    have p2 := hp (Or.inr (Or.inr (Or.inl g3)))
    obtain ⟨j, hj, ej⟩ := nI_of2 (M := 200) (n := 200) (x := z (tp t 2)) rfl (fun q => by
      have h1 := Int32.lt_iff_toInt_lt.mp p2
      have h2 := Int32.lt_iff_toInt_lt.mp q
      omega) l2
    rw [ej]
    by_cases gs : z (tp t 11) - 10 < 0
    · rw [if_pos gs] at w9
      rw [w9]
      obtain ⟨e, h1, h2⟩ := sz_nat (a := j + d) (b := 90) (by omega) (by omega)
      refine ⟨e, by omega, ?_⟩
      rw [← h2, ← sz_neg, ← nI_add]
      congr 1
      rw [Int32.neg_sub, Int32.neg_mul, Int32.one_mul, Int32.sub_neg, Int32.sub_eq_add_neg, Int32.sub_eq_add_neg, Int32.add_assoc, Int32.add_comm (-nI 90) (nI j), ← Int32.add_assoc, Int32.add_comm (nI d) (nI j)]
    · rw [if_neg gs] at w9
      rw [w9, Int32.one_mul]
      obtain ⟨e, h1, h2⟩ := sz_nat (a := j + 90) (b := d) (by omega) (by omega)
      refine ⟨e, by omega, ?_⟩
      rw [← h2, ← nI_add]
      congr 1
      rw [Int32.sub_eq_add_neg, Int32.neg_sub, Int32.sub_eq_add_neg, Int32.sub_eq_add_neg, ← Int32.add_assoc]
theorem MV.call {z : Nat → Int32} {n m k b c t : Nat} {f to : Int32} (hM : MV z n k) (hL : Ln z n m) (hE : EX z n k b c) (ht : t < n) (hc : cnd z t) (hf : Pl f) (hto : Pl to) (hne : f ≠ to) : MV (zCl z t f to m) n k ∧ Ln (zCl z t f to m) n (mLv z t m) ∧ EX (zCl z t f to m) n k b c := by
  have hX := wCl_X hL ht f to
  obtain ⟨f8, f12, f10, f11⟩ := wCl_f hL ht f to
  have wt := wCl_t hL ht f to
  have wo : ∀ {q}, (q < 15 ∧ q ≠ 12 ∧ q ≠ 8 ∨ 27 ≤ q ∧ q < 72) → wCl z t f to m q = z q := fun h => wCl_o hL ht f to h
  obtain ⟨-, hT, hs, hk, hk2, hw⟩ := hM
  have hs1 : SetOK (wCl z t f to m) := hs.same (fun q hq => wo (by omega))
  obtain ⟨e, he, hnd⟩ := nd_b ⟨⟨m, hL⟩, hT, hs, hk, hk2, hw⟩ hE ht hc hf
  unfold zCl
  by_cases g : nd z t f = 0
  · rw [if_pos g]
    obtain ⟨r1, r2⟩ := zRide_inv hX hs1 f8 (Or.inl f12) (by rw [f10, f11]; exact ⟨hf, hto, hne⟩)
    have ro : ∀ {q}, (q < 15 ∧ q ≠ 12 ∧ q ≠ 8 ∧ q ≠ 6 ∨ 27 ≤ q ∧ q < 72) → zRide (wCl z t f to m) t q = z q := fun h => by rw [zRide_o _ (by omega), if_neg (by omega), wo (by omega)]
    have rt : ∀ j u, u < 13 → j ≠ t → zRide (wCl z t f to m) t (tp j u) = z (tp j u) := fun j u hu hj => by rw [zRide_t _ j u hu, if_neg hj, wt j u hu (Or.inl hj)]
    refine ⟨⟨⟨_, r1⟩, fun j hj => ?_, hs.same (fun q hq => ro (by omega)), by rw [ro (by omega)]; exact hk, hk2, fun r hr => by rw [ro (by omega)]; exact hw r hr⟩, r1, hE.same hk2 (ro (by omega)) (ro (by omega)) (fun q x y => ro (by omega)) (fun j hj => ?_)⟩
    · by_cases q : j = t
      · subst q; exact r2
      · exact (hT j hj).same (fun u hu => rt j u hu q)
    · by_cases q : j = t
      · subst q
        refine ML.of ?_
        rw [zRide_t _ j 2 (by omega), if_pos rfl, if_neg (by omega), if_pos rfl, f10, f11, wo (by omega)]
        exact way_le hf hto hs.1
      · exact (hE.1 j hj).same (rt j 1 (by omega) q) (rt j 2 (by omega) q)
  · rw [if_neg g]
    have e0 : e ≠ 0 := fun q => g (by rw [hnd, q]; rfl)
    have ut : ∀ j u, u < 13 → upd (upd (wCl z t f to m) (tp t 1) 1) (tp t 2) (nd z t f) (tp j u) = if j = t then (if u = 2 then nd z t f else if u = 1 then 1 else wCl z t f to m (tp t u)) else z (tp j u) := fun j u hu => by
      rw [upd_t _ _ _ _ _ _ hu (by omega), upd_t _ _ _ _ _ _ hu (by omega)]
      by_cases q : j = t
      · subst q; simp
      · rw [if_neg (fun c => q c.1), if_neg (fun c => q c.1), if_neg q, wt j u hu (Or.inl q)]
    have uo : ∀ {q}, (q < 15 ∧ q ≠ 12 ∧ q ≠ 8 ∨ 27 ≤ q ∧ q < 72) → upd (upd (wCl z t f to m) (tp t 1) 1) (tp t 2) (nd z t f) q = z q := fun h => by rw [upd_l _ _ _ _ (by omega), upd_l _ _ _ _ (by omega), wo h]
    have d1 : upd (upd (wCl z t f to m) (tp t 1) 1) (tp t 2) (nd z t f) (tp t 1) = 1 := by rw [ut t 1 (by omega)]; simp
    have hL2 : Ln (upd (upd (wCl z t f to m) (tp t 1) 1) (tp t 2) (nd z t f)) n (mLv z t m) := by
      refine LnX.in (i := t) (fld_same hX ?_ (fun j u hu hj => ?_) (fun k a b => ?_)) (by rw [d1]; decide)
      · rw [ut t 0 (by omega)]; simp
      · rw [ut j u hu, if_neg hj, wt j u hu (Or.inl hj)]
      · rw [upd_l _ _ _ _ (by omega), upd_l _ _ _ _ (by omega)]
    refine ⟨⟨⟨_, hL2⟩, fun j hj => ?_, hs.same (fun q hq => uo (by omega)), by rw [uo (by omega)]; exact hk, hk2, fun r hr => by rw [uo (by omega)]; exact hw r hr⟩, hL2, hE.same hk2 (uo (by omega)) (uo (by omega)) (fun q x y => uo (by omega)) (fun j hj => ?_)⟩
    · by_cases q : j = t
      · subst q
        refine ⟨?_, fun _ => ?_⟩
        · unfold TxW
          rw [d1, ut j 8 (by omega), ut j 12 (by omega), ut j 10 (by omega), ut j 11 (by omega)]
          simp only [if_true, show ¬ (8 : Nat) = 2 by omega, show ¬ (8 : Nat) = 1 by omega, show ¬ (12 : Nat) = 2 by omega, show ¬ (12 : Nat) = 1 by omega, show ¬ (10 : Nat) = 2 by omega, show ¬ (10 : Nat) = 1 by omega, show ¬ (11 : Nat) = 2 by omega, show ¬ (11 : Nat) = 1 by omega, if_false]
          rw [f8, f12, f10, f11]
          exact ⟨by decide, fun _ => rfl, Or.inl rfl, Or.inl rfl, fun _ => ⟨hf, hto, hne⟩, fun q => absurd q (by decide)⟩
        · rw [ut j 2 (by omega), if_pos rfl, if_pos rfl, hnd, show (0 : Int32) = nI 0 from rfl]
          exact nI_lt (by omega) (by omega)
      · exact (hT j hj).same (fun u hu => by rw [ut j u hu, if_neg q])
    · by_cases q : j = t
      · subst q
        refine ⟨?_, fun c => by rw [d1] at c; exact absurd c (by decide)⟩
        rw [ut j 2 (by omega), if_pos rfl, if_pos rfl, hnd, show (1000 : Int32) = nI 1000 from rfl]
        exact nI_le he (by omega)
      · exact (hE.1 j hj).same (by rw [ut j 1 (by omega), if_neg q]) (by rw [ut j 2 (by omega), if_neg q])
theorem whyC_0 {z : Nat → Int32} {n m : Nat} {f to : Int32} (hL : Ln z n m) (h : whyC z n m f to = 0) : Pl f ∧ Pl to ∧ f ≠ to ∧ ∃ t, calZ z n m f = some t ∧ t < n ∧ cnd z t := by
  unfold whyC at h
  by_cases g : (0 ≤ f ∧ f ≤ 20) ∧ 0 ≤ to ∧ to ≤ 20
  · rw [if_neg (fun q => q g)] at h
    by_cases g2 : f = to
    · rw [if_pos g2] at h; exact absurd h (by decide)
    · rw [if_neg g2] at h
      cases hc : calZ z n m f with
      | none => rw [hc] at h; exact absurd h (by decide)
      | some t =>
        obtain ⟨a, b⟩ := calZ_in hL hc
        exact ⟨g.1, g.2, g2, t, rfl, a, b⟩
  · rw [if_pos g] at h; exact absurd h (by decide)
section E7
variable {l : Launch} {L : Nat} {I : Nat → Nat → Int32} {Q : Nat → Nat → Option Nat} {P : Option Value → PH → Prop} {B : Nat} {σ : Nat → Nat} {z : Nat → Int32} {n m k : Nat}
def rvo (B : Nat) (σ : Nat → Nat) : Option Nat → Value
  | none => .null
  | some t => .ref (B + 2 + σ t)
theorem lt10t : ∀ x, x < 21 → ((nI x - 10 < 0) = (nI x < 10)) := by decide
theorem min_eq (hC : CA I B σ z n m k) {t : Nat} (ht : t < n) (hc : cnd z t) (hw : TxW z t) (f : Int32) : minR I B (B + 2 + σ t) f = nd z t f := by
  have tx := hC.tx ht
  have w := hC.tw
  unfold minR awayR nd
  rw [tx.2.1, tx.2.2.1, tx.2.2.2.2.2.2.2.2.2.2.2, w.2.2.2.2.2.2.2.2.1]
  by_cases g : z (tp t 1) = 0
  · rw [if_pos g, if_neg (by rw [g]; decide), Int32.sub_zero]
  · have g3 : z (tp t 1) = 3 := hc.1.resolve_left g
    obtain ⟨-, -, -, -, -, w6⟩ := hw
    obtain ⟨wp, -, w9⟩ := w6 g3
    obtain ⟨x, hx, ex⟩ := wp.nat
    rw [if_neg g, if_pos g3, sz_sub]
    rw [ex] at w9 ⊢
    have e := iff_of_eq (lt10t x (by omega))
    by_cases q : nI x < 10
    · rw [if_pos (e.mpr q)] at w9
      rw [if_pos q, w9, Int32.neg_mul, Int32.one_mul]
    · rw [if_neg (fun c => q (e.mp c))] at w9
      rw [if_neg q, w9, Int32.one_mul]
set_option maxRecDepth 100000 in
theorem c_callee (hB : TB B) (hQ : QT0 Q B) (hS : QS Q B σ) (hM : MV z n k) (hL : Ln z n m) (hC : CA I B σ z n m k) (f : Int32) (h1 : P (some (rvo B σ (calZ z n m f))) (SC L, I, Q)) : Runs l 38 [.ref B, .int f] (SC L, I, Q) P := by
  have hn := hL.2.1
  have hm := hL.2.2.2.2.2.2.2
  have e1 : I B 1 = nI n := hC.tw.1.trans hL.1
  have e3 : I B 3 = nI m := hC.tw.2.1.trans hL.2.2.1
  have me : ∀ t, t < n → mayR I B (B + 2 + σ t) = may z t := fun t ht => may_eq hC ht
  have mi : ∀ t, t < n → cnd z t → minR I B (B + 2 + σ t) f = nd z t f := fun t ht hc => min_eq hC ht hc (hM.2.1 t ht).1 f
  have k3 : ∀ t, t < n → KC (B + 2 + σ t) = 3 ∧ B + 2 + σ t < 149 := fun t ht => tbt hB (hS.2.1 t (by omega))
  have loop2 : ∀ d j g, j + d = n → (∀ t, g = some t → t < n ∧ cnd z t) → g = cmb (leC z f) (fun _ _ => inferInstance) (pkF (leC z f) (fun _ _ => inferInstance) (cR z n) m) (pkF (leC z f) (fun _ _ => inferInstance) (cBk z) j) → Sy l 38 (149, 1788) 37 [some (.ref B), some (.int f), some (rvo B σ g), some (.int (nI j))] [] (SC L, I, Q) P := by
    intro d
    induction d with
    | zero =>
      intro j g hj hg he
      have : j = n := by omega
      subst this
      have hc : calZ z j m f = g := he.symm
      rw [hc] at h1
      cases g with
      | none =>
        refine wk ((fn0_ok l)) ok_38 30 (fun pc => false) ?_
        simp only [fn0, kk_38, Option.toList_some, Option.toList_none, ex, catS, vC, isMk, sym, popN, goC, callOK, swL, List.map_cons, List.map_nil, List.replicate_zero, List.replicate_succ, List.append_nil, List.nil_append, List.cons_append, List.getElem?_cons_zero, List.getElem?_cons_succ, List.set_cons_zero, List.set_cons_succ, List.length_cons, List.length_nil, List.head?_cons, Nat.reduceAdd, Nat.reduceLT, Nat.reduceLeDiff, Nat.reduceBEq, Nat.reduceEqDiff, Nat.succ_ne_zero, Nat.zero_lt_succ, Nat.le_refl, sc_rows, kc_lit, nc_lit, wlk_rows, uR_s, uR_uR, true_and, and_true, true_or, or_true, false_or, or_false, and_false, false_and, or_self, and_self, if_true, if_false, Bool.false_eq_true, Bool.or_false, Bool.or_true, Bool.false_or, Bool.true_or, not_true_eq_false, not_false_eq_true, forall_const, true_implies, false_implies, implies_true, reduceIte, reduceCtorEq, rvo, tbk hB, tbx hB, e1, leT (Nat.le_refl j) (show j < 2147483648 by omega)]
        exact h1
      | some t =>
        refine wk ((fn0_ok l)) ok_38 30 (fun pc => false) ?_
        simp only [fn0, kk_38, Option.toList_some, Option.toList_none, ex, catS, vC, isMk, sym, popN, goC, callOK, swL, List.map_cons, List.map_nil, List.replicate_zero, List.replicate_succ, List.append_nil, List.nil_append, List.cons_append, List.getElem?_cons_zero, List.getElem?_cons_succ, List.set_cons_zero, List.set_cons_succ, List.length_cons, List.length_nil, List.head?_cons, Nat.reduceAdd, Nat.reduceLT, Nat.reduceLeDiff, Nat.reduceBEq, Nat.reduceEqDiff, Nat.succ_ne_zero, Nat.zero_lt_succ, Nat.le_refl, sc_rows, kc_lit, nc_lit, wlk_rows, uR_s, uR_uR, true_and, and_true, true_or, or_true, false_or, or_false, and_false, false_and, or_self, and_self, if_true, if_false, Bool.false_eq_true, Bool.or_false, Bool.or_true, Bool.false_or, Bool.true_or, not_true_eq_false, not_false_eq_true, forall_const, true_implies, false_implies, implies_true, reduceIte, reduceCtorEq, rvo, tbk hB, tbx hB, e1, leT (Nat.le_refl j) (show j < 2147483648 by omega)]
        exact h1
    | succ d ih =>
      intro j g hj hg he
      have hjn : j < n := by omega
      have tx := hC.tx hjn
      have hs := hS.2.1 j (by omega)
      have next : ∀ g', (∀ t, g' = some t → t < n ∧ cnd z t) → g' = cmb (leC z f) (fun _ _ => inferInstance) g (cBk z j) → Sy l 38 (149, 1788) 37 [some (.ref B), some (.int f), some (rvo B σ g'), some (.int (nI (j + 1)))] [] (SC L, I, Q) P := by
        intro g' h2 h3
        refine ih (j + 1) g' (by omega) h2 ?_
        rw [h3, he]
        simp only [pkF]
        rw [cmb_assoc _ (leC_1 z f) (leC_2 z f)]
      by_cases g3 : z (tp j 1) = 3
      · by_cases gm : may z j
        · have ec : cBk z j = some j := by unfold cBk; rw [if_pos ⟨g3, gm⟩]
          have hcj : cnd z j := ⟨Or.inr g3, gm⟩
          rw [ec] at next
          have gm' : mayR I B (B + 2 + σ j) := by rw [me j hjn]; exact gm
          cases g with
          | none =>
            refine wk ((fn0_ok l)) ok_38 60 (fun pc => pc == 37) ?_
            simp only [fn0, kk_38, Option.toList_some, Option.toList_none, ex, catS, vC, isMk, sym, popN, goC, callOK, swL, List.map_cons, List.map_nil, List.replicate_zero, List.replicate_succ, List.append_nil, List.nil_append, List.cons_append, List.getElem?_cons_zero, List.getElem?_cons_succ, List.set_cons_zero, List.set_cons_succ, List.length_cons, List.length_nil, List.head?_cons, Nat.reduceAdd, Nat.reduceLT, Nat.reduceLeDiff, Nat.reduceBEq, Nat.reduceEqDiff, Nat.succ_ne_zero, Nat.zero_lt_succ, Nat.le_refl, sc_rows, kc_lit, nc_lit, wlk_rows, uR_s, uR_uR, true_and, and_true, true_or, or_true, false_or, or_false, and_false, false_and, or_self, and_self, if_true, if_false, Bool.false_eq_true, Bool.or_false, Bool.or_true, Bool.false_or, Bool.true_or, not_true_eq_false, not_false_eq_true, forall_const, true_implies, false_implies, implies_true, reduceIte, reduceCtorEq, rvo, tbk hB, tbx hB, tbn L hB, qt hQ, e1, leF hjn (show n < 2147483648 by omega), ixp (show j < 12 by omega) (by omega), hS.1 j (by omega), k3 j hjn, tx, g3]
            refine c_near2 hB hQ (k3 j hjn) f ?_
            rw [if_pos gm']
            refine wk ((fn0_ok l)) ok_38 60 (fun pc => pc == 37) ?_
            simp only [fn0, kk_38, Option.toList_some, Option.toList_none, ex, catS, vC, isMk, sym, popN, goC, callOK, swL, List.map_cons, List.map_nil, List.replicate_zero, List.replicate_succ, List.append_nil, List.nil_append, List.cons_append, List.getElem?_cons_zero, List.getElem?_cons_succ, List.set_cons_zero, List.set_cons_succ, List.length_cons, List.length_nil, List.head?_cons, Nat.reduceAdd, Nat.reduceLT, Nat.reduceLeDiff, Nat.reduceBEq, Nat.reduceEqDiff, Nat.succ_ne_zero, Nat.zero_lt_succ, Nat.le_refl, sc_rows, kc_lit, nc_lit, wlk_rows, uR_s, uR_uR, true_and, and_true, true_or, or_true, false_or, or_false, and_false, false_and, or_self, and_self, if_true, if_false, Bool.false_eq_true, Bool.or_false, Bool.or_true, Bool.false_or, Bool.true_or, not_true_eq_false, not_false_eq_true, forall_const, true_implies, false_implies, implies_true, reduceIte, reduceCtorEq, nI_up]
            exact next (some j) (fun t e => by cases e; exact ⟨hjn, hcj⟩) rfl
          | some t =>
            obtain ⟨t1, t2⟩ := hg t rfl
            by_cases gl : nd z t f ≤ nd z j f
            · refine wk ((fn0_ok l)) ok_38 60 (fun pc => pc == 37) ?_
              simp only [fn0, kk_38, Option.toList_some, Option.toList_none, ex, catS, vC, isMk, sym, popN, goC, callOK, swL, List.map_cons, List.map_nil, List.replicate_zero, List.replicate_succ, List.append_nil, List.nil_append, List.cons_append, List.getElem?_cons_zero, List.getElem?_cons_succ, List.set_cons_zero, List.set_cons_succ, List.length_cons, List.length_nil, List.head?_cons, Nat.reduceAdd, Nat.reduceLT, Nat.reduceLeDiff, Nat.reduceBEq, Nat.reduceEqDiff, Nat.succ_ne_zero, Nat.zero_lt_succ, Nat.le_refl, sc_rows, kc_lit, nc_lit, wlk_rows, uR_s, uR_uR, true_and, and_true, true_or, or_true, false_or, or_false, and_false, false_and, or_self, and_self, if_true, if_false, Bool.false_eq_true, Bool.or_false, Bool.or_true, Bool.false_or, Bool.true_or, not_true_eq_false, not_false_eq_true, forall_const, true_implies, false_implies, implies_true, reduceIte, reduceCtorEq, rvo, tbk hB, tbx hB, tbn L hB, qt hQ, e1, leF hjn (show n < 2147483648 by omega), ixp (show j < 12 by omega) (by omega), hS.1 j (by omega), k3 j hjn, k3 t t1, tx, g3]
              refine c_near3 hB hQ (k3 t t1) (k3 j hjn) f ?_
              rw [mi t t1 t2, mi j hjn hcj, if_neg (fun q => absurd q.2 (Int32.not_lt.mpr gl))]
              refine wk ((fn0_ok l)) ok_38 60 (fun pc => pc == 37) ?_
              simp only [fn0, kk_38, Option.toList_some, Option.toList_none, ex, catS, vC, isMk, sym, popN, goC, callOK, swL, List.map_cons, List.map_nil, List.replicate_zero, List.replicate_succ, List.append_nil, List.nil_append, List.cons_append, List.getElem?_cons_zero, List.getElem?_cons_succ, List.set_cons_zero, List.set_cons_succ, List.length_cons, List.length_nil, List.head?_cons, Nat.reduceAdd, Nat.reduceLT, Nat.reduceLeDiff, Nat.reduceBEq, Nat.reduceEqDiff, Nat.succ_ne_zero, Nat.zero_lt_succ, Nat.le_refl, sc_rows, kc_lit, nc_lit, wlk_rows, uR_s, uR_uR, true_and, and_true, true_or, or_true, false_or, or_false, and_false, false_and, or_self, and_self, if_true, if_false, Bool.false_eq_true, Bool.or_false, Bool.or_true, Bool.false_or, Bool.true_or, not_true_eq_false, not_false_eq_true, forall_const, true_implies, false_implies, implies_true, reduceIte, reduceCtorEq, nI_up]
              exact next (some t) hg (by simp only [cmb, if_pos gl])
            · refine wk ((fn0_ok l)) ok_38 60 (fun pc => pc == 37) ?_
              simp only [fn0, kk_38, Option.toList_some, Option.toList_none, ex, catS, vC, isMk, sym, popN, goC, callOK, swL, List.map_cons, List.map_nil, List.replicate_zero, List.replicate_succ, List.append_nil, List.nil_append, List.cons_append, List.getElem?_cons_zero, List.getElem?_cons_succ, List.set_cons_zero, List.set_cons_succ, List.length_cons, List.length_nil, List.head?_cons, Nat.reduceAdd, Nat.reduceLT, Nat.reduceLeDiff, Nat.reduceBEq, Nat.reduceEqDiff, Nat.succ_ne_zero, Nat.zero_lt_succ, Nat.le_refl, sc_rows, kc_lit, nc_lit, wlk_rows, uR_s, uR_uR, true_and, and_true, true_or, or_true, false_or, or_false, and_false, false_and, or_self, and_self, if_true, if_false, Bool.false_eq_true, Bool.or_false, Bool.or_true, Bool.false_or, Bool.true_or, not_true_eq_false, not_false_eq_true, forall_const, true_implies, false_implies, implies_true, reduceIte, reduceCtorEq, rvo, tbk hB, tbx hB, tbn L hB, qt hQ, e1, leF hjn (show n < 2147483648 by omega), ixp (show j < 12 by omega) (by omega), hS.1 j (by omega), k3 j hjn, k3 t t1, tx, g3]
              refine c_near3 hB hQ (k3 t t1) (k3 j hjn) f ?_
              rw [mi t t1 t2, mi j hjn hcj, if_pos ⟨gm', Int32.not_le.mp gl⟩]
              refine wk ((fn0_ok l)) ok_38 60 (fun pc => pc == 37) ?_
              simp only [fn0, kk_38, Option.toList_some, Option.toList_none, ex, catS, vC, isMk, sym, popN, goC, callOK, swL, List.map_cons, List.map_nil, List.replicate_zero, List.replicate_succ, List.append_nil, List.nil_append, List.cons_append, List.getElem?_cons_zero, List.getElem?_cons_succ, List.set_cons_zero, List.set_cons_succ, List.length_cons, List.length_nil, List.head?_cons, Nat.reduceAdd, Nat.reduceLT, Nat.reduceLeDiff, Nat.reduceBEq, Nat.reduceEqDiff, Nat.succ_ne_zero, Nat.zero_lt_succ, Nat.le_refl, sc_rows, kc_lit, nc_lit, wlk_rows, uR_s, uR_uR, true_and, and_true, true_or, or_true, false_or, or_false, and_false, false_and, or_self, and_self, if_true, if_false, Bool.false_eq_true, Bool.or_false, Bool.or_true, Bool.false_or, Bool.true_or, not_true_eq_false, not_false_eq_true, forall_const, true_implies, false_implies, implies_true, reduceIte, reduceCtorEq, nI_up]
              exact next (some j) (fun t e => by cases e; exact ⟨hjn, hcj⟩) (by simp only [cmb, if_neg gl])
        · have ec : cBk z j = none := by unfold cBk; rw [if_neg (fun q => gm q.2)]
          rw [ec] at next
          have gm' : ¬ mayR I B (B + 2 + σ j) := by rw [me j hjn]; exact gm
          cases g with
          | none =>
            refine wk ((fn0_ok l)) ok_38 60 (fun pc => pc == 37) ?_
            simp only [fn0, kk_38, Option.toList_some, Option.toList_none, ex, catS, vC, isMk, sym, popN, goC, callOK, swL, List.map_cons, List.map_nil, List.replicate_zero, List.replicate_succ, List.append_nil, List.nil_append, List.cons_append, List.getElem?_cons_zero, List.getElem?_cons_succ, List.set_cons_zero, List.set_cons_succ, List.length_cons, List.length_nil, List.head?_cons, Nat.reduceAdd, Nat.reduceLT, Nat.reduceLeDiff, Nat.reduceBEq, Nat.reduceEqDiff, Nat.succ_ne_zero, Nat.zero_lt_succ, Nat.le_refl, sc_rows, kc_lit, nc_lit, wlk_rows, uR_s, uR_uR, true_and, and_true, true_or, or_true, false_or, or_false, and_false, false_and, or_self, and_self, if_true, if_false, Bool.false_eq_true, Bool.or_false, Bool.or_true, Bool.false_or, Bool.true_or, not_true_eq_false, not_false_eq_true, forall_const, true_implies, false_implies, implies_true, reduceIte, reduceCtorEq, rvo, tbk hB, tbx hB, tbn L hB, qt hQ, e1, leF hjn (show n < 2147483648 by omega), ixp (show j < 12 by omega) (by omega), hS.1 j (by omega), k3 j hjn, tx, g3]
            refine c_near2 hB hQ (k3 j hjn) f ?_
            rw [if_neg gm']
            refine wk ((fn0_ok l)) ok_38 60 (fun pc => pc == 37) ?_
            simp only [fn0, kk_38, Option.toList_some, Option.toList_none, ex, catS, vC, isMk, sym, popN, goC, callOK, swL, List.map_cons, List.map_nil, List.replicate_zero, List.replicate_succ, List.append_nil, List.nil_append, List.cons_append, List.getElem?_cons_zero, List.getElem?_cons_succ, List.set_cons_zero, List.set_cons_succ, List.length_cons, List.length_nil, List.head?_cons, Nat.reduceAdd, Nat.reduceLT, Nat.reduceLeDiff, Nat.reduceBEq, Nat.reduceEqDiff, Nat.succ_ne_zero, Nat.zero_lt_succ, Nat.le_refl, sc_rows, kc_lit, nc_lit, wlk_rows, uR_s, uR_uR, true_and, and_true, true_or, or_true, false_or, or_false, and_false, false_and, or_self, and_self, if_true, if_false, Bool.false_eq_true, Bool.or_false, Bool.or_true, Bool.false_or, Bool.true_or, not_true_eq_false, not_false_eq_true, forall_const, true_implies, false_implies, implies_true, reduceIte, reduceCtorEq, nI_up]
            exact next none hg rfl
          | some t =>
            obtain ⟨t1, t2⟩ := hg t rfl
            refine wk ((fn0_ok l)) ok_38 60 (fun pc => pc == 37) ?_
            simp only [fn0, kk_38, Option.toList_some, Option.toList_none, ex, catS, vC, isMk, sym, popN, goC, callOK, swL, List.map_cons, List.map_nil, List.replicate_zero, List.replicate_succ, List.append_nil, List.nil_append, List.cons_append, List.getElem?_cons_zero, List.getElem?_cons_succ, List.set_cons_zero, List.set_cons_succ, List.length_cons, List.length_nil, List.head?_cons, Nat.reduceAdd, Nat.reduceLT, Nat.reduceLeDiff, Nat.reduceBEq, Nat.reduceEqDiff, Nat.succ_ne_zero, Nat.zero_lt_succ, Nat.le_refl, sc_rows, kc_lit, nc_lit, wlk_rows, uR_s, uR_uR, true_and, and_true, true_or, or_true, false_or, or_false, and_false, false_and, or_self, and_self, if_true, if_false, Bool.false_eq_true, Bool.or_false, Bool.or_true, Bool.false_or, Bool.true_or, not_true_eq_false, not_false_eq_true, forall_const, true_implies, false_implies, implies_true, reduceIte, reduceCtorEq, rvo, tbk hB, tbx hB, tbn L hB, qt hQ, e1, leF hjn (show n < 2147483648 by omega), ixp (show j < 12 by omega) (by omega), hS.1 j (by omega), k3 j hjn, k3 t t1, tx, g3]
            refine c_near3 hB hQ (k3 t t1) (k3 j hjn) f ?_
            rw [if_neg (fun q => gm' q.1)]
            refine wk ((fn0_ok l)) ok_38 60 (fun pc => pc == 37) ?_
            simp only [fn0, kk_38, Option.toList_some, Option.toList_none, ex, catS, vC, isMk, sym, popN, goC, callOK, swL, List.map_cons, List.map_nil, List.replicate_zero, List.replicate_succ, List.append_nil, List.nil_append, List.cons_append, List.getElem?_cons_zero, List.getElem?_cons_succ, List.set_cons_zero, List.set_cons_succ, List.length_cons, List.length_nil, List.head?_cons, Nat.reduceAdd, Nat.reduceLT, Nat.reduceLeDiff, Nat.reduceBEq, Nat.reduceEqDiff, Nat.succ_ne_zero, Nat.zero_lt_succ, Nat.le_refl, sc_rows, kc_lit, nc_lit, wlk_rows, uR_s, uR_uR, true_and, and_true, true_or, or_true, false_or, or_false, and_false, false_and, or_self, and_self, if_true, if_false, Bool.false_eq_true, Bool.or_false, Bool.or_true, Bool.false_or, Bool.true_or, not_true_eq_false, not_false_eq_true, forall_const, true_implies, false_implies, implies_true, reduceIte, reduceCtorEq, nI_up]
            exact next (some t) hg rfl
      · have ec : cBk z j = none := by unfold cBk; rw [if_neg (fun q => g3 q.1)]
        rw [ec, cmb_none] at next
        cases g with
        | none =>
          refine wk ((fn0_ok l)) ok_38 60 (fun pc => pc == 37) ?_
          simp only [fn0, kk_38, Option.toList_some, Option.toList_none, ex, catS, vC, isMk, sym, popN, goC, callOK, swL, List.map_cons, List.map_nil, List.replicate_zero, List.replicate_succ, List.append_nil, List.nil_append, List.cons_append, List.getElem?_cons_zero, List.getElem?_cons_succ, List.set_cons_zero, List.set_cons_succ, List.length_cons, List.length_nil, List.head?_cons, Nat.reduceAdd, Nat.reduceLT, Nat.reduceLeDiff, Nat.reduceBEq, Nat.reduceEqDiff, Nat.succ_ne_zero, Nat.zero_lt_succ, Nat.le_refl, sc_rows, kc_lit, nc_lit, wlk_rows, uR_s, uR_uR, true_and, and_true, true_or, or_true, false_or, or_false, and_false, false_and, or_self, and_self, if_true, if_false, Bool.false_eq_true, Bool.or_false, Bool.or_true, Bool.false_or, Bool.true_or, not_true_eq_false, not_false_eq_true, forall_const, true_implies, false_implies, implies_true, reduceIte, reduceCtorEq, rvo, tbk hB, tbx hB, tbn L hB, qt hQ, e1, leF hjn (show n < 2147483648 by omega), ixp (show j < 12 by omega) (by omega), hS.1 j (by omega), k3 j hjn, tx, eq_false g3, nI_up]
          exact next none hg rfl
        | some t =>
          refine wk ((fn0_ok l)) ok_38 60 (fun pc => pc == 37) ?_
          simp only [fn0, kk_38, Option.toList_some, Option.toList_none, ex, catS, vC, isMk, sym, popN, goC, callOK, swL, List.map_cons, List.map_nil, List.replicate_zero, List.replicate_succ, List.append_nil, List.nil_append, List.cons_append, List.getElem?_cons_zero, List.getElem?_cons_succ, List.set_cons_zero, List.set_cons_succ, List.length_cons, List.length_nil, List.head?_cons, Nat.reduceAdd, Nat.reduceLT, Nat.reduceLeDiff, Nat.reduceBEq, Nat.reduceEqDiff, Nat.succ_ne_zero, Nat.zero_lt_succ, Nat.le_refl, sc_rows, kc_lit, nc_lit, wlk_rows, uR_s, uR_uR, true_and, and_true, true_or, or_true, false_or, or_false, and_false, false_and, or_self, and_self, if_true, if_false, Bool.false_eq_true, Bool.or_false, Bool.or_true, Bool.false_or, Bool.true_or, not_true_eq_false, not_false_eq_true, forall_const, true_implies, false_implies, implies_true, reduceIte, reduceCtorEq, rvo, tbk hB, tbx hB, tbn L hB, qt hQ, e1, leF hjn (show n < 2147483648 by omega), ixp (show j < 12 by omega) (by omega), hS.1 j (by omega), k3 j hjn, tx, eq_false g3, nI_up]
          exact next (some t) hg rfl
  have loop1 : ∀ d j g, j + d = m → (∀ t, g = some t → t < n ∧ cnd z t) → g = pkF (leC z f) (fun _ _ => inferInstance) (cR z n) j → Sy l 38 (149, 1788) 4 [some (.ref B), some (.int f), some (rvo B σ g), some (.int (nI j))] [] (SC L, I, Q) P := by
    intro d
    induction d with
    | zero =>
      intro j g hj hg he
      have : j = m := by omega
      subst this
      have h0 := loop2 n 0 g (by omega) hg (by rw [he]; simp only [pkF]; rw [cmb_none])
      cases g with
      | none =>
        refine wk ((fn0_ok l)) ok_38 30 (fun pc => pc == 37) ?_
        simp only [fn0, kk_38, Option.toList_some, Option.toList_none, ex, catS, vC, isMk, sym, popN, goC, callOK, swL, List.map_cons, List.map_nil, List.replicate_zero, List.replicate_succ, List.append_nil, List.nil_append, List.cons_append, List.getElem?_cons_zero, List.getElem?_cons_succ, List.set_cons_zero, List.set_cons_succ, List.length_cons, List.length_nil, List.head?_cons, Nat.reduceAdd, Nat.reduceLT, Nat.reduceLeDiff, Nat.reduceBEq, Nat.reduceEqDiff, Nat.succ_ne_zero, Nat.zero_lt_succ, Nat.le_refl, sc_rows, kc_lit, nc_lit, wlk_rows, uR_s, uR_uR, true_and, and_true, true_or, or_true, false_or, or_false, and_false, false_and, or_self, and_self, if_true, if_false, Bool.false_eq_true, Bool.or_false, Bool.or_true, Bool.false_or, Bool.true_or, not_true_eq_false, not_false_eq_true, forall_const, true_implies, false_implies, implies_true, reduceIte, reduceCtorEq, rvo, tbk hB, tbx hB, e3, leT (Nat.le_refl j) (show j < 2147483648 by omega)]
        exact h0
      | some t =>
        refine wk ((fn0_ok l)) ok_38 30 (fun pc => pc == 37) ?_
        simp only [fn0, kk_38, Option.toList_some, Option.toList_none, ex, catS, vC, isMk, sym, popN, goC, callOK, swL, List.map_cons, List.map_nil, List.replicate_zero, List.replicate_succ, List.append_nil, List.nil_append, List.cons_append, List.getElem?_cons_zero, List.getElem?_cons_succ, List.set_cons_zero, List.set_cons_succ, List.length_cons, List.length_nil, List.head?_cons, Nat.reduceAdd, Nat.reduceLT, Nat.reduceLeDiff, Nat.reduceBEq, Nat.reduceEqDiff, Nat.succ_ne_zero, Nat.zero_lt_succ, Nat.le_refl, sc_rows, kc_lit, nc_lit, wlk_rows, uR_s, uR_uR, true_and, and_true, true_or, or_true, false_or, or_false, and_false, false_and, or_self, and_self, if_true, if_false, Bool.false_eq_true, Bool.or_false, Bool.or_true, Bool.false_or, Bool.true_or, not_true_eq_false, not_false_eq_true, forall_const, true_implies, false_implies, implies_true, reduceIte, reduceCtorEq, rvo, tbk hB, tbx hB, e3, leT (Nat.le_refl j) (show j < 2147483648 by omega)]
        exact h0
    | succ d ih =>
      intro j g hj hg he
      obtain ⟨i, i1, i2, i3, i4⟩ := hL.2.2.2.2.1 j (by omega)
      have elx : lx z n j = i := fTx_eq hL.2.2.2.1 i1 i3
      have next : ∀ g', (∀ t, g' = some t → t < n ∧ cnd z t) → g' = cmb (leC z f) (fun _ _ => inferInstance) g (cR z n j) → Sy l 38 (149, 1788) 4 [some (.ref B), some (.int f), some (rvo B σ g'), some (.int (nI (j + 1)))] [] (SC L, I, Q) P := by
        intro g' h2 h3
        refine ih (j + 1) g' (by omega) h2 ?_
        rw [h3, he]
        rfl
      have first : Runs l 31 [.ref B, .int (I (B + 14) j)] (SC L, I, Q) (fun v h' => v = some (.ref (B + 2 + σ i)) ∧ h' = (SC L, I, Q)) := by
        refine c_find hB hQ hS hC hL.1 hn _ (fun i' hi' he' => ?_) (fun hno => absurd (i3.trans (hC.2.2.2.1 j (by omega)).symm) (hno i i1))
        obtain rfl : i' = i := hL.2.2.2.1 i' i hi' i1 (he'.trans ((hC.2.2.2.1 j (by omega)).trans i3.symm))
        exact ⟨rfl, rfl⟩
      by_cases gm : may z i
      · have ec : cR z n j = some i := by unfold cR; rw [elx, if_pos gm]
        have hci : cnd z i := ⟨Or.inl i4, gm⟩
        rw [ec] at next
        have gm' : mayR I B (B + 2 + σ i) := by rw [me i i1]; exact gm
        cases g with
        | none =>
          refine wk ((fn0_ok l)) ok_38 60 (fun pc => pc == 4) ?_
          simp only [fn0, kk_38, Option.toList_some, Option.toList_none, ex, catS, vC, isMk, sym, popN, goC, callOK, swL, List.map_cons, List.map_nil, List.replicate_zero, List.replicate_succ, List.append_nil, List.nil_append, List.cons_append, List.getElem?_cons_zero, List.getElem?_cons_succ, List.set_cons_zero, List.set_cons_succ, List.length_cons, List.length_nil, List.head?_cons, Nat.reduceAdd, Nat.reduceLT, Nat.reduceLeDiff, Nat.reduceBEq, Nat.reduceEqDiff, Nat.succ_ne_zero, Nat.zero_lt_succ, Nat.le_refl, sc_rows, kc_lit, nc_lit, wlk_rows, uR_s, uR_uR, true_and, and_true, true_or, or_true, false_or, or_false, and_false, false_and, or_self, and_self, if_true, if_false, Bool.false_eq_true, Bool.or_false, Bool.or_true, Bool.false_or, Bool.true_or, not_true_eq_false, not_false_eq_true, forall_const, true_implies, false_implies, implies_true, reduceIte, reduceCtorEq, rvo, tbk hB, tbx hB, tbn L hB, qt hQ, e3, leF (show j < m by omega) (show m < 2147483648 by omega), ixp (show j < 12 by omega) (by omega)]
          refine first.mono (fun v h' hv => ?_)
          obtain ⟨rfl, rfl⟩ := hv
          refine wk ((fn0_ok l)) ok_38 60 (fun pc => pc == 4) ?_
          simp only [fn0, kk_38, Option.toList_some, Option.toList_none, ex, catS, vC, isMk, sym, popN, goC, callOK, swL, List.map_cons, List.map_nil, List.replicate_zero, List.replicate_succ, List.append_nil, List.nil_append, List.cons_append, List.getElem?_cons_zero, List.getElem?_cons_succ, List.set_cons_zero, List.set_cons_succ, List.length_cons, List.length_nil, List.head?_cons, Nat.reduceAdd, Nat.reduceLT, Nat.reduceLeDiff, Nat.reduceBEq, Nat.reduceEqDiff, Nat.succ_ne_zero, Nat.zero_lt_succ, Nat.le_refl, sc_rows, kc_lit, nc_lit, wlk_rows, uR_s, uR_uR, true_and, and_true, true_or, or_true, false_or, or_false, and_false, false_and, or_self, and_self, if_true, if_false, Bool.false_eq_true, Bool.or_false, Bool.or_true, Bool.false_or, Bool.true_or, not_true_eq_false, not_false_eq_true, forall_const, true_implies, false_implies, implies_true, reduceIte, reduceCtorEq, k3 i i1, tbk hB, tbx hB]
          refine c_near2 hB hQ (k3 i i1) f ?_
          rw [if_pos gm']
          refine wk ((fn0_ok l)) ok_38 60 (fun pc => pc == 4) ?_
          simp only [fn0, kk_38, Option.toList_some, Option.toList_none, ex, catS, vC, isMk, sym, popN, goC, callOK, swL, List.map_cons, List.map_nil, List.replicate_zero, List.replicate_succ, List.append_nil, List.nil_append, List.cons_append, List.getElem?_cons_zero, List.getElem?_cons_succ, List.set_cons_zero, List.set_cons_succ, List.length_cons, List.length_nil, List.head?_cons, Nat.reduceAdd, Nat.reduceLT, Nat.reduceLeDiff, Nat.reduceBEq, Nat.reduceEqDiff, Nat.succ_ne_zero, Nat.zero_lt_succ, Nat.le_refl, sc_rows, kc_lit, nc_lit, wlk_rows, uR_s, uR_uR, true_and, and_true, true_or, or_true, false_or, or_false, and_false, false_and, or_self, and_self, if_true, if_false, Bool.false_eq_true, Bool.or_false, Bool.or_true, Bool.false_or, Bool.true_or, not_true_eq_false, not_false_eq_true, forall_const, true_implies, false_implies, implies_true, reduceIte, reduceCtorEq, nI_up]
          exact next (some i) (fun t e => by cases e; exact ⟨i1, hci⟩) rfl
        | some t =>
          obtain ⟨t1, t2⟩ := hg t rfl
          by_cases gl : nd z t f ≤ nd z i f
          · refine wk ((fn0_ok l)) ok_38 60 (fun pc => pc == 4) ?_
            simp only [fn0, kk_38, Option.toList_some, Option.toList_none, ex, catS, vC, isMk, sym, popN, goC, callOK, swL, List.map_cons, List.map_nil, List.replicate_zero, List.replicate_succ, List.append_nil, List.nil_append, List.cons_append, List.getElem?_cons_zero, List.getElem?_cons_succ, List.set_cons_zero, List.set_cons_succ, List.length_cons, List.length_nil, List.head?_cons, Nat.reduceAdd, Nat.reduceLT, Nat.reduceLeDiff, Nat.reduceBEq, Nat.reduceEqDiff, Nat.succ_ne_zero, Nat.zero_lt_succ, Nat.le_refl, sc_rows, kc_lit, nc_lit, wlk_rows, uR_s, uR_uR, true_and, and_true, true_or, or_true, false_or, or_false, and_false, false_and, or_self, and_self, if_true, if_false, Bool.false_eq_true, Bool.or_false, Bool.or_true, Bool.false_or, Bool.true_or, not_true_eq_false, not_false_eq_true, forall_const, true_implies, false_implies, implies_true, reduceIte, reduceCtorEq, rvo, tbk hB, tbx hB, tbn L hB, qt hQ, e3, leF (show j < m by omega) (show m < 2147483648 by omega), ixp (show j < 12 by omega) (by omega)]
            refine first.mono (fun v h' hv => ?_)
            obtain ⟨rfl, rfl⟩ := hv
            refine wk ((fn0_ok l)) ok_38 60 (fun pc => pc == 4) ?_
            simp only [fn0, kk_38, Option.toList_some, Option.toList_none, ex, catS, vC, isMk, sym, popN, goC, callOK, swL, List.map_cons, List.map_nil, List.replicate_zero, List.replicate_succ, List.append_nil, List.nil_append, List.cons_append, List.getElem?_cons_zero, List.getElem?_cons_succ, List.set_cons_zero, List.set_cons_succ, List.length_cons, List.length_nil, List.head?_cons, Nat.reduceAdd, Nat.reduceLT, Nat.reduceLeDiff, Nat.reduceBEq, Nat.reduceEqDiff, Nat.succ_ne_zero, Nat.zero_lt_succ, Nat.le_refl, sc_rows, kc_lit, nc_lit, wlk_rows, uR_s, uR_uR, true_and, and_true, true_or, or_true, false_or, or_false, and_false, false_and, or_self, and_self, if_true, if_false, Bool.false_eq_true, Bool.or_false, Bool.or_true, Bool.false_or, Bool.true_or, not_true_eq_false, not_false_eq_true, forall_const, true_implies, false_implies, implies_true, reduceIte, reduceCtorEq, k3 i i1, k3 t t1, tbk hB, tbx hB]
            refine c_near3 hB hQ (k3 t t1) (k3 i i1) f ?_
            rw [mi t t1 t2, mi i i1 hci, if_neg (fun q => absurd q.2 (Int32.not_lt.mpr gl))]
            refine wk ((fn0_ok l)) ok_38 60 (fun pc => pc == 4) ?_
            simp only [fn0, kk_38, Option.toList_some, Option.toList_none, ex, catS, vC, isMk, sym, popN, goC, callOK, swL, List.map_cons, List.map_nil, List.replicate_zero, List.replicate_succ, List.append_nil, List.nil_append, List.cons_append, List.getElem?_cons_zero, List.getElem?_cons_succ, List.set_cons_zero, List.set_cons_succ, List.length_cons, List.length_nil, List.head?_cons, Nat.reduceAdd, Nat.reduceLT, Nat.reduceLeDiff, Nat.reduceBEq, Nat.reduceEqDiff, Nat.succ_ne_zero, Nat.zero_lt_succ, Nat.le_refl, sc_rows, kc_lit, nc_lit, wlk_rows, uR_s, uR_uR, true_and, and_true, true_or, or_true, false_or, or_false, and_false, false_and, or_self, and_self, if_true, if_false, Bool.false_eq_true, Bool.or_false, Bool.or_true, Bool.false_or, Bool.true_or, not_true_eq_false, not_false_eq_true, forall_const, true_implies, false_implies, implies_true, reduceIte, reduceCtorEq, nI_up]
            exact next (some t) hg (by simp only [cmb, if_pos gl])
          · refine wk ((fn0_ok l)) ok_38 60 (fun pc => pc == 4) ?_
            simp only [fn0, kk_38, Option.toList_some, Option.toList_none, ex, catS, vC, isMk, sym, popN, goC, callOK, swL, List.map_cons, List.map_nil, List.replicate_zero, List.replicate_succ, List.append_nil, List.nil_append, List.cons_append, List.getElem?_cons_zero, List.getElem?_cons_succ, List.set_cons_zero, List.set_cons_succ, List.length_cons, List.length_nil, List.head?_cons, Nat.reduceAdd, Nat.reduceLT, Nat.reduceLeDiff, Nat.reduceBEq, Nat.reduceEqDiff, Nat.succ_ne_zero, Nat.zero_lt_succ, Nat.le_refl, sc_rows, kc_lit, nc_lit, wlk_rows, uR_s, uR_uR, true_and, and_true, true_or, or_true, false_or, or_false, and_false, false_and, or_self, and_self, if_true, if_false, Bool.false_eq_true, Bool.or_false, Bool.or_true, Bool.false_or, Bool.true_or, not_true_eq_false, not_false_eq_true, forall_const, true_implies, false_implies, implies_true, reduceIte, reduceCtorEq, rvo, tbk hB, tbx hB, tbn L hB, qt hQ, e3, leF (show j < m by omega) (show m < 2147483648 by omega), ixp (show j < 12 by omega) (by omega)]
            refine first.mono (fun v h' hv => ?_)
            obtain ⟨rfl, rfl⟩ := hv
            refine wk ((fn0_ok l)) ok_38 60 (fun pc => pc == 4) ?_
            simp only [fn0, kk_38, Option.toList_some, Option.toList_none, ex, catS, vC, isMk, sym, popN, goC, callOK, swL, List.map_cons, List.map_nil, List.replicate_zero, List.replicate_succ, List.append_nil, List.nil_append, List.cons_append, List.getElem?_cons_zero, List.getElem?_cons_succ, List.set_cons_zero, List.set_cons_succ, List.length_cons, List.length_nil, List.head?_cons, Nat.reduceAdd, Nat.reduceLT, Nat.reduceLeDiff, Nat.reduceBEq, Nat.reduceEqDiff, Nat.succ_ne_zero, Nat.zero_lt_succ, Nat.le_refl, sc_rows, kc_lit, nc_lit, wlk_rows, uR_s, uR_uR, true_and, and_true, true_or, or_true, false_or, or_false, and_false, false_and, or_self, and_self, if_true, if_false, Bool.false_eq_true, Bool.or_false, Bool.or_true, Bool.false_or, Bool.true_or, not_true_eq_false, not_false_eq_true, forall_const, true_implies, false_implies, implies_true, reduceIte, reduceCtorEq, k3 i i1, k3 t t1, tbk hB, tbx hB]
            refine c_near3 hB hQ (k3 t t1) (k3 i i1) f ?_
            rw [mi t t1 t2, mi i i1 hci, if_pos ⟨gm', Int32.not_le.mp gl⟩]
            refine wk ((fn0_ok l)) ok_38 60 (fun pc => pc == 4) ?_
            simp only [fn0, kk_38, Option.toList_some, Option.toList_none, ex, catS, vC, isMk, sym, popN, goC, callOK, swL, List.map_cons, List.map_nil, List.replicate_zero, List.replicate_succ, List.append_nil, List.nil_append, List.cons_append, List.getElem?_cons_zero, List.getElem?_cons_succ, List.set_cons_zero, List.set_cons_succ, List.length_cons, List.length_nil, List.head?_cons, Nat.reduceAdd, Nat.reduceLT, Nat.reduceLeDiff, Nat.reduceBEq, Nat.reduceEqDiff, Nat.succ_ne_zero, Nat.zero_lt_succ, Nat.le_refl, sc_rows, kc_lit, nc_lit, wlk_rows, uR_s, uR_uR, true_and, and_true, true_or, or_true, false_or, or_false, and_false, false_and, or_self, and_self, if_true, if_false, Bool.false_eq_true, Bool.or_false, Bool.or_true, Bool.false_or, Bool.true_or, not_true_eq_false, not_false_eq_true, forall_const, true_implies, false_implies, implies_true, reduceIte, reduceCtorEq, nI_up]
            exact next (some i) (fun t e => by cases e; exact ⟨i1, hci⟩) (by simp only [cmb, if_neg gl])
      · have ec : cR z n j = none := by unfold cR; rw [elx, if_neg gm]
        rw [ec] at next
        have gm' : ¬ mayR I B (B + 2 + σ i) := by rw [me i i1]; exact gm
        cases g with
        | none =>
          refine wk ((fn0_ok l)) ok_38 60 (fun pc => pc == 4) ?_
          simp only [fn0, kk_38, Option.toList_some, Option.toList_none, ex, catS, vC, isMk, sym, popN, goC, callOK, swL, List.map_cons, List.map_nil, List.replicate_zero, List.replicate_succ, List.append_nil, List.nil_append, List.cons_append, List.getElem?_cons_zero, List.getElem?_cons_succ, List.set_cons_zero, List.set_cons_succ, List.length_cons, List.length_nil, List.head?_cons, Nat.reduceAdd, Nat.reduceLT, Nat.reduceLeDiff, Nat.reduceBEq, Nat.reduceEqDiff, Nat.succ_ne_zero, Nat.zero_lt_succ, Nat.le_refl, sc_rows, kc_lit, nc_lit, wlk_rows, uR_s, uR_uR, true_and, and_true, true_or, or_true, false_or, or_false, and_false, false_and, or_self, and_self, if_true, if_false, Bool.false_eq_true, Bool.or_false, Bool.or_true, Bool.false_or, Bool.true_or, not_true_eq_false, not_false_eq_true, forall_const, true_implies, false_implies, implies_true, reduceIte, reduceCtorEq, rvo, tbk hB, tbx hB, tbn L hB, qt hQ, e3, leF (show j < m by omega) (show m < 2147483648 by omega), ixp (show j < 12 by omega) (by omega)]
          refine first.mono (fun v h' hv => ?_)
          obtain ⟨rfl, rfl⟩ := hv
          refine wk ((fn0_ok l)) ok_38 60 (fun pc => pc == 4) ?_
          simp only [fn0, kk_38, Option.toList_some, Option.toList_none, ex, catS, vC, isMk, sym, popN, goC, callOK, swL, List.map_cons, List.map_nil, List.replicate_zero, List.replicate_succ, List.append_nil, List.nil_append, List.cons_append, List.getElem?_cons_zero, List.getElem?_cons_succ, List.set_cons_zero, List.set_cons_succ, List.length_cons, List.length_nil, List.head?_cons, Nat.reduceAdd, Nat.reduceLT, Nat.reduceLeDiff, Nat.reduceBEq, Nat.reduceEqDiff, Nat.succ_ne_zero, Nat.zero_lt_succ, Nat.le_refl, sc_rows, kc_lit, nc_lit, wlk_rows, uR_s, uR_uR, true_and, and_true, true_or, or_true, false_or, or_false, and_false, false_and, or_self, and_self, if_true, if_false, Bool.false_eq_true, Bool.or_false, Bool.or_true, Bool.false_or, Bool.true_or, not_true_eq_false, not_false_eq_true, forall_const, true_implies, false_implies, implies_true, reduceIte, reduceCtorEq, k3 i i1, tbk hB, tbx hB]
          refine c_near2 hB hQ (k3 i i1) f ?_
          rw [if_neg gm']
          refine wk ((fn0_ok l)) ok_38 60 (fun pc => pc == 4) ?_
          simp only [fn0, kk_38, Option.toList_some, Option.toList_none, ex, catS, vC, isMk, sym, popN, goC, callOK, swL, List.map_cons, List.map_nil, List.replicate_zero, List.replicate_succ, List.append_nil, List.nil_append, List.cons_append, List.getElem?_cons_zero, List.getElem?_cons_succ, List.set_cons_zero, List.set_cons_succ, List.length_cons, List.length_nil, List.head?_cons, Nat.reduceAdd, Nat.reduceLT, Nat.reduceLeDiff, Nat.reduceBEq, Nat.reduceEqDiff, Nat.succ_ne_zero, Nat.zero_lt_succ, Nat.le_refl, sc_rows, kc_lit, nc_lit, wlk_rows, uR_s, uR_uR, true_and, and_true, true_or, or_true, false_or, or_false, and_false, false_and, or_self, and_self, if_true, if_false, Bool.false_eq_true, Bool.or_false, Bool.or_true, Bool.false_or, Bool.true_or, not_true_eq_false, not_false_eq_true, forall_const, true_implies, false_implies, implies_true, reduceIte, reduceCtorEq, nI_up]
          exact next none hg rfl
        | some t =>
          obtain ⟨t1, t2⟩ := hg t rfl
          refine wk ((fn0_ok l)) ok_38 60 (fun pc => pc == 4) ?_
          simp only [fn0, kk_38, Option.toList_some, Option.toList_none, ex, catS, vC, isMk, sym, popN, goC, callOK, swL, List.map_cons, List.map_nil, List.replicate_zero, List.replicate_succ, List.append_nil, List.nil_append, List.cons_append, List.getElem?_cons_zero, List.getElem?_cons_succ, List.set_cons_zero, List.set_cons_succ, List.length_cons, List.length_nil, List.head?_cons, Nat.reduceAdd, Nat.reduceLT, Nat.reduceLeDiff, Nat.reduceBEq, Nat.reduceEqDiff, Nat.succ_ne_zero, Nat.zero_lt_succ, Nat.le_refl, sc_rows, kc_lit, nc_lit, wlk_rows, uR_s, uR_uR, true_and, and_true, true_or, or_true, false_or, or_false, and_false, false_and, or_self, and_self, if_true, if_false, Bool.false_eq_true, Bool.or_false, Bool.or_true, Bool.false_or, Bool.true_or, not_true_eq_false, not_false_eq_true, forall_const, true_implies, false_implies, implies_true, reduceIte, reduceCtorEq, rvo, tbk hB, tbx hB, tbn L hB, qt hQ, e3, leF (show j < m by omega) (show m < 2147483648 by omega), ixp (show j < 12 by omega) (by omega)]
          refine first.mono (fun v h' hv => ?_)
          obtain ⟨rfl, rfl⟩ := hv
          refine wk ((fn0_ok l)) ok_38 60 (fun pc => pc == 4) ?_
          simp only [fn0, kk_38, Option.toList_some, Option.toList_none, ex, catS, vC, isMk, sym, popN, goC, callOK, swL, List.map_cons, List.map_nil, List.replicate_zero, List.replicate_succ, List.append_nil, List.nil_append, List.cons_append, List.getElem?_cons_zero, List.getElem?_cons_succ, List.set_cons_zero, List.set_cons_succ, List.length_cons, List.length_nil, List.head?_cons, Nat.reduceAdd, Nat.reduceLT, Nat.reduceLeDiff, Nat.reduceBEq, Nat.reduceEqDiff, Nat.succ_ne_zero, Nat.zero_lt_succ, Nat.le_refl, sc_rows, kc_lit, nc_lit, wlk_rows, uR_s, uR_uR, true_and, and_true, true_or, or_true, false_or, or_false, and_false, false_and, or_self, and_self, if_true, if_false, Bool.false_eq_true, Bool.or_false, Bool.or_true, Bool.false_or, Bool.true_or, not_true_eq_false, not_false_eq_true, forall_const, true_implies, false_implies, implies_true, reduceIte, reduceCtorEq, k3 i i1, k3 t t1, tbk hB, tbx hB]
          refine c_near3 hB hQ (k3 t t1) (k3 i i1) f ?_
          rw [if_neg (fun q => gm' q.1)]
          refine wk ((fn0_ok l)) ok_38 60 (fun pc => pc == 4) ?_
          simp only [fn0, kk_38, Option.toList_some, Option.toList_none, ex, catS, vC, isMk, sym, popN, goC, callOK, swL, List.map_cons, List.map_nil, List.replicate_zero, List.replicate_succ, List.append_nil, List.nil_append, List.cons_append, List.getElem?_cons_zero, List.getElem?_cons_succ, List.set_cons_zero, List.set_cons_succ, List.length_cons, List.length_nil, List.head?_cons, Nat.reduceAdd, Nat.reduceLT, Nat.reduceLeDiff, Nat.reduceBEq, Nat.reduceEqDiff, Nat.succ_ne_zero, Nat.zero_lt_succ, Nat.le_refl, sc_rows, kc_lit, nc_lit, wlk_rows, uR_s, uR_uR, true_and, and_true, true_or, or_true, false_or, or_false, and_false, false_and, or_self, and_self, if_true, if_false, Bool.false_eq_true, Bool.or_false, Bool.or_true, Bool.false_or, Bool.true_or, not_true_eq_false, not_false_eq_true, forall_const, true_implies, false_implies, implies_true, reduceIte, reduceCtorEq, nI_up]
          exact next (some t) hg rfl
  refine run0 (n := 2) mok_38 ⟨rfl, rfl⟩ rfl ?_
  refine wk ((fn0_ok l)) ok_38 30 (fun pc => pc == 4) ?_
  simp only [fn0, kk_38, Option.toList_some, Option.toList_none, ex, catS, vC, isMk, sym, popN, goC, callOK, swL, List.map_cons, List.map_nil, List.replicate_zero, List.replicate_succ, List.append_nil, List.nil_append, List.cons_append, List.getElem?_cons_zero, List.getElem?_cons_succ, List.set_cons_zero, List.set_cons_succ, List.length_cons, List.length_nil, List.head?_cons, Nat.reduceAdd, Nat.reduceLT, Nat.reduceLeDiff, Nat.reduceBEq, Nat.reduceEqDiff, Nat.succ_ne_zero, Nat.zero_lt_succ, Nat.le_refl, sc_rows, kc_lit, nc_lit, wlk_rows, uR_s, uR_uR, true_and, and_true, true_or, or_true, false_or, or_false, and_false, false_and, or_self, and_self, if_true, if_false, Bool.false_eq_true, Bool.or_false, Bool.or_true, Bool.false_or, Bool.true_or, not_true_eq_false, not_false_eq_true, forall_const, true_implies, false_implies, implies_true, reduceIte, reduceCtorEq]
  exact loop1 m 0 none (by omega) (fun t e => by cases e) rfl
end E7

