/-! the class: a town at a base, and the state that it holds -/
theorem rws (B : Nat) {s : Nat} (hs : s < 12) : (∀ (f : Nat → Nat → Int32) g, uR f (B) g (B + 14) = f (B + 14)) ∧ (∀ (f : Nat → Nat → Int32) g, uR f (B) g (B + 15) = f (B + 15)) ∧ (∀ (f : Nat → Nat → Int32) g, uR f (B) g (B + 16) = f (B + 16)) ∧ (∀ (f : Nat → Nat → Int32) g, uR f (B) g (B + 17) = f (B + 17)) ∧ (∀ (f : Nat → Nat → Int32) g, uR f (B) g (B + 18) = f (B + 18)) ∧ (∀ (f : Nat → Nat → Int32) g, uR f (B) g (B + 19) = f (B + 19)) ∧ (∀ (f : Nat → Nat → Int32) g, uR f (B) g (B + 2 + s) = f (B + 2 + s)) ∧ (∀ (f : Nat → Nat → Int32) g, uR f (B) g (B + 1) = f (B + 1)) ∧ (∀ (f : Nat → Nat → Int32) g, uR f (B + 14) g (B) = f (B)) ∧ (∀ (f : Nat → Nat → Int32) g, uR f (B + 14) g (B + 15) = f (B + 15)) ∧ (∀ (f : Nat → Nat → Int32) g, uR f (B + 14) g (B + 16) = f (B + 16)) ∧ (∀ (f : Nat → Nat → Int32) g, uR f (B + 14) g (B + 17) = f (B + 17)) ∧ (∀ (f : Nat → Nat → Int32) g, uR f (B + 14) g (B + 18) = f (B + 18)) ∧ (∀ (f : Nat → Nat → Int32) g, uR f (B + 14) g (B + 19) = f (B + 19)) ∧ (∀ (f : Nat → Nat → Int32) g, uR f (B + 14) g (B + 2 + s) = f (B + 2 + s)) ∧ (∀ (f : Nat → Nat → Int32) g, uR f (B + 14) g (B + 1) = f (B + 1)) ∧ (∀ (f : Nat → Nat → Int32) g, uR f (B + 15) g (B) = f (B)) ∧ (∀ (f : Nat → Nat → Int32) g, uR f (B + 15) g (B + 14) = f (B + 14)) ∧ (∀ (f : Nat → Nat → Int32) g, uR f (B + 15) g (B + 16) = f (B + 16)) ∧ (∀ (f : Nat → Nat → Int32) g, uR f (B + 15) g (B + 17) = f (B + 17)) ∧ (∀ (f : Nat → Nat → Int32) g, uR f (B + 15) g (B + 18) = f (B + 18)) ∧ (∀ (f : Nat → Nat → Int32) g, uR f (B + 15) g (B + 19) = f (B + 19)) ∧ (∀ (f : Nat → Nat → Int32) g, uR f (B + 15) g (B + 2 + s) = f (B + 2 + s)) ∧ (∀ (f : Nat → Nat → Int32) g, uR f (B + 15) g (B + 1) = f (B + 1)) ∧ (∀ (f : Nat → Nat → Int32) g, uR f (B + 16) g (B) = f (B)) ∧ (∀ (f : Nat → Nat → Int32) g, uR f (B + 16) g (B + 14) = f (B + 14)) ∧ (∀ (f : Nat → Nat → Int32) g, uR f (B + 16) g (B + 15) = f (B + 15)) ∧ (∀ (f : Nat → Nat → Int32) g, uR f (B + 16) g (B + 17) = f (B + 17)) ∧ (∀ (f : Nat → Nat → Int32) g, uR f (B + 16) g (B + 18) = f (B + 18)) ∧ (∀ (f : Nat → Nat → Int32) g, uR f (B + 16) g (B + 19) = f (B + 19)) ∧ (∀ (f : Nat → Nat → Int32) g, uR f (B + 16) g (B + 2 + s) = f (B + 2 + s)) ∧ (∀ (f : Nat → Nat → Int32) g, uR f (B + 16) g (B + 1) = f (B + 1)) ∧ (∀ (f : Nat → Nat → Int32) g, uR f (B + 17) g (B) = f (B)) ∧ (∀ (f : Nat → Nat → Int32) g, uR f (B + 17) g (B + 14) = f (B + 14)) ∧ (∀ (f : Nat → Nat → Int32) g, uR f (B + 17) g (B + 15) = f (B + 15)) ∧ (∀ (f : Nat → Nat → Int32) g, uR f (B + 17) g (B + 16) = f (B + 16)) ∧ (∀ (f : Nat → Nat → Int32) g, uR f (B + 17) g (B + 18) = f (B + 18)) ∧ (∀ (f : Nat → Nat → Int32) g, uR f (B + 17) g (B + 19) = f (B + 19)) ∧ (∀ (f : Nat → Nat → Int32) g, uR f (B + 17) g (B + 2 + s) = f (B + 2 + s)) ∧ (∀ (f : Nat → Nat → Int32) g, uR f (B + 17) g (B + 1) = f (B + 1)) ∧ (∀ (f : Nat → Nat → Int32) g, uR f (B + 18) g (B) = f (B)) ∧ (∀ (f : Nat → Nat → Int32) g, uR f (B + 18) g (B + 14) = f (B + 14)) ∧ (∀ (f : Nat → Nat → Int32) g, uR f (B + 18) g (B + 15) = f (B + 15)) ∧ (∀ (f : Nat → Nat → Int32) g, uR f (B + 18) g (B + 16) = f (B + 16)) ∧ (∀ (f : Nat → Nat → Int32) g, uR f (B + 18) g (B + 17) = f (B + 17)) ∧ (∀ (f : Nat → Nat → Int32) g, uR f (B + 18) g (B + 19) = f (B + 19)) ∧ (∀ (f : Nat → Nat → Int32) g, uR f (B + 18) g (B + 2 + s) = f (B + 2 + s)) ∧ (∀ (f : Nat → Nat → Int32) g, uR f (B + 18) g (B + 1) = f (B + 1)) ∧ (∀ (f : Nat → Nat → Int32) g, uR f (B + 19) g (B) = f (B)) ∧ (∀ (f : Nat → Nat → Int32) g, uR f (B + 19) g (B + 14) = f (B + 14)) ∧ (∀ (f : Nat → Nat → Int32) g, uR f (B + 19) g (B + 15) = f (B + 15)) ∧ (∀ (f : Nat → Nat → Int32) g, uR f (B + 19) g (B + 16) = f (B + 16)) ∧ (∀ (f : Nat → Nat → Int32) g, uR f (B + 19) g (B + 17) = f (B + 17)) ∧ (∀ (f : Nat → Nat → Int32) g, uR f (B + 19) g (B + 18) = f (B + 18)) ∧ (∀ (f : Nat → Nat → Int32) g, uR f (B + 19) g (B + 2 + s) = f (B + 2 + s)) ∧ (∀ (f : Nat → Nat → Int32) g, uR f (B + 19) g (B + 1) = f (B + 1)) ∧ (∀ (f : Nat → Nat → Int32) g, uR f (B + 2 + s) g (B) = f (B)) ∧ (∀ (f : Nat → Nat → Int32) g, uR f (B + 2 + s) g (B + 14) = f (B + 14)) ∧ (∀ (f : Nat → Nat → Int32) g, uR f (B + 2 + s) g (B + 15) = f (B + 15)) ∧ (∀ (f : Nat → Nat → Int32) g, uR f (B + 2 + s) g (B + 16) = f (B + 16)) ∧ (∀ (f : Nat → Nat → Int32) g, uR f (B + 2 + s) g (B + 17) = f (B + 17)) ∧ (∀ (f : Nat → Nat → Int32) g, uR f (B + 2 + s) g (B + 18) = f (B + 18)) ∧ (∀ (f : Nat → Nat → Int32) g, uR f (B + 2 + s) g (B + 19) = f (B + 19)) ∧ (∀ (f : Nat → Nat → Int32) g, uR f (B + 2 + s) g (B + 1) = f (B + 1)) ∧ (∀ (f : Nat → Nat → Int32) g, uR f (B + 1) g (B) = f (B)) ∧ (∀ (f : Nat → Nat → Int32) g, uR f (B + 1) g (B + 14) = f (B + 14)) ∧ (∀ (f : Nat → Nat → Int32) g, uR f (B + 1) g (B + 15) = f (B + 15)) ∧ (∀ (f : Nat → Nat → Int32) g, uR f (B + 1) g (B + 16) = f (B + 16)) ∧ (∀ (f : Nat → Nat → Int32) g, uR f (B + 1) g (B + 17) = f (B + 17)) ∧ (∀ (f : Nat → Nat → Int32) g, uR f (B + 1) g (B + 18) = f (B + 18)) ∧ (∀ (f : Nat → Nat → Int32) g, uR f (B + 1) g (B + 19) = f (B + 19)) ∧ (∀ (f : Nat → Nat → Int32) g, uR f (B + 1) g (B + 2 + s) = f (B + 2 + s)) := ⟨fun _ _ => uR_n _ _ (by omega), fun _ _ => uR_n _ _ (by omega), fun _ _ => uR_n _ _ (by omega), fun _ _ => uR_n _ _ (by omega), fun _ _ => uR_n _ _ (by omega), fun _ _ => uR_n _ _ (by omega), fun _ _ => uR_n _ _ (by omega), fun _ _ => uR_n _ _ (by omega), fun _ _ => uR_n _ _ (by omega), fun _ _ => uR_n _ _ (by omega), fun _ _ => uR_n _ _ (by omega), fun _ _ => uR_n _ _ (by omega), fun _ _ => uR_n _ _ (by omega), fun _ _ => uR_n _ _ (by omega), fun _ _ => uR_n _ _ (by omega), fun _ _ => uR_n _ _ (by omega), fun _ _ => uR_n _ _ (by omega), fun _ _ => uR_n _ _ (by omega), fun _ _ => uR_n _ _ (by omega), fun _ _ => uR_n _ _ (by omega), fun _ _ => uR_n _ _ (by omega), fun _ _ => uR_n _ _ (by omega), fun _ _ => uR_n _ _ (by omega), fun _ _ => uR_n _ _ (by omega), fun _ _ => uR_n _ _ (by omega), fun _ _ => uR_n _ _ (by omega), fun _ _ => uR_n _ _ (by omega), fun _ _ => uR_n _ _ (by omega), fun _ _ => uR_n _ _ (by omega), fun _ _ => uR_n _ _ (by omega), fun _ _ => uR_n _ _ (by omega), fun _ _ => uR_n _ _ (by omega), fun _ _ => uR_n _ _ (by omega), fun _ _ => uR_n _ _ (by omega), fun _ _ => uR_n _ _ (by omega), fun _ _ => uR_n _ _ (by omega), fun _ _ => uR_n _ _ (by omega), fun _ _ => uR_n _ _ (by omega), fun _ _ => uR_n _ _ (by omega), fun _ _ => uR_n _ _ (by omega), fun _ _ => uR_n _ _ (by omega), fun _ _ => uR_n _ _ (by omega), fun _ _ => uR_n _ _ (by omega), fun _ _ => uR_n _ _ (by omega), fun _ _ => uR_n _ _ (by omega), fun _ _ => uR_n _ _ (by omega), fun _ _ => uR_n _ _ (by omega), fun _ _ => uR_n _ _ (by omega), fun _ _ => uR_n _ _ (by omega), fun _ _ => uR_n _ _ (by omega), fun _ _ => uR_n _ _ (by omega), fun _ _ => uR_n _ _ (by omega), fun _ _ => uR_n _ _ (by omega), fun _ _ => uR_n _ _ (by omega), fun _ _ => uR_n _ _ (by omega), fun _ _ => uR_n _ _ (by omega), fun _ _ => uR_n _ _ (by omega), fun _ _ => uR_n _ _ (by omega), fun _ _ => uR_n _ _ (by omega), fun _ _ => uR_n _ _ (by omega), fun _ _ => uR_n _ _ (by omega), fun _ _ => uR_n _ _ (by omega), fun _ _ => uR_n _ _ (by omega), fun _ _ => uR_n _ _ (by omega), fun _ _ => uR_n _ _ (by omega), fun _ _ => uR_n _ _ (by omega), fun _ _ => uR_n _ _ (by omega), fun _ _ => uR_n _ _ (by omega), fun _ _ => uR_n _ _ (by omega), fun _ _ => uR_n _ _ (by omega), fun _ _ => uR_n _ _ (by omega), fun _ _ => uR_n _ _ (by omega)⟩
theorem rws2 (B : Nat) {s t : Nat} (hs : s < 12) (ht : t < 12) (h : s ≠ t) : (∀ (f : Nat → Nat → Int32) g, uR f (B + 2 + s) g (B + 2 + t) = f (B + 2 + t)) ∧ (∀ (f : Nat → Nat → Int32) g, uR f (B + 2 + t) g (B + 2 + s) = f (B + 2 + s)) := ⟨fun _ _ => uR_n _ _ (by omega), fun _ _ => uR_n _ _ (by omega)⟩
/-- a taxi's field in the class, and in the state -/
def cm (u : Nat) : Nat := if u = 9 then 12 else u
theorem cm_lit : cm 0 = 0 ∧ cm 1 = 1 ∧ cm 2 = 2 ∧ cm 3 = 3 ∧ cm 4 = 4 ∧ cm 5 = 5 ∧ cm 6 = 6 ∧ cm 7 = 7 ∧ cm 8 = 8 ∧ cm 9 = 12 ∧ cm 10 = 10 ∧ cm 11 = 11 := by decide
theorem cm_lt {u : Nat} (h : u < 12) : cm u < 13 := by unfold cm; split <;> omega
def TxA (f : Nat → Int32) (z : Nat → Int32) (i : Nat) : Prop := ∀ u, u < 12 → f u = z (tp i (cm u))
def TwA (g z : Nat → Int32) : Prop := (g 1 = z 11 ∧ g 3 = z 12) ∧ ∀ u, 6 ≤ u → u < 12 → g u = z (u - 1)
def QS (Q : Nat → Nat → Option Nat) (B : Nat) (σ : Nat → Nat) : Prop := (∀ i, i < 12 → Q (B + 1) i = some (B + 2 + σ i)) ∧ (∀ i, i < 12 → σ i < 12) ∧ ∀ i j, i < 12 → j < 12 → σ i = σ j → i = j
def WtA (I : Nat → Nat → Int32) (B : Nat) (z : Nat → Int32) (k : Nat) : Prop := (I (B + 15) 0 = z 13 ∧ I (B + 15) 4 = z 14) ∧ ∀ r, r < k → I (B + 16) r = z (27 + 3 * r) ∧ I (B + 17) r = z (27 + 3 * r + 1) ∧ I (B + 18) r = z (27 + 3 * r + 2)
/-- THE TOWN AT B HOLDS THE STATE z -/
def CA (I : Nat → Nat → Int32) (B : Nat) (σ : Nat → Nat) (z : Nat → Int32) (n m k : Nat) : Prop := TwA (I B) z ∧ (∀ i, i < n → TxA (I (B + 2 + σ i)) z i) ∧ (∀ i, n ≤ i → i < 12 → ∀ u, u < 12 → I (B + 2 + σ i) u = 0) ∧ (∀ j, j < m → I (B + 14) j = z (15 + j)) ∧ (∀ j, j < 5 → I (B + 19) j = z j) ∧ WtA I B z k
/-- nothing but the town has changed -/
def Fr (I I' : Nat → Nat → Int32) (B : Nat) : Prop := ∀ p, p < B ∨ B + 20 ≤ p → I' p = I p
theorem Fr.rf (I : Nat → Nat → Int32) (B : Nat) : Fr I I B := fun _ _ => rfl
theorem Fr.tr {I I' I'' : Nat → Nat → Int32} {B : Nat} (h : Fr I I' B) (h' : Fr I' I'' B) : Fr I I'' B := fun p hp => (h' p hp).trans (h p hp)
theorem Fr.up (I : Nat → Nat → Int32) {B q : Nat} (g : Nat → Int32) (h : B ≤ q ∧ q < B + 20) : Fr I (uR I q g) B := fun p hp => uR_n _ _ (by omega)
theorem CA.row {I : Nat → Nat → Int32} {B : Nat} {σ : Nat → Nat} {z z' : Nat → Int32} {n m k i : Nat} {f : Nat → Int32} (h : CA I B σ z n m k) (hn : n ≤ 12) (hs : (∀ i, i < 12 → σ i < 12) ∧ ∀ i j, i < 12 → j < 12 → σ i = σ j → i = j) (hi : i < n) (hf : TxA f z' i) (ht : ∀ j u, u < 13 → j ≠ i → z' (tp j u) = z (tp j u)) (ho : ∀ c, c < 72 → z' c = z c) (hm : m ≤ 12) (hk : k ≤ 15) : CA (uR I (B + 2 + σ i) f) B σ z' n m k := by
  obtain ⟨⟨⟨a1, a2⟩, a3⟩, b, c, d, e, ⟨w1, w2⟩, w3⟩ := h
  have hsi := hs.1 i (by omega)
  have hne : ∀ j, j < 12 → j ≠ i → uR I (B + 2 + σ i) f (B + 2 + σ j) = I (B + 2 + σ j) := fun j hj hji => uR_n _ _ (fun q => hji (hs.2 j i hj (by omega) (by omega)))
  refine ⟨⟨⟨?_, ?_⟩, fun u h1 h2 => ?_⟩, fun j hj => ?_, fun j h1 h2 u hu => ?_, fun j hj => ?_, fun j hj => ?_, ⟨?_, ?_⟩, fun r hr => ?_⟩
  · rw [uR_n _ _ (by omega), ho 11 (by omega)]; exact a1
  · rw [uR_n _ _ (by omega), ho 12 (by omega)]; exact a2
  · rw [uR_n _ _ (by omega), ho _ (by omega)]; exact a3 u h1 h2
  · by_cases q : j = i
    · subst q; rw [uR_s]; exact hf
    · rw [hne j (by omega) q]
      intro u hu
      rw [ht j _ (cm_lt hu) q]
      exact b j hj u hu
  · rw [hne j h2 (by omega)]
    exact c j h1 h2 u hu
  · rw [uR_n _ _ (by omega), ho _ (by omega)]; exact d j hj
  · rw [uR_n _ _ (by omega), ho _ (by omega)]; exact e j hj
  · rw [uR_n _ _ (by omega), ho _ (by omega)]; exact w1
  · rw [uR_n _ _ (by omega), ho _ (by omega)]; exact w2
  · rw [uR_n _ _ (by omega), uR_n _ _ (by omega), uR_n _ _ (by omega), ho _ (by omega), ho _ (by omega), ho _ (by omega)]; exact w3 r hr
/-- a count of the town's own -/
theorem CA.cnt {I : Nat → Nat → Int32} {B : Nat} {σ : Nat → Nat} {z : Nat → Int32} {n m k : Nat} (h : CA I B σ z n m k) (hm : m ≤ 12) (hk : k ≤ 15) (hs : ∀ i, i < 12 → σ i < 12) (hn : n ≤ 12) (u : Nat) (hu : 6 ≤ u ∧ u < 12) (v : Int32) : CA (uR I B (upd (I B) u v)) B σ (upd z (u - 1) v) n m k := by
  obtain ⟨⟨⟨a1, a2⟩, a3⟩, b, c, d, e, ⟨w1, w2⟩, w3⟩ := h
  refine ⟨⟨⟨?_, ?_⟩, fun w h1 h2 => ?_⟩, fun j hj w hw => ?_, fun j h1 h2 w hw => ?_, fun j hj => ?_, fun j hj => ?_, ⟨?_, ?_⟩, fun r hr => ?_⟩
  · rw [uR_s, upd_n _ _ (by omega), upd_n _ _ (by omega)]; exact a1
  · rw [uR_s, upd_n _ _ (by omega), upd_n _ _ (by omega)]; exact a2
  · rw [uR_s]
    by_cases q : w = u
    · subst q; rw [upd_e, upd_e]
    · rw [upd_n _ _ q, upd_n _ _ (by omega)]; exact a3 w h1 h2
  · rw [uR_n _ _ (by omega), upd_S _ _ _ _ (by omega)]; exact b j hj w hw
  · rw [uR_n _ _ (by omega)]; exact c j h1 h2 w hw
  · rw [uR_n _ _ (by omega), upd_n _ _ (by omega)]; exact d j hj
  · rw [uR_n _ _ (by omega), upd_n _ _ (by omega)]; exact e j hj
  · rw [uR_n _ _ (by omega), upd_n _ _ (by omega)]; exact w1
  · rw [uR_n _ _ (by omega), upd_n _ _ (by omega)]; exact w2
  · rw [uR_n _ _ (by omega), uR_n _ _ (by omega), uR_n _ _ (by omega), upd_n _ _ (by omega), upd_n _ _ (by omega), upd_n _ _ (by omega)]; exact w3 r hr
/-- the line and its length -/
theorem CA.line {I : Nat → Nat → Int32} {B : Nat} {σ : Nat → Nat} {z z' : Nat → Int32} {n m m' k : Nat} {lf : Nat → Int32} (h : CA I B σ z n m k) (hm : m' ≤ 12) (hk : k ≤ 15) (hs : ∀ i, i < 12 → σ i < 12) (hn : n ≤ 12) {v : Int32} (hv : z' 12 = v) (hl : ∀ j, j < m' → lf j = z' (15 + j)) (ht : ∀ j u, u < 13 → z' (tp j u) = z (tp j u)) (ho : ∀ c, c < 15 ∧ c ≠ 12 ∨ 27 ≤ c ∧ c < 72 → z' c = z c) : CA (uR (uR I (B + 14) lf) B (upd (I B) 3 v)) B σ z' n m' k := by
  obtain ⟨⟨⟨a1, a2⟩, a3⟩, b, c, d, e, ⟨w1, w2⟩, w3⟩ := h
  refine ⟨⟨⟨?_, ?_⟩, fun w h1 h2 => ?_⟩, fun j hj w hw => ?_, fun j h1 h2 w hw => ?_, fun j hj => ?_, fun j hj => ?_, ⟨?_, ?_⟩, fun r hr => ?_⟩
  · rw [uR_s, upd_n _ _ (by omega), ho _ (by omega)]; exact a1
  · rw [uR_s, upd_e]; exact hv.symm
  · rw [uR_s, upd_n _ _ (by omega), ho _ (by omega)]; exact a3 w h1 h2
  · rw [uR_n _ _ (by omega), uR_n _ _ (by have := hs j (by omega); omega), ht j _ (cm_lt hw)]; exact b j hj w hw
  · rw [uR_n _ _ (by omega), uR_n _ _ (by have := hs j (by omega); omega)]; exact c j h1 h2 w hw
  · rw [uR_n _ _ (by omega), uR_s]; exact hl j hj
  · rw [uR_n _ _ (by omega), uR_n _ _ (by omega), ho _ (by omega)]; exact e j hj
  · rw [uR_n _ _ (by omega), uR_n _ _ (by omega), ho _ (by omega)]; exact w1
  · rw [uR_n _ _ (by omega), uR_n _ _ (by omega), ho _ (by omega)]; exact w2
  · rw [uR_n _ _ (by omega), uR_n _ _ (by omega), uR_n _ _ (by omega), uR_n _ _ (by omega), uR_n _ _ (by omega), uR_n _ _ (by omega), ho _ (by omega), ho _ (by omega), ho _ (by omega)]; exact w3 r hr
/-- the same state in other words -/
theorem CA.same {I : Nat → Nat → Int32} {B : Nat} {σ : Nat → Nat} {z z' : Nat → Int32} {n m k : Nat} (h : CA I B σ z n m k) (hm : m ≤ 12) (hk : k ≤ 15) (ht : ∀ j u, j < n → u < 13 → u ≠ 9 → z' (tp j u) = z (tp j u)) (ho : ∀ c, c < 15 ∨ 27 ≤ c ∧ c < 72 ∨ 15 ≤ c ∧ c < 15 + m → z' c = z c) : CA I B σ z' n m k := by
  obtain ⟨⟨⟨a1, a2⟩, a3⟩, b, c, d, e, ⟨w1, w2⟩, w3⟩ := h
  exact ⟨⟨⟨by rw [ho _ (by omega)]; exact a1, by rw [ho _ (by omega)]; exact a2⟩, fun u h1 h2 => by rw [ho _ (by omega)]; exact a3 u h1 h2⟩, fun j hj u hu => by rw [ht j _ hj (cm_lt hu) (by unfold cm; split <;> omega)]; exact b j hj u hu, c, fun j hj => by rw [ho _ (by omega)]; exact d j hj, fun j hj => by rw [ho _ (by omega)]; exact e j hj, ⟨by rw [ho _ (by omega)]; exact w1, by rw [ho _ (by omega)]; exact w2⟩, fun r hr => by rw [ho _ (by omega), ho _ (by omega), ho _ (by omega)]; exact w3 r hr⟩

