/-! the bridge, on: fields, arrays, objects -/
def uR {α : Type} (f : Nat → Nat → α) (p : Nat) (g : Nat → α) : Nat → Nat → α := fun q => if q = p then g else f q
theorem uR_s {α : Type} (f : Nat → Nat → α) (p : Nat) (g : Nat → α) : uR f p g p = g := by simp [uR]
theorem uR_n {α : Type} (f : Nat → Nat → α) {p q : Nat} (g : Nat → α) (h : q ≠ p) : uR f p g q = f q := by simp [uR, h]
theorem uR_uR {α : Type} (f : Nat → Nat → α) (p : Nat) (g g' : Nat → α) : uR (uR f p g) p g' = uR f p g' := by
  funext q
  by_cases hq : q = p <;> simp [uR, hq]
theorem vF_list_set {N a : Nat} (f : Nat → Value) (v : Value) : ((List.range N).map f).set a v = (List.range N).map (fun j => if j = a then v else f j) := by
  apply List.ext_getElem?
  intro k
  rw [List.getElem?_set]
  by_cases hk : a = k
  · subst hk
    by_cases hl : a < N
    · simp [hl]
    · simp [hl]
  · rw [if_neg hk]
    by_cases hl : k < N
    · simp [hl, Ne.symm hk]
    · simp [hl]
theorem vE_obj (G : GH) (h : PH) {p : Nat} {b : Nat} (hk : h.1.2.2.1 p = b) (hb : b < 6) : vE G h p = .inr (b, (List.range (nFl b)).map (vF G h p)) := by
  subst hk
  simp [vE, hb]
theorem vE_num (G : GH) (h : PH) {p : Nat} (hk : h.1.2.2.1 p = 7 ∨ h.1.2.2.1 p = 8) : vE G h p = .inl (G.2.1 p, (h.1.2.2.2 p, .inl (h.2.1 p))) := by
  unfold vE
  rw [if_neg (by omega), if_pos (by omega)]
theorem vE_ref (G : GH) (h : PH) {p : Nat} (hk : h.1.2.2.1 p = 9 ∨ h.1.2.2.1 p = 10) : vE G h p = .inl (G.2.1 p, (h.1.2.2.2 p, .inr (.inr (.inr (.inr (fun j => (h.2.2 p j).map G.1)))))) := by
  unfold vE
  rw [if_neg (by omega), if_neg (by omega)]
theorem vE_row (G : GH) (h : PH) {p : Nat} (hk : h.1.2.2.1 p = 7 ∨ h.1.2.2.1 p = 8) (f : Nat → Int32) : vE G (h.1, uR h.2.1 p f, h.2.2) p = .inl (G.2.1 p, (h.1.2.2.2 p, .inl f)) := by
  have e := vE_num G (h.1, uR h.2.1 p f, h.2.2) (p := p) hk
  rw [e]
  simp only [uR_s]
theorem vE_rowq (G : GH) (h : PH) {p : Nat} (hk : h.1.2.2.1 p = 9 ∨ h.1.2.2.1 p = 10) (f : Nat → Option Nat) : vE G (h.1, h.2.1, uR h.2.2 p f) p = .inl (G.2.1 p, (h.1.2.2.2 p, .inr (.inr (.inr (.inr (fun j => (f j).map G.1)))))) := by
  have e := vE_ref G (h.1, h.2.1, uR h.2.2 p f) (p := p) hk
  rw [e]
  simp only [uR_s]
theorem vE_same (G : GH) {h h' : PH} (h1 : h'.1 = h.1) {q : Nat} (hI : h'.2.1 q = h.2.1 q) (hQ : h'.2.2 q = h.2.2 q) : vE G h' q = vE G h q := by
  have e : vF G h' q = vF G h q := by funext j; simp only [vF, h1, hI, hQ]
  simp only [vE, h1, hI, hQ, e]
theorem cT_own : ∀ b, b < 6 → ∀ a, a < nFl b → (cT b a).1 = cNm b := by decide +kernel
section SYH
variable {l : Launch} {id : Nat} {lim : Nat × Nat} {pc : Nat} {ls : List (Option Value)} {st : List Value} {h : PH} {P : Option Value → PH → Prop}
theorem EmbW.upd {D : va_G} {G : GH} {ro : ROA} {A : Nat → Prop} {h' : PH} {U : State} {H H1 : Heap} {p : Nat} {E : va_E} (hE : EmbW D G ro A h U H) (hp : p < h.1.1) (h1 : h'.1 = h.1) (hI : ∀ q, q ≠ p → h'.2.1 q = h.2.1 q) (hQ : ∀ q, q ≠ p → h'.2.2 q = h.2.2 q) (hEe : E = vE G h' p) (hP : va_P D vwCl ((vW G h).set p (G.1 p, E)) H1) (hD : va_D A ((vW G h).set p (G.1 p, E))) : EmbW D G ro A h' U H1 := by
  obtain ⟨a1, a2, a3, a4, a5, a6, a7⟩ := hE
  have e := vW_set G h h' hp h1 (fun q hq => vE_same G h1 (hI q hq) (hQ q hq)) hEe
  rw [e] at hP hD
  refine ⟨hP, hD, a3, ?_, ?_, a6, ?_⟩
  · rw [h1]; exact a4
  · rw [h1]; exact a5
  · intro q hq
    rw [h1, hI q (by omega)]
    exact a7 q hq
theorem sy_get {idx a b p : Nat} (hd : decode (mcc id) pc = .ok (.getfield idx, 3)) (hb : b < 6) (ha : a < nFl b) (hw : Cond.fieldLink (mown id) idx (cNm b) (cT b a).2.1 (cT b a).2.2.1 ∈ allW) (hp : p < h.1.1) (hk : h.1.2.2.1 p = b) (k : Sy l id lim (pc + 3) ls ((if isRf b a = true then rvl (h.2.2 p a) else .int (h.2.1 p a)) :: st) h P) : Sy l id lim pc ls (.ref p :: st) h P := by
  intro pr e R s m args below meth c Qm A D ro G0 n0 sz0 C hA hR hS hret G H locs lsr cells slots hE hG hV hL hc hs
  have k' := k _ _ _ _ _ _ _ _ _ _ _ _ _ _ _ _ C hA hR hS hret _ _ _ _ _ _ hE hG hV hL hc hs
  have he : (vW G h)[p]? = some (G.1 p, .inr (b, (List.range (nFl b)).map (vF G h p))) := by rw [vW_get G h hp, vE_obj G h hk hb]
  have hv : ((List.range (nFl b)).map (vF G h p))[a]? = some (eV G (if isRf b a = true then rvl (h.2.2 p a) else .int (h.2.1 p a))) := by
    rw [List.getElem?_map, List.getElem?_range ha]
    show some (vF G h p a) = _
    congr 1
    unfold vF
    rw [hk]
    split
    · exact (eV_rvl G _).symm
    · rfl
  exact va_get (C := cNm b) (T := cT b) (N := nFl b) C.1 C.2.1 C.2.2.2.2.1 (inW hb) C.2.2.2.1 hE.2.2.1 hE.1 p he (cl_at hb) a ha (by first | exact C.2.2.2.2.1 _ hw) (fun x hx => by rw [cT_own b hb a ha] at hx; exact hx) hv hd k'
/-- what a field of this type holds of a value -/
def putOK (ty : FieldType) (v : Value) : Prop := match ty with
  | .int => ∃ x, v = .int x
  | .boolean => v = .int 0 ∨ v = .int 1
  | .object _ => ∃ r, v = rvl r
  | .array _ => ∃ r, v = rvl r
  | _ => False
def put (h : PH) (p a : Nat) (v : Value) : PH := match v with
  | .int x => (h.1, uR h.2.1 p (upd (h.2.1 p) a x), h.2.2)
  | .ref q => (h.1, h.2.1, uR h.2.2 p (va_up (h.2.2 p) a (some q)))
  | _ => (h.1, h.2.1, uR h.2.2 p (va_up (h.2.2 p) a none))
theorem put_1 (h : PH) (p a : Nat) (v : Value) : (put h p a v).1 = h.1 := by cases v <;> rfl
theorem put_I (h : PH) (p a : Nat) (v : Value) (q : Nat) (hq : q ≠ p) : (put h p a v).2.1 q = h.2.1 q := by cases v <;> first | rfl | exact uR_n _ _ hq
theorem put_Q (h : PH) (p a : Nat) (v : Value) (q : Nat) (hq : q ≠ p) : (put h p a v).2.2 q = h.2.2 q := by cases v <;> first | rfl | exact uR_n _ _ hq
theorem put_F (G : GH) (h : PH) {p a b : Nat} {v : Value} (hk : h.1.2.2.1 p = b) (hv : putOK (cTy b a) v) (j : Nat) : vF G (put h p a v) p j = if j = a then eV G v else vF G h p j := by
  unfold vF
  rw [put_1, hk]
  by_cases hj : j = a
  · subst hj
    rw [if_pos rfl]
    unfold putOK at hv
    unfold isRf
    split at hv
    · next e => obtain ⟨x, rfl⟩ := hv; simp [e, put, uR, upd, eV]
    · next e => rcases hv with rfl | rfl <;> simp [e, put, uR, upd, eV]
    · next e => obtain ⟨r, rfl⟩ := hv; cases r <;> simp [e, put, uR, va_up, eV, rvl, va_rf]
    · next e => obtain ⟨r, rfl⟩ := hv; cases r <;> simp [e, put, uR, va_up, eV, rvl, va_rf]
    · exact hv.elim
  · rw [if_neg hj]
    have e1 : (put h p a v).2.1 p j = h.2.1 p j := by cases v <;> simp [put, uR, upd, hj]
    have e2 : (put h p a v).2.2 p j = h.2.2 p j := by cases v <;> simp [put, uR, va_up, hj]
    rw [e1, e2]
theorem sy_put {idx a b p : Nat} {v : Value} {fin : Bool} (hd : decode (mcc id) pc = .ok (.putfield idx, 3)) (hb : b < 6) (ha : a < nFl b) (hw : Cond.fieldLink (mown id) idx (cNm b) (cT b a).2.1 (cT b a).2.2.1 ∈ allW) (hfin : (cT b a).2.2.2 = fin) (hf2 : fin = true → mini id = true ∧ cNm b = mown id) (hp : p < h.1.1) (hk : h.1.2.2.1 p = b) (hv : putOK (cTy b a) v) (k : Sy l id lim (pc + 3) ls st (put h p a v) P) : Sy l id lim pc ls (v :: .ref p :: st) h P := by
  intro pr e R s m args below meth c Qm A D ro G0 n0 sz0 C hA hR hS hret G H locs lsr cells slots hE hG hV hL hc hs
  have he : (vW G h)[p]? = some (G.1 p, .inr (b, (List.range (nFl b)).map (vF G h p))) := by rw [vW_get G h hp, vE_obj G h hk hb]
  have hN : ((List.range (nFl b)).map (vF G h p)).length = nFl b := by simp
  have hset : ((Sum.inr (b, ((List.range (nFl b)).map (vF G h p)).set a (eV G v)) : va_E)) = vE G (put h p a v) p := by
    rw [vE_obj G (put h p a v) (by rw [put_1]; exact hk) hb, vF_list_set]
    congr 2
    apply List.map_congr_left
    intro j _
    rw [put_F G h hk hv]
  have hn : narrow (cTy b a) (eV G v) = eV G v ∧ fits (cTy b a) (eV G v) = true := by
    unfold putOK at hv
    split at hv
    · next e => obtain ⟨x, rfl⟩ := hv; rw [e]; exact ⟨rfl, rfl⟩
    · next e => rw [e]; rcases hv with rfl | rfl <;> first | exact show narrow .boolean (.int 0) = .int 0 ∧ fits .boolean (.int 0) = true from ⟨by decide, by decide⟩ | exact show narrow .boolean (.int 1) = .int 1 ∧ fits .boolean (.int 1) = true from ⟨by decide, by decide⟩
    · next e => obtain ⟨r, rfl⟩ := hv; rw [e]; cases r <;> exact ⟨rfl, rfl⟩
    · next e => obtain ⟨r, rfl⟩ := hv; rw [e]; cases r <;> exact ⟨rfl, rfl⟩
    · exact hv.elim
  have kk : ∀ (H1 : Heap) (locs1 : List Loc), va_P D vwCl ((vW G h).set p (G.1 p, .inr (b, ((List.range (nFl b)).map (vF G h p)).set a (eV G v)))) H1 → va_D A ((vW G h).set p (G.1 p, .inr (b, ((List.range (nFl b)).map (vF G h p)).set a (eV G v)))) → va_S A s.heap H1 locs1 → W pr l e R s m args below meth c H1 locs1 cells slots Qm (F0 m (pc + 3) lsr (st.map (eV G))) := fun H1 locs1 hP1 hD1 hS1 =>
    k _ _ _ _ _ _ _ _ _ _ _ _ _ _ _ _ C hA hR hS hret _ _ _ _ _ _ (hE.upd hp (put_1 h p a v) (put_I h p a v) (put_Q h p a v) hset hP1 hD1) hG hS1 hL (by rw [put_1]; exact hc) (by rw [put_1]; exact hs)
  cases fin with
  | false => exact va_put (C := cNm b) (T := cT b) (N := nFl b) C.1 C.2.1 C.2.2.2.2.1 (inW hb) (cTy b) (cTy_ok hb) (cNmx hb) C.2.2.2.1 hE.2.2.1 hE.1 hE.2.1 hV p he (cl_at hb) a ha (C.2.2.2.2.1 _ hw) (fun x hx => by rw [cT_own b hb a ha] at hx; exact hx) hfin (cTy_ok hb a ha) hn.1 hn.2 (by rw [hN]; exact ha) hd kk
  | true =>
    obtain ⟨g1, g2⟩ := hf2 rfl
    exact va_putF (C := cNm b) (T := cT b) (N := nFl b) C.1 C.2.1 C.2.2.2.2.1 (inW hb) (cTy b) (cTy_ok hb) (cNmx hb) C.2.2.2.1 hE.2.2.1 hE.1 hE.2.1 hV p he (cl_at hb) a ha (C.2.2.2.2.1 _ hw) (fun x hx => by rw [cT_own b hb a ha] at hx; exact hx) hfin (C.2.2.2.2.2 g1) (by rw [cT_own b hb a ha]; exact g2) (cTy_ok hb a ha) hn.1 hn.2 (by rw [hN]; exact ha) hd kk
theorem sy_iald {p : Nat} {i : Int32} (hd : decode (mcc id) pc = .ok (.iaload, 1)) (hp : p < h.1.1 ∧ h.1.2.2.1 p = 7 ∨ 1000 ≤ p ∧ h.1.2.2.1 p = 11) (hi : vp_in i (h.1.2.2.2 p)) (k : Sy l id lim (pc + 1) ls (.int (h.2.1 p i.toNatClampNeg) :: st) h P) : Sy l id lim pc ls (.int i :: .ref p :: st) h P := by
  intro pr e R s m args below meth c Qm A D ro G0 n0 sz0 C hA hR hS hret G H locs lsr cells slots hE hG hV hL hc hs
  have k' := k _ _ _ _ _ _ _ _ _ _ _ _ _ _ _ _ C hA hR hS hret _ _ _ _ _ _ hE hG hV hL hc hs
  rcases hp with ⟨hp, hk⟩ | ⟨hp, hk⟩
  · obtain ⟨t0, ht⟩ := hE.2.2.2.1 p .int hp (by rw [hk]; rfl)
    exact va_iald C.1 C.2.1 hE.2.2.1 hE.1 p t0 (by rw [vW_get G h hp, vE_num G h (Or.inl hk)]) ht hi hd k'
  · obtain ⟨e1, e2, e3⟩ := hE.2.2.2.2.2.2 p hp
    have hT := hS.1 p hp (by rw [← e1]; exact hk)
    rw [← hG.1 p (Or.inr hp), ← e2, ← e3] at hT
    exact va_ti C.1 C.2.1 hT hV hi rfl hd k'
theorem sy_cald {p : Nat} {i : Int32} (hd : decode (mcc id) pc = .ok (.caload, 1)) (hp : p < h.1.1) (hk : h.1.2.2.1 p = 8) (hi : vp_in i (h.1.2.2.2 p)) (k : Sy l id lim (pc + 1) ls (.int (h.2.1 p i.toNatClampNeg) :: st) h P) : Sy l id lim pc ls (.int i :: .ref p :: st) h P := by
  intro pr e R s m args below meth c Qm A D ro G0 n0 sz0 C hA hR hS hret G H locs lsr cells slots hE hG hV hL hc hs
  have k' := k _ _ _ _ _ _ _ _ _ _ _ _ _ _ _ _ C hA hR hS hret _ _ _ _ _ _ hE hG hV hL hc hs
  obtain ⟨t0, ht⟩ := hE.2.2.2.1 p .char hp (by rw [hk]; rfl)
  exact va_cald C.1 C.2.1 hE.2.2.1 hE.1 p t0 (by rw [vW_get G h hp, vE_num G h (Or.inr hk)]) ht hi hd k'
theorem sy_aald {p : Nat} {i : Int32} (hd : decode (mcc id) pc = .ok (.aaload, 1)) (hp : p < h.1.1) (hk : h.1.2.2.1 p = 9 ∨ h.1.2.2.1 p = 10) (hi : vp_in i (h.1.2.2.2 p)) (k : Sy l id lim (pc + 1) ls (rvl (h.2.2 p i.toNatClampNeg) :: st) h P) : Sy l id lim pc ls (.int i :: .ref p :: st) h P := by
  intro pr e R s m args below meth c Qm A D ro G0 n0 sz0 C hA hR hS hret G H locs lsr cells slots hE hG hV hL hc hs
  have k' := k _ _ _ _ _ _ _ _ _ _ _ _ _ _ _ _ C hA hR hS hret _ _ _ _ _ _ hE hG hV hL hc hs
  rw [List.map_cons, eV_rvl] at k'
  rcases hk with hk | hk
  · obtain ⟨t0, ht⟩ := hE.2.2.2.1 p (.object RX3) hp (by rw [hk]; rfl)
    exact va_aldq C.1 C.2.1 hE.2.2.1 hE.1 p t0 (by rw [vW_get G h hp, vE_ref G h (Or.inl hk)]) ht hi hd k'
  · obtain ⟨t0, ht⟩ := hE.2.2.2.1 p (.object RX4) hp (by rw [hk]; rfl)
    exact va_aldq C.1 C.2.1 hE.2.2.1 hE.1 p t0 (by rw [vW_get G h hp, vE_ref G h (Or.inr hk)]) ht hi hd k'
theorem sy_iast {p : Nat} {i x : Int32} (hd : decode (mcc id) pc = .ok (.iastore, 1)) (hp : p < h.1.1) (hk : h.1.2.2.1 p = 7) (hi : vp_in i (h.1.2.2.2 p)) (k : Sy l id lim (pc + 1) ls st (h.1, uR h.2.1 p (upd (h.2.1 p) i.toNatClampNeg x), h.2.2) P) : Sy l id lim pc ls (.int x :: .int i :: .ref p :: st) h P := by
  intro pr e R s m args below meth c Qm A D ro G0 n0 sz0 C hA hR hS hret G H locs lsr cells slots hE hG hV hL hc hs
  obtain ⟨t0, ht⟩ := hE.2.2.2.1 p .int hp (by rw [hk]; rfl)
  exact va_iast C.1 C.2.1 hE.2.2.1 hE.1 hE.2.1 hV p t0 (by rw [vW_get G h hp, vE_num G h (Or.inl hk)]) ht hi hd fun H1 locs1 hP1 hD1 hS1 =>
    k _ _ _ _ _ _ _ _ _ _ _ _ _ _ _ _ C hA hR hS hret _ _ _ _ _ _ (hE.upd (h' := (h.1, uR h.2.1 p (upd (h.2.1 p) i.toNatClampNeg x), h.2.2)) hp rfl (fun q hq => uR_n _ _ hq) (fun _ _ => rfl) (vE_row G h (Or.inl hk) _).symm hP1 hD1) hG hS1 hL hc hs
theorem sy_cast {p : Nat} {i x : Int32} (hd : decode (mcc id) pc = .ok (.castore, 1)) (hp : p < h.1.1) (hk : h.1.2.2.1 p = 8) (hi : vp_in i (h.1.2.2.2 p)) (k : Sy l id lim (pc + 1) ls st (h.1, uR h.2.1 p (upd (h.2.1 p) i.toNatClampNeg (vp_nar .char x)), h.2.2) P) : Sy l id lim pc ls (.int x :: .int i :: .ref p :: st) h P := by
  intro pr e R s m args below meth c Qm A D ro G0 n0 sz0 C hA hR hS hret G H locs lsr cells slots hE hG hV hL hc hs
  obtain ⟨t0, ht⟩ := hE.2.2.2.1 p .char hp (by rw [hk]; rfl)
  exact va_cast C.1 C.2.1 hE.2.2.1 hE.1 hE.2.1 hV p t0 (by rw [vW_get G h hp, vE_num G h (Or.inr hk)]) ht hi hd fun H1 locs1 hP1 hD1 hS1 =>
    k _ _ _ _ _ _ _ _ _ _ _ _ _ _ _ _ C hA hR hS hret _ _ _ _ _ _ (hE.upd (h' := (h.1, uR h.2.1 p (upd (h.2.1 p) i.toNatClampNeg (vp_nar .char x)), h.2.2)) hp rfl (fun q hq => uR_n _ _ hq) (fun _ _ => rfl) (vE_row G h (Or.inr hk) _).symm hP1 hD1) hG hS1 hL hc hs
theorem map_up (G : GH) (f : Nat → Option Nat) (i q : Nat) : (fun j => (va_up f i (some q) j).map G.1) = va_up (fun j => (f j).map G.1) i (some (G.1 q)) := by
  funext j
  by_cases hj : j = i <;> simp [va_up, hj]
theorem sy_aast {p q : Nat} {i : Int32} (hd : decode (mcc id) pc = .ok (.aastore, 1)) (hp : p < h.1.1) (hq : q < h.1.1) (hk : h.1.2.2.1 p = 9 ∧ h.1.2.2.1 q = 3 ∨ h.1.2.2.1 p = 10 ∧ h.1.2.2.1 q = 4) (hi : vp_in i (h.1.2.2.2 p)) (k : Sy l id lim (pc + 1) ls st (h.1, h.2.1, uR h.2.2 p (va_up (h.2.2 p) i.toNatClampNeg (some q))) P) : Sy l id lim pc ls (.ref q :: .int i :: .ref p :: st) h P := by
  intro pr e R s m args below meth c Qm A D ro G0 n0 sz0 C hA hR hS hret G H locs lsr cells slots hE hG hV hL hc hs
  have kk : (h.1.2.2.1 p = 9 ∨ h.1.2.2.1 p = 10) → ∀ (H1 : Heap) (locs1 : List Loc), va_P D vwCl ((vW G h).set p (G.1 p, .inl (G.2.1 p, h.1.2.2.2 p, .inr (.inr (.inr (.inr (va_up (fun j => (h.2.2 p j).map G.1) i.toNatClampNeg (some (G.1 q))))))))) H1 → va_D A ((vW G h).set p (G.1 p, .inl (G.2.1 p, h.1.2.2.2 p, .inr (.inr (.inr (.inr (va_up (fun j => (h.2.2 p j).map G.1) i.toNatClampNeg (some (G.1 q))))))))) → va_S A s.heap H1 locs1 → W pr l e R s m args below meth c H1 locs1 cells slots Qm (F0 m (pc + 1) lsr (st.map (eV G))) := fun hk H1 locs1 hP1 hD1 hS1 =>
    k _ _ _ _ _ _ _ _ _ _ _ _ _ _ _ _ C hA hR hS hret _ _ _ _ _ _ (hE.upd (h' := (h.1, h.2.1, uR h.2.2 p (va_up (h.2.2 p) i.toNatClampNeg (some q)))) hp rfl (fun _ _ => rfl) (fun q hq => uR_n _ _ hq) (by rw [vE_rowq G h hk, map_up]) hP1 hD1) hG hS1 hL hc hs
  rcases hk with ⟨hk, hk2⟩ | ⟨hk, hk2⟩
  · obtain ⟨t0, ht⟩ := hE.2.2.2.1 p (.object RX3) hp (by rw [hk]; rfl)
    exact va_astq C.1 C.2.1 hE.2.2.1 hE.1 hE.2.1 hV p t0 q 3 (r := (RX3, TX3, 12)) (by rw [vW_get G h hp, vE_ref G h (Or.inl hk)]) ht (by rw [vW_get G h hq, vE_obj G h hk2 (by decide)]) rfl hi hd (kk (Or.inl hk))
  · obtain ⟨t0, ht⟩ := hE.2.2.2.1 p (.object RX4) hp (by rw [hk]; rfl)
    exact va_astq C.1 C.2.1 hE.2.2.1 hE.1 hE.2.1 hV p t0 q 4 (r := (RX4, TX4, 12)) (by rw [vW_get G h hp, vE_ref G h (Or.inr hk)]) ht (by rw [vW_get G h hq, vE_obj G h hk2 (by decide)]) rfl hi hd (kk (Or.inr hk))
theorem sy_alen {p : Nat} (hd : decode (mcc id) pc = .ok (.arraylength, 1)) (hp : p < h.1.1 ∧ (h.1.2.2.1 p = 7 ∨ h.1.2.2.1 p = 8 ∨ h.1.2.2.1 p = 9 ∨ h.1.2.2.1 p = 10) ∨ 1000 ≤ p ∧ h.1.2.2.1 p = 11) (k : Sy l id lim (pc + 1) ls (.int (Int32.ofNat (h.1.2.2.2 p)) :: st) h P) : Sy l id lim pc ls (.ref p :: st) h P := by
  intro pr e R s m args below meth c Qm A D ro G0 n0 sz0 C hA hR hS hret G H locs lsr cells slots hE hG hV hL hc hs
  have k' := k _ _ _ _ _ _ _ _ _ _ _ _ _ _ _ _ C hA hR hS hret _ _ _ _ _ _ hE hG hV hL hc hs
  rcases hp with ⟨hp, hk | hk | hk | hk⟩ | ⟨hp, hk⟩
  · obtain ⟨t0, ht⟩ := hE.2.2.2.1 p .int hp (by rw [hk]; rfl)
    exact va_alen (x := (h.1.2.2.2 p, .inl (h.2.1 p))) C.1 C.2.1 hE.2.2.1 hE.1 p t0 (by rw [vW_get G h hp, vE_num G h (Or.inl hk)]) ht rfl hd k'
  · obtain ⟨t0, ht⟩ := hE.2.2.2.1 p .char hp (by rw [hk]; rfl)
    exact va_alen (x := (h.1.2.2.2 p, .inl (h.2.1 p))) C.1 C.2.1 hE.2.2.1 hE.1 p t0 (by rw [vW_get G h hp, vE_num G h (Or.inr hk)]) ht rfl hd k'
  · obtain ⟨t0, ht⟩ := hE.2.2.2.1 p (.object RX3) hp (by rw [hk]; rfl)
    exact va_alen (x := (h.1.2.2.2 p, .inr (.inr (.inr (.inr (fun j => (h.2.2 p j).map G.1)))))) C.1 C.2.1 hE.2.2.1 hE.1 p t0 (by rw [vW_get G h hp, vE_ref G h (Or.inl hk)]) ht rfl hd k'
  · obtain ⟨t0, ht⟩ := hE.2.2.2.1 p (.object RX4) hp (by rw [hk]; rfl)
    exact va_alen (x := (h.1.2.2.2 p, .inr (.inr (.inr (.inr (fun j => (h.2.2 p j).map G.1)))))) C.1 C.2.1 hE.2.2.1 hE.1 p t0 (by rw [vW_get G h hp, vE_ref G h (Or.inr hk)]) ht rfl hd k'
  · obtain ⟨e1, e2, e3⟩ := hE.2.2.2.2.2.2 p hp
    have hT := hS.1 p hp (by rw [← e1]; exact hk)
    rw [← hG.1 p (Or.inr hp), ← e2] at hT
    exact va_tlen C.1 C.2.1 hT hV rfl hd k'
theorem sy_gets {idx k0 : Nat} (hd : decode (mcc id) pc = .ok (.getstatic idx, 3)) (hk : k0 < 3) (hw : Cond.fieldLink (mown id) idx "TaxiRank$Town" (stN k0) "[I" ∈ allW) (k : Sy l id lim (pc + 3) ls (.ref (1000 + k0) :: st) h P) : Sy l id lim pc ls st h P := by
  intro pr e R s m args below meth c Qm A D ro G0 n0 sz0 C hA hR hS hret G H locs lsr cells slots hE hG hV hL hc hs
  have k' := k _ _ _ _ _ _ _ _ _ _ _ _ _ _ _ _ C hA hR hS hret _ _ _ _ _ _ hE hG hV hL hc hs
  have hZ := hS.2 k0 hk
  rw [← hG.1 (1000 + k0) (Or.inr (by omega))] at hZ
  exact va_gets C.1 C.2.1 hZ hV C.2.2.2.1 (C.2.2.2.2.1 _ hw) (fun _ hx => hx) hd k'
theorem sy_copy {idx p q : Nat} {sp dp n : Int32} (hd : decode (mcc id) pc = .ok (.invokestatic idx, 3)) (hw : Cond.methodLink (mown id) idx arraycopyName ∈ allW ∧ Cond.native arraycopyName ∈ allW ∧ Cond.static arraycopyName ∈ allW ∧ Cond.initialized "java/lang/System" ∈ allW) (hroom : 1 ≤ (mrm id).frames ∧ 26 ≤ (mrm id).locals) (hst : catS st ≤ 8) (hp : p < h.1.1) (hk : h.1.2.2.1 p = 7) (hq : q < h.1.1) (hk2 : h.1.2.2.1 q = 7) (h1 : ¬ sp < 0) (h2 : ¬ dp < 0) (h3 : ¬ n < 0) (h4 : sp.toNatClampNeg + n.toNatClampNeg ≤ h.1.2.2.2 q) (h5 : dp.toNatClampNeg + n.toNatClampNeg ≤ h.1.2.2.2 p) (k : Sy l id lim (pc + 3) ls st (h.1, uR h.2.1 p (va_cpy (h.2.1 q) (h.2.1 p) sp.toNatClampNeg dp.toNatClampNeg n.toNatClampNeg), h.2.2) P) : Sy l id lim pc ls (.int n :: .int dp :: .ref p :: .int sp :: .ref q :: st) h P := by
  intro pr e R s m args below meth c Qm A D ro G0 n0 sz0 C hA hR hS hret G H locs lsr cells slots hE hG hV hL hc hs
  obtain ⟨t0, ht⟩ := hE.2.2.2.1 p .int hp (by rw [hk]; rfl)
  obtain ⟨t1, ht1⟩ := hE.2.2.2.1 q .int hq (by rw [hk2]; rfl)
  have hcat : ∀ st : List Value, ((st.map (eV G)).map fun v => v.category).sum = catS st := by
    intro st
    induction st with
    | nil => rfl
    | cons v st ih => simp only [List.map_cons, List.sum_cons, catS, eV_cat, ih]
  have e7 : nativeFrameWords "java/lang/System" "arraycopy" 5 = 7 := by decide
  have hloc : ((st.map (eV G)).map fun v => v.category).sum + (nativeFrameWords "java/lang/System" "arraycopy" 5 + 11) ≤ R.locals := by rw [hcat, e7]; have := hR.2.1; omega
  exact va_copyi C.1 C.2.1 (C.2.2.1.trans hL.2.1.symm) C.2.2.2.1 (C.2.2.2.2.1 _ hw.1) (C.2.2.2.2.1 _ hw.2.1) (C.2.2.2.2.1 _ hw.2.2.1) (C.2.2.2.2.1 _ hw.2.2.2) hE.2.2.1 hE.1 hE.2.1 hV q p t1 t0 (by rw [vW_get G h hq, vE_num G h (Or.inl hk2)]) (by rw [vW_get G h hp, vE_num G h (Or.inl hk)]) ht1 ht rfl h1 h2 h3 h4 h5 (fun _ _ => rfl) (by have := hR.1; omega) hloc hd fun H1 locs1 hP1 hD1 hS1 =>
    k _ _ _ _ _ _ _ _ _ _ _ _ _ _ _ _ C hA hR hS hret _ _ _ _ _ _ (hE.upd (h' := (h.1, uR h.2.1 p (va_cpy (h.2.1 q) (h.2.1 p) sp.toNatClampNeg dp.toNatClampNeg n.toNatClampNeg), h.2.2)) hp rfl (fun q hq => uR_n _ _ hq) (fun _ _ => rfl) (vE_row G h (Or.inl hk) _).symm hP1 hD1) hG hS1 hL hc hs
end SYH
