/-! the bridge, on: new cells, calls, answers -/
def newH (h : PH) (kind slots len : Nat) : PH := ((h.1.1 + 1, h.1.2.1 + slots, va_up h.1.2.2.1 h.1.1 kind, va_up h.1.2.2.2 h.1.1 len), uR h.2.1 h.1.1 (fun _ => 0), uR h.2.2 h.1.1 (fun _ => none))
theorem cTy_def : ∀ b, b < 6 → ∀ j, j < nFl b → defaultValue (cTy b j) = (if isRf b j = true then Value.null else Value.int 0) := by
  intro b hb
  match b, hb with
  | 0, _ => intro j hj; match j, hj with
    | 0, _ => rfl
    | 1, _ => rfl
  | 1, _ => intro j hj; match j, hj with
    | 0, _ => rfl
    | 1, _ => rfl
    | 2, _ => rfl
    | 3, _ => rfl
    | 4, _ => rfl
    | 5, _ => rfl
    | 6, _ => rfl
  | 2, _ => intro j hj; match j, hj with
    | 0, _ => rfl
    | 1, _ => rfl
    | 2, _ => rfl
    | 3, _ => rfl
    | 4, _ => rfl
  | 3, _ => intro j hj; match j, hj with
    | 0, _ => rfl
    | 1, _ => rfl
    | 2, _ => rfl
    | 3, _ => rfl
    | 4, _ => rfl
    | 5, _ => rfl
    | 6, _ => rfl
    | 7, _ => rfl
    | 8, _ => rfl
    | 9, _ => rfl
    | 10, _ => rfl
    | 11, _ => rfl
  | 4, _ => intro j hj; match j, hj with
    | 0, _ => rfl
    | 1, _ => rfl
    | 2, _ => rfl
    | 3, _ => rfl
    | 4, _ => rfl
    | 5, _ => rfl
    | 6, _ => rfl
    | 7, _ => rfl
    | 8, _ => rfl
    | 9, _ => rfl
    | 10, _ => rfl
    | 11, _ => rfl
  | 5, _ => intro j hj; match j, hj with
    | 0, _ => rfl
    | 1, _ => rfl
    | 2, _ => rfl
    | 3, _ => rfl
    | 4, _ => rfl
    | 5, _ => rfl
    | 6, _ => rfl
    | 7, _ => rfl
    | 8, _ => rfl
    | 9, _ => rfl
section SYN
variable {l : Launch} {id : Nat} {lim : Nat × Nat} {pc : Nat} {ls : List (Option Value)} {st : List Value} {h : PH} {P : Option Value → PH → Prop}
/-- the world with one cell more -/
theorem EmbW.push {D : va_G} {G : GH} {ro : ROA} {A : Nat → Prop} {U : State} {H H1 : Heap} {q : Nat} {cA : ClassId} {tys' : List (ClassId × FieldType)} {kind slots len : Nat} {E : va_E} (hE : EmbW D G ro A h U H) (h1000 : h.1.1 < 1000)
    (hEe : vE (va_up G.1 h.1.1 q, va_up G.2.1 h.1.1 cA, tys') (newH h kind slots len) h.1.1 = E) (hK : va_K D vwCl tys' U) (ht : ∀ (t0 : Nat) x, G.2.2[t0]? = some x → tys'[t0]? = some x) (hk : ∀ ty, arT kind = some ty → ∃ t0 : Nat, tys'[t0]? = some (cA, ty))
    (hwf : ∀ p j r, p < h.1.1 → h.2.2 p j = some r → r ≠ h.1.1) (hP : va_P D vwCl (vW G h ++ [(q, E)]) H1) (hD : va_D A (vW G h ++ [(q, E)])) : EmbW D (va_up G.1 h.1.1 q, va_up G.2.1 h.1.1 cA, tys') ro A (newH h kind slots len) U H1 := by
  obtain ⟨a1, a2, a3, a4, a5, a6, a7⟩ := hE
  have hs : ∀ p, p < h.1.1 → (va_up G.1 h.1.1 q p = G.1 p ∧ vE (va_up G.1 h.1.1 q, va_up G.2.1 h.1.1 cA, tys') (newH h kind slots len) p = vE G h p) := by
    intro p hp
    have hne : p ≠ h.1.1 := by omega
    refine ⟨va_up_ne _ _ hne, ?_⟩
    have ek : (newH h kind slots len).1.2.2.1 p = h.1.2.2.1 p := va_up_ne _ _ hne
    have en : (newH h kind slots len).1.2.2.2 p = h.1.2.2.2 p := va_up_ne _ _ hne
    have eI : (newH h kind slots len).2.1 p = h.2.1 p := uR_n _ _ hne
    have eQ : (newH h kind slots len).2.2 p = h.2.2 p := uR_n _ _ hne
    have er : ∀ j, (h.2.2 p j).map (va_up G.1 h.1.1 q) = (h.2.2 p j).map G.1 := by
      intro j
      cases hr : h.2.2 p j with
      | none => rfl
      | some r => exact congrArg some (va_up_ne _ _ (hwf p j r hp hr))
    have e : vF (va_up G.1 h.1.1 q, va_up G.2.1 h.1.1 cA, tys') (newH h kind slots len) p = vF G h p := by
      funext j
      simp only [vF, ek, eI, eQ, er]
    simp only [vE, ek, en, eI, eQ, e, er, va_up_ne _ _ hne]
  have e := vW_push G (va_up G.1 h.1.1 q, va_up G.2.1 h.1.1 cA, tys') h (newH h kind slots len) (a := q) (E := E) rfl (va_up_self _ _ _) hEe hs
  rw [e] at hP hD
  refine ⟨hP, hD, hK, ?_, ?_, a6, ?_⟩
  · intro p ty hp hty
    by_cases hne : p = h.1.1
    · subst hne
      have e1 : (newH h kind slots len).1.2.2.1 h.1.1 = kind := va_up_self _ _ _
      rw [e1] at hty
      obtain ⟨t0, z⟩ := hk ty hty
      exact ⟨t0, by rw [z]; simp only [va_up_self]⟩
    · have e1 : (newH h kind slots len).1.2.2.1 p = h.1.2.2.1 p := va_up_ne _ _ hne
      rw [e1] at hty
      have hp' : p < h.1.1 + 1 := hp
      obtain ⟨t0, z⟩ := a4 p ty (by omega) hty
      exact ⟨t0, by rw [ht _ _ z]; simp only [va_up_ne _ _ hne]⟩
  · show h.1.1 + 1 ≤ 1000
    omega
  · intro p hp
    have hne : p ≠ h.1.1 := by omega
    have ek : (newH h kind slots len).1.2.2.1 p = h.1.2.2.1 p := va_up_ne _ _ hne
    have en : (newH h kind slots len).1.2.2.2 p = h.1.2.2.2 p := va_up_ne _ _ hne
    have eI : (newH h kind slots len).2.1 p = h.2.1 p := uR_n _ _ hne
    rw [ek, en, eI]
    exact a7 p hp
theorem GX.push {G0 G : GH} {n0 n mc q : Nat} {cA : ClassId} {tys' : List (ClassId × FieldType)} (hG : GX G0 G n0 mc) (hn : n0 ≤ n) (h1000 : n < 1000) (hmc : mc ≠ 0) : GX G0 (va_up G.1 n q, va_up G.2.1 n cA, tys') n0 mc :=
  ⟨fun p hp => by rw [← hG.1 p hp]; exact va_up_ne _ _ (by omega), fun z => absurd z hmc⟩
theorem GX.step (G : GH) (n mc q : Nat) (cA : ClassId) (tys' : List (ClassId × FieldType)) (h1000 : n < 1000) (hmc : mc ≠ 0) : GX G (va_up G.1 n q, va_up G.2.1 n cA, tys') n mc :=
  ⟨fun p hp => va_up_ne _ _ (by omega), fun z => absurd z hmc⟩
def qOld (h : PH) : Prop := ∀ p j r, p < h.1.1 → h.2.2 p j = some r → r < h.1.1
theorem sy_new {idx b : Nat} (hd : decode (mcc id) pc = .ok (.new idx, 3)) (hb : b < 6) (hw : Cond.classLink (mown id) idx (cNm b) ∈ allW ∧ Cond.instantiable (cNm b) (nFl b) ∈ allW ∧ Cond.initialized (cNm b) ∈ allW) (hmc : (mrm id).cells ≠ 0) (hn : h.1.1 + 1 ≤ lim.1 ∧ h.1.2.1 + nFl b ≤ lim.2) (h1000 : h.1.1 < 1000) (hq : qOld h) (hls : ∀ v, some v ∈ ls → vOld h.1.1 v) (hst : ∀ v, v ∈ st → vOld h.1.1 v) (k : Sy l id lim (pc + 3) ls (.ref h.1.1 :: st) (newH h b (nFl b) 0) P) : Sy l id lim pc ls st h P := by
  intro pr e R s m args below meth c Qm A D ro G0 n0 sz0 C hA hR hS hret G H locs lsr cells slots hE hG hV hL hc hs
  refine va_new (ci := b) (C := cNm b) (T := cT b) (N := nFl b) (fs := (List.range (nFl b)).map (fun j => if isRf b j = true then Value.null else Value.int 0)) C.1 C.2.1 C.2.2.2.2.1 (inW hb) (cTy b) (cTy_ok hb) C.2.2.2.1 (C.2.2.2.2.1 _ hw.1) (C.2.2.2.2.1 _ hw.2.1) (C.2.2.2.2.1 _ hw.2.2) hE.2.2.1 hE.1 hE.2.1 hV hA (cl_at hb) (fun j hj => by rw [cTy_def b hb j hj]; simp [vp_V, hj]) (by have := hR.2.2.1; omega) (by have := hR.2.2.2; omega) hd fun q H1 hP1 hD1 hS1 => ?_
  have hE1 : EmbW D (va_up G.1 h.1.1 q, va_up G.2.1 h.1.1 (D.1 0), G.2.2) ro A (newH h b (nFl b) 0) s H1 := by
    refine hE.push h1000 ?_ hE.2.2.1 (fun _ _ z => z) ?_ (fun p j r hp hr => by have := hq p j r hp hr; omega) hP1 hD1
    · rw [vE_obj _ _ (show (newH h b (nFl b) 0).1.2.2.1 h.1.1 = b from va_up_self _ _ _) hb]
      congr 2
      apply List.map_congr_left
      intro j _
      simp [vF, newH, va_up, uR, va_rf]
    · intro ty hty
      match b, hb with
      | 0, _ => cases hty
      | 1, _ => cases hty
      | 2, _ => cases hty
      | 3, _ => cases hty
      | 4, _ => cases hty
      | 5, _ => cases hty
      | 6, _ => cases hty
  have hGs := GX.step G h.1.1 (mrm id).cells q (D.1 0) G.2.2 h1000 hmc
  have k' := k _ _ _ _ _ _ _ _ _ _ _ _ _ _ _ _ C hA hR hS hret _ _ _ _ (cells + 1) (slots + nFl b) hE1 (hG.push (by omega) h1000 hmc) hS1 (hL.ext hGs hls) (by show _ = h.1.1 + 1; omega) (by show _ = h.1.2.1 + nFl b; omega)
  rw [List.map_cons, st_ext hGs hst] at k'
  have e0 : eV (va_up G.1 h.1.1 q, va_up G.2.1 h.1.1 (D.1 0), G.2.2) (.ref h.1.1) = .ref q := congrArg Value.ref (va_up_self _ _ _)
  rw [e0] at k'
  exact k'
theorem sy_newa {at_ : ArrayType} {ty : FieldType} {kind n : Nat} {x : Int32} (hd : decode (mcc id) pc = .ok (.newarray at_, 2)) (hty : at_ = .int ∧ ty = .int ∧ kind = 7 ∨ at_ = .char ∧ ty = .char ∧ kind = 8) (hw : Cond.arrayClass ty ∈ allW) (hx : ¬ x < 0) (hxn : x.toNatClampNeg = n) (hn9 : n ≤ 1000) (hmc : (mrm id).cells ≠ 0) (hn : h.1.1 + 1 ≤ lim.1 ∧ h.1.2.1 + n ≤ lim.2) (h1000 : h.1.1 < 1000) (hq : qOld h) (hls : ∀ v, some v ∈ ls → vOld h.1.1 v) (hst : ∀ v, v ∈ st → vOld h.1.1 v) (k : Sy l id lim (pc + 2) ls (.ref h.1.1 :: st) (newH h kind n n) P) : Sy l id lim pc ls (.int x :: st) h P := by
  intro pr e R s m args below meth c Qm A D ro G0 n0 sz0 C hA hR hS hret G H locs lsr cells slots hE hG hV hL hc hs
  have hgs := fun q cA => GX.step G h.1.1 (mrm id).cells q cA (G.2.2 ++ [(cA, ty)]) h1000 hmc
  have kk : ∀ (q : Nat) (cA : ClassId) (H1 : Heap), va_K D vwCl (G.2.2 ++ [(cA, ty)]) s → va_P D vwCl (vW G h ++ [(q, .inl (cA, (n, .inl (fun _ => 0))))]) H1 → va_D A (vW G h ++ [(q, .inl (cA, (n, .inl (fun _ => 0))))]) → va_S A s.heap H1 locs → W pr l e R s m args below meth c H1 locs (cells + 1) (slots + n) Qm (F0 m (pc + 2) lsr (.ref q :: st.map (eV G))) := by
    intro q cA H1 hK1 hP1 hD1 hS1
    have hE1 : EmbW D (va_up G.1 h.1.1 q, va_up G.2.1 h.1.1 cA, G.2.2 ++ [(cA, ty)]) ro A (newH h kind n n) s H1 := by
      refine hE.push h1000 ?_ hK1 (fun t0 x z => by rw [List.getElem?_append_left (List.getElem?_eq_some_iff.mp z).1]; exact z) ?_ (fun p j r hp hr => by have := hq p j r hp hr; omega) hP1 hD1
      · rw [vE_num _ _ (show (newH h kind n n).1.2.2.1 h.1.1 = 7 ∨ (newH h kind n n).1.2.2.1 h.1.1 = 8 by rw [show (newH h kind n n).1.2.2.1 h.1.1 = kind from va_up_self _ _ _]; omega)]
        simp only [newH, va_up_self, uR_s]
      · intro ty' h'
        refine ⟨G.2.2.length, ?_⟩
        have : ty' = ty := by
          rcases hty with ⟨-, rfl, rfl⟩ | ⟨-, rfl, rfl⟩ <;> (cases h'; rfl)
        subst this
        simp
    have k' := k _ _ _ _ _ _ _ _ _ _ _ _ _ _ _ _ C hA hR hS hret _ _ _ _ (cells + 1) (slots + n) hE1 (hG.push (by omega) h1000 hmc) hS1 (hL.ext (hgs q cA) hls) (by show _ = h.1.1 + 1; omega) (by show _ = h.1.2.1 + n; omega)
    rw [List.map_cons, st_ext (hgs q cA) hst] at k'
    have e0 : eV (va_up G.1 h.1.1 q, va_up G.2.1 h.1.1 cA, G.2.2 ++ [(cA, ty)]) (.ref h.1.1) = .ref q := congrArg Value.ref (va_up_self _ _ _)
    rw [e0] at k'
    exact k'
  rcases hty with ⟨rfl, rfl, rfl⟩ | ⟨rfl, rfl, rfl⟩
  · exact va_newa (atype := .int) (ty := .int) (a0 := (n, .inl (fun _ => 0))) C.1 C.2.1 (C.2.2.2.2.1 _ hw) rfl hE.2.2.1 hE.1 hE.2.1 hV hA (fun _ => rfl) hx hxn (by show n * 4 ≤ _; omega) (by have := hR.2.2.1; omega) (by have := hR.2.2.2; omega) hd kk
  · exact va_newa (atype := .char) (ty := .char) (a0 := (n, .inl (fun _ => 0))) C.1 C.2.1 (C.2.2.2.2.1 _ hw) rfl hE.2.2.1 hE.1 hE.2.1 hV hA (fun _ => rfl) hx hxn (by show n * 2 ≤ _; omega) (by have := hR.2.2.1; omega) (by have := hR.2.2.2; omega) hd kk
theorem sy_newq {idx b kind n : Nat} {x : Int32} (hd : decode (mcc id) pc = .ok (.anewarray idx, 3)) (hty : b = 3 ∧ kind = 9 ∨ b = 4 ∧ kind = 10) (hw : Cond.classLink (mown id) idx (cNm b) ∈ allW) (hx : ¬ x < 0) (hxn : x.toNatClampNeg = n) (hn9 : n ≤ 1000) (hmc : (mrm id).cells ≠ 0) (hn : h.1.1 + 1 ≤ lim.1 ∧ h.1.2.1 + n ≤ lim.2) (h1000 : h.1.1 < 1000) (hq : qOld h) (hls : ∀ v, some v ∈ ls → vOld h.1.1 v) (hst : ∀ v, v ∈ st → vOld h.1.1 v) (k : Sy l id lim (pc + 3) ls (.ref h.1.1 :: st) (newH h kind n n) P) : Sy l id lim pc ls (.int x :: st) h P := by
  intro pr e R s m args below meth c Qm A D ro G0 n0 sz0 C hA hR hS hret G H locs lsr cells slots hE hG hV hL hc hs
  have hgs := fun q cA => GX.step G h.1.1 (mrm id).cells q cA (G.2.2 ++ [(cA, .object (cNm b))]) h1000 hmc
  have kk : ∀ (q : Nat) (cA : ClassId) (H1 : Heap), va_K D vwCl (G.2.2 ++ [(cA, .object (cNm b))]) s → va_P D vwCl (vW G h ++ [(q, .inl (cA, (n, .inr (.inr (.inr (.inr (fun _ => none)))))))]) H1 → va_D A (vW G h ++ [(q, .inl (cA, (n, .inr (.inr (.inr (.inr (fun _ => none)))))))]) → va_S A s.heap H1 locs → W pr l e R s m args below meth c H1 locs (cells + 1) (slots + n) Qm (F0 m (pc + 3) lsr (.ref q :: st.map (eV G))) := by
    intro q cA H1 hK1 hP1 hD1 hS1
    have hE1 : EmbW D (va_up G.1 h.1.1 q, va_up G.2.1 h.1.1 cA, G.2.2 ++ [(cA, .object (cNm b))]) ro A (newH h kind n n) s H1 := by
      refine hE.push h1000 ?_ hK1 (fun t0 x z => by rw [List.getElem?_append_left (List.getElem?_eq_some_iff.mp z).1]; exact z) ?_ (fun p j r hp hr => by have := hq p j r hp hr; omega) hP1 hD1
      · rw [vE_ref _ _ (show (newH h kind n n).1.2.2.1 h.1.1 = 9 ∨ (newH h kind n n).1.2.2.1 h.1.1 = 10 by rw [show (newH h kind n n).1.2.2.1 h.1.1 = kind from va_up_self _ _ _]; omega)]
        simp only [newH, va_up_self, uR_s, Option.map_none]
      · intro ty' h'
        refine ⟨G.2.2.length, ?_⟩
        have : ty' = .object (cNm b) := by
          rcases hty with ⟨rfl, rfl⟩ | ⟨rfl, rfl⟩ <;> (cases h'; rfl)
        subst this
        simp
    have k' := k _ _ _ _ _ _ _ _ _ _ _ _ _ _ _ _ C hA hR hS hret _ _ _ _ (cells + 1) (slots + n) hE1 (hG.push (by omega) h1000 hmc) hS1 (hL.ext (hgs q cA) hls) (by show _ = h.1.1 + 1; omega) (by show _ = h.1.2.1 + n; omega)
    rw [List.map_cons, st_ext (hgs q cA) hst] at k'
    have e0 : eV (va_up G.1 h.1.1 q, va_up G.2.1 h.1.1 cA, G.2.2 ++ [(cA, .object (cNm b))]) (.ref h.1.1) = .ref q := congrArg Value.ref (va_up_self _ _ _)
    rw [e0] at k'
    exact k'
  have hover : va_AO (cNm b) s := by
    rcases hty with ⟨rfl, -⟩ | ⟨rfl, -⟩
    · exact hE.2.2.2.2.2.1.1
    · exact hE.2.2.2.2.2.1.2.1
  exact va_newq C.1 C.2.1 C.2.2.2.1 (C.2.2.2.2.1 _ hw) hover hE.2.2.1 hE.1 hE.2.1 hV hA hx hxn (by omega) (by have := hR.2.2.1; omega) (by have := hR.2.2.2; omega) hd kk
end SYN
