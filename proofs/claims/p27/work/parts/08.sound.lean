/-! what the pure machine says holds of the real one -/
section SND
variable {l : Launch} {id : Nat} {lim : Nat × Nat} {pc : Nat} {ls : List (Option Value)} {st : List Value} {h : PH} {P : Option Value → PH → Prop}
theorem i32_nn (z : Int32) (hz : ¬ z < 0) : z.toInt = (z.toNatClampNeg : Int) := by
  have hz0 : (0 : Int) ≤ z.toInt := by simpa using Int32.le_iff_toInt_le.mp (Int32.not_lt.mp hz)
  show z.toInt = ((z.toInt.toNat : Nat) : Int)
  omega
/-- numbers copied out of an array that nobody writes -/
theorem w_copyS {pr : Program} {e : Env} {R : Room} {s : State} {m : MethodId} {args : Array Value} {below : List Frame} {meth : Method} {c : Code} {H : Heap} {locs : List Loc} {cells slots : Nat} {Q : State → Prop} {A : Nat → Prop} {D : va_G} {cl : List vw_C} {ws : va_W} {tys : List (ClassId × FieldType)} {rest : List Value} {lsr : Array Slot} {cc : ByteArray} {a : Nat}
    (hexec : pr.tables.exec = Jvm.exec) (hb : c.code = cc) (hml : c.maxLocals = lsr.size) {own : String} {index : Nat} (hown : s.vm.findClass own = some m.cls) (hlink : (Cond.methodLink own index arraycopyName).before args s = true) (hnat : (Cond.native arraycopyName).before args s = true) (hstat : (Cond.static arraycopyName).before args s = true) (hini : (Cond.initialized "java/lang/System").before args s = true)
    (hK : va_K D cl tys s) (hP : va_P D cl ws H) (hD : va_D A ws) (hS : va_S A s.heap H locs) {b0 n0 : Nat} {f : Nat → Int32} (hX : va_T .int b0 n0 (fun j => .int (f j)) A s s.heap) (q1 t1 : Nat) {c1 : ClassId} {n1 : Nat} {g : Nat → Int32} (ha1 : ws[q1]? = some (a, .inl (c1, n1, .inl g))) (ht1 : tys[t1]? = some (c1, .int))
    {sp dp n : Int32} (h1 : ¬ sp < 0) (h2 : ¬ dp < 0) (h3 : ¬ n < 0) (h4 : sp.toNatClampNeg + n.toNatClampNeg ≤ n0) (h5 : dp.toNatClampNeg + n.toNatClampNeg ≤ n1)
    (hframes : 1 ≤ R.frames) (hlocals : (rest.map fun v => v.category).sum + (nativeFrameWords "java/lang/System" "arraycopy" 5 + 11) ≤ R.locals) (hdg : decode cc pc = .ok (.invokestatic index, 3))
    (kk : ∀ (H1 : Heap) (locs1 : List Loc), va_P D cl (ws.set q1 (a, .inl (c1, n1, .inl (va_cpy f g sp.toNatClampNeg dp.toNatClampNeg n.toNatClampNeg)))) H1 → va_D A (ws.set q1 (a, .inl (c1, n1, .inl (va_cpy f g sp.toNatClampNeg dp.toNatClampNeg n.toNatClampNeg)))) → va_S A s.heap H1 locs1 → W pr l e R s m args below meth c H1 locs1 cells slots Q (F0 m (pc + 3) lsr rest)) : W pr l e R s m args below meth c H locs cells slots Q (F0 m pc lsr (.int n :: .int dp :: .ref a :: .int sp :: .ref b0 :: rest)) := by
  intro T hT X
  obtain ⟨scr, hs1, ⟨hs6, k0, hk0, cm0, hkk0⟩, hs3, hs4, -, hs5, hs7⟩ := hX
  have hc0 : H[b0]? = some scr := by rw [hS.2.1 b0 (Array.getElem?_eq_some_iff.mp hs1).1 hs7]; exact hs1
  have hc1 : H[a]? = some (vp_cell c1 (n1, .inl g)) := hP q1 _ ha1
  obtain ⟨-, k1, hk1, cm1, hkk1⟩ := (hK.2 t1 _ ht1).1 n1 (fun j => .int (g j))
  have hsz : (vp_cell c1 (n1, .inl g)).slots.size = n1 := arrV_size _ _ _
  obtain ⟨vm', X', step⟩ := X.arraycopy hexec hown hlink hnat hstat hini (src := b0) (dst := a) (cs := scr) (cd := vp_cell c1 (n1, .inl g)) (srcPos := sp) (destPos := dp) (n := n) (by rw [hT]; exact hc0) (by rw [hT]; exact hc1)
    hs6 (fun _ z => by cases z) hs3 (fun z => by cases z) hk0 hk1 hkk0 hkk1 (by simp [refKind]) h1 h2 h3
    (by rw [i32_nn sp h1, i32_nn n h3]; omega)
    (by rw [i32_nn dp h2, i32_nn n h3, hsz]; omega)
    (fun vm₁ _ i hi => by
      have e : scr.slots.getD (sp.toNatClampNeg + i) .null = .int (f (sp.toNatClampNeg + i)) := by
        rw [Array.getD_eq_getD_getElem?, hs5 _ (by omega)]
        rfl
      rw [e]
      exact ⟨rfl, trivial⟩)
    (g := F0 m pc lsr (.int n :: .int dp :: .ref a :: .int sp :: .ref b0 :: rest)) rfl (by rw [hml]) (rest := rest) rfl (by rw [hb]; exact hdg) hframes (by show 2 * 0 + _ + _ ≤ _; omega)
  have e1 : copied scr (vp_cell c1 (n1, .inl g)) sp dp n = vp_cell c1 (n1, .inl (va_cpy f g sp.toNatClampNeg dp.toNatClampNeg n.toNatClampNeg)) := va_copiedX (fun z => .int z) scr c1 f g hs5 h4
  rw [e1] at X' step
  have hl : a < H.size := (Array.getElem?_eq_some_iff.mp hc1).1
  have hheap : ((T.setVm vm').setCell a (vp_cell c1 (n1, .inl (va_cpy f g sp.toNatClampNeg dp.toNatClampNeg n.toNatClampNeg)))).heap = H.setIfInBounds a (vp_cell c1 (n1, .inl (va_cpy f g sp.toNatClampNeg dp.toNatClampNeg n.toNatClampNeg))) := by rw [← hT]; rfl
  have oq : ∀ q : Nat, q ≠ a → (H.setIfInBounds a (vp_cell c1 (n1, .inl (va_cpy f g sp.toNatClampNeg dp.toNatClampNeg n.toNatClampNeg))))[q]? = H[q]? := fun q hq => by simp [Array.getElem?_setIfInBounds, Ne.symm hq]
  obtain ⟨t, a1, b1⟩ := kk _ _ (hP.set hD ha1 (show (H.setIfInBounds a _)[a]? = some _ by simp [Array.getElem?_setIfInBounds, hl]) oq) (hD.set ha1) ⟨by simp; exact hS.1, fun q g1 g2 => by
      rw [oq q (fun e => g2 (by rw [e]; exact hD.2 q1 _ ha1))]
      exact hS.2.1 q g1 g2, fun q hq => by
      rcases List.mem_append.mp hq with z | z
      · exact hS.2.2 q z
      · obtain ⟨y, -, hy⟩ := List.mem_map.mp z
        rw [← hy]
        exact hD.2 q1 _ ha1⟩ _ hheap X'
  exact ⟨t, step t a1, b1⟩
theorem sy_copyS {idx p q : Nat} {sp dp n : Int32} (hd : decode (mcc id) pc = .ok (.invokestatic idx, 3)) (hw : Cond.methodLink (mown id) idx arraycopyName ∈ allW ∧ Cond.native arraycopyName ∈ allW ∧ Cond.static arraycopyName ∈ allW ∧ Cond.initialized "java/lang/System" ∈ allW) (hroom : 1 ≤ (mrm id).frames ∧ 26 ≤ (mrm id).locals) (hst : catS st ≤ 8) (hp : p < h.1.1) (hk : h.1.2.2.1 p = 7) (hq : 1000 ≤ q) (hk2 : h.1.2.2.1 q = 11) (h1 : ¬ sp < 0) (h2 : ¬ dp < 0) (h3 : ¬ n < 0) (h4 : sp.toNatClampNeg + n.toNatClampNeg ≤ h.1.2.2.2 q) (h5 : dp.toNatClampNeg + n.toNatClampNeg ≤ h.1.2.2.2 p) (k : Sy l id lim (pc + 3) ls st (h.1, uR h.2.1 p (va_cpy (h.2.1 q) (h.2.1 p) sp.toNatClampNeg dp.toNatClampNeg n.toNatClampNeg), h.2.2) P) : Sy l id lim pc ls (.int n :: .int dp :: .ref p :: .int sp :: .ref q :: st) h P := by
  intro pr e R s m args below meth c Qm A D ro G0 n0 sz0 C hA hR hS hret G H locs lsr cells slots hE hG hV hL hc hs
  obtain ⟨t0, ht⟩ := hE.2.2.2.1 p .int hp (by rw [hk]; rfl)
  obtain ⟨r1, r2, r3⟩ := hE.2.2.2.2.2.2 q hq
  have hT := hS.1 q hq (by rw [← r1]; exact hk2)
  rw [← hG.1 q (Or.inr hq), ← r2, ← r3] at hT
  have e7 : nativeFrameWords "java/lang/System" "arraycopy" 5 = 7 := by decide
  have hloc : ((st.map (eV G)).map fun v => v.category).sum + (nativeFrameWords "java/lang/System" "arraycopy" 5 + 11) ≤ R.locals := by rw [cat_sum, e7]; have := hR.2.1; omega
  exact w_copyS C.1 C.2.1 (C.2.2.1.trans hL.2.1.symm) C.2.2.2.1 (C.2.2.2.2.1 _ hw.1) (C.2.2.2.2.1 _ hw.2.1) (C.2.2.2.2.1 _ hw.2.2.1) (C.2.2.2.2.1 _ hw.2.2.2) hE.2.2.1 hE.1 hE.2.1 hV hT p t0 (by rw [vW_get G h hp, vE_num G h (Or.inl hk)]) ht h1 h2 h3 h4 h5 (by have := hR.1; omega) hloc hd fun H1 locs1 hP1 hD1 hS1 =>
    k _ _ _ _ _ _ _ _ _ _ _ _ _ _ _ _ C hA hR hS hret _ _ _ _ _ _ (hE.upd (h' := (h.1, uR h.2.1 p (va_cpy (h.2.1 q) (h.2.1 p) sp.toNatClampNeg dp.toNatClampNeg n.toNatClampNeg), h.2.2)) hp rfl (fun q hq => uR_n _ _ hq) (fun _ _ => rfl) (vE_row G h (Or.inl hk) _).symm hP1 hD1) hG hS1 hL hc hs
theorem sy_abs {idx : Nat} {x : Int32} (hd : decode (mcc id) pc = .ok (.invokestatic idx, 3)) (hw : Cond.methodLink (mown id) idx Lib.Math.abs.name ∈ allW ∧ Cond.static Lib.Math.abs.name ∈ allW ∧ Cond.initialized "java/lang/Math" ∈ allW ∧ Cond.code Lib.Math.abs.name Lib.Math.abs.code 1 (some .int) ∈ allW) (hroom : 1 ≤ (mrm id).frames ∧ 21 ≤ (mrm id).locals) (hst : catS st ≤ 8) (hlim : h.1.1 ≤ lim.1 ∧ h.1.2.1 ≤ lim.2) (k : Sy l id lim (pc + 3) ls (.int (if 0 ≤ x then x else 0 - x) :: st) h P) : Sy l id lim pc ls (.int x :: st) h P := by
  intro pr e R s m args below meth c Qm A D ro G0 n0 sz0 C hA hR hS hret G H locs lsr cells slots hE hG hV hL hc hs
  have k' := k _ _ _ _ _ _ _ _ _ _ _ _ _ _ _ _ C hA hR hS hret _ _ _ _ _ _ hE hG hV hL hc hs
  have hloc : ((st.map (eV G)).map fun v => v.category).sum + 13 ≤ R.locals := by rw [cat_sum]; have := hR.2.1; omega
  exact va_mabs C.1 C.2.1 (C.2.2.1.trans hL.2.1.symm) C.2.2.2.1 (C.2.2.2.2.1 _ hw.1) (C.2.2.2.2.1 _ hw.2.1) (C.2.2.2.2.1 _ hw.2.2.1) (C.2.2.2.2.1 _ hw.2.2.2) (by have := hR.1; omega) hloc (by have := hR.2.2.1; omega) (by have := hR.2.2.2; omega) hd k'
def fnOK (l : Launch) (fn : Nat → Option FN) : Prop := ∀ y f, fn y = some f → ∀ As h, (f As h).1 → ∃ v : Option Value, v.toList = (f As h).2.1 ∧ ∀ Q : Option Value → PH → Prop, Q v (f As h).2.2 → Runs l y As h Q
theorem goC_ok {fn : Nat → Option FN} (hfn : fnOK l fn) {y : Nat} {As : List Value} {k sy : List Value → PH → Prop} (hk : ∀ w h', k w h' → sy w h') (hg : goC l fn y As h k sy) : Runs l y As h (fun v h' => sy v.toList h') := by
  unfold goC at hg
  split at hg
  · next f hf =>
    obtain ⟨v, e1, e2⟩ := hfn y f hf As h hg.1
    refine e2 _ ?_
    rw [e1]
    exact hk _ _ hg.2
  · exact hg
theorem callOK_st {d : List Nat} (hc : callOK lim ls st h d) : catS st ≤ 8 := hc.1
theorem callOK_lim {kd c s : Nat} (hc : callOK lim ls st h [kd, c, s]) : (h.1.1 + c ≤ lim.1 ∧ h.1.2.1 + s ≤ lim.2) ∧ (c = 0 ∨ (∀ v, some v ∈ ls → vOld h.1.1 v) ∧ ∀ v, v ∈ st → vOld h.1.1 v) := by
  obtain ⟨-, hc⟩ := hc
  split at hc
  · next e => cases e; exact ⟨⟨by omega, by omega⟩, Or.inl rfl⟩
  · next e => cases e; exact ⟨hc.1, Or.inr hc.2⟩
  · exact hc.elim
theorem swL_get {x : Int32} {dflt : Nat} {K : Nat → Prop} : ∀ {cs : List (Int32 × Nat)}, swL x dflt K cs → (∃ (j : Nat) (v : Int32) (t : Nat), cs[j]? = some (v, t) ∧ x = v ∧ (∀ (i : Nat) v' t', i < j → cs[i]? = some (v', t') → ¬ x = v') ∧ K t) ∨ ((∀ (j : Nat) v t, cs[j]? = some (v, t) → ¬ x = v) ∧ K dflt) := by
  intro cs
  induction cs with
  | nil => intro hx; exact Or.inr ⟨fun j v t z => by simp at z, hx⟩
  | cons q r ih =>
    intro hx
    obtain ⟨v, t⟩ := q
    obtain ⟨h1, h2⟩ := hx
    by_cases e : x = v
    · exact Or.inl ⟨0, v, t, rfl, e, fun i v' t' z => by omega, h1 e⟩
    · rcases ih (h2 e) with ⟨j, v1, t1, z1, z2, z3, z4⟩ | ⟨z1, z2⟩
      · refine Or.inl ⟨j + 1, v1, t1, by simpa using z1, z2, fun i v' t' hi hz => ?_, z4⟩
        cases i with
        | zero => simp at hz; rw [← hz.1]; exact e
        | succ i => exact z3 i v' t' (by omega) (by simpa using hz)
      · refine Or.inr ⟨fun j v' t' hz => ?_, z2⟩
        cases j with
        | zero => simp at hz; rw [← hz.1]; exact e
        | succ j => exact z1 j v' t' (by simpa using hz)
theorem i32_eq_of {x y : Int32} (h : x.toInt = y.toInt) : x = y := Int32.toInt_inj.mp h
theorem look_off (x : Int) (dflt : Int) : ∀ (ps : List (Int × Int)), (∃ (j : Nat) (v o : Int), ps[j]? = some (v, o) ∧ x = v ∧ (∀ (i : Nat) v' o', i < j → ps[i]? = some (v', o') → ¬ x = v') ∧ Op.lookupswitch.offset ps dflt x = o) ∨ ((∀ (j : Nat) v o, ps[j]? = some (v, o) → ¬ x = v) ∧ Op.lookupswitch.offset ps dflt x = dflt) := by
  intro ps
  induction ps with
  | nil => exact Or.inr ⟨fun j v o z => by simp at z, rfl⟩
  | cons q r ih =>
    obtain ⟨v, o⟩ := q
    rw [Op.lookupswitch.offset_cons]
    by_cases e : x = v
    · rw [if_pos e.symm]
      exact Or.inl ⟨0, v, o, rfl, e, fun i v' t' z => by omega, rfl⟩
    · rw [if_neg (Ne.symm e)]
      rcases ih with ⟨j, v1, t1, z1, z2, z3, z4⟩ | ⟨z1, z2⟩
      · refine Or.inl ⟨j + 1, v1, t1, by simpa using z1, z2, fun i v' t' hi hz => ?_, z4⟩
        cases i with
        | zero => simp at hz; rw [← hz.1]; exact e
        | succ i => exact z3 i v' t' (by omega) (by simpa using hz)
      · refine Or.inr ⟨fun j v' t' hz => ?_, z2⟩
        cases j with
        | zero => simp at hz; rw [← hz.1]; exact e
        | succ j => exact z1 j v' t' (by simpa using hz)
theorem ex_sw {K : Nat → Prop} {x : Int32} {a : Nat} {cs : List (Int32 × Nat)} (hx : swL x a K cs) : (∃ (j : Nat) (v : Int32) (t : Nat), cs[j]? = some (v, t) ∧ x = v ∧ (∀ (i : Nat) v' t', i < j → cs[i]? = some (v', t') → ¬ x = v') ∧ K t) ∨ ((∀ (j : Nat) v t, cs[j]? = some (v, t) → ¬ x = v) ∧ K a) := swL_get hx
theorem sy_lookupL {dflt : Int} {ps : Array (Int × Int)} {len a : Nat} {x : Int32} {cs : List (Int32 × Nat)} (hd : decode (mcc id) pc = .ok (.lookupswitch dflt ps, len)) (hp : (ps.toList.zip (ps.toList.drop 1)).all (fun (a, next) => a.1 < next.1) = true) (ha : (pc : Int) + dflt = (a : Int)) (hcs : cs.map (fun q => (q.1.toInt, (q.2 : Int))) = ps.toList.map (fun q => (q.1, (pc : Int) + q.2))) (hx : swL x a (fun t => Sy l id lim t ls st h P) cs) : Sy l id lim pc ls (.int x :: st) h P := by
  refine sy_lookup hd hp ?_
  have key : ∀ (j : Nat) v o, ps.toList[j]? = some (v, o) → ∃ v' t, cs[j]? = some (v', t) ∧ v'.toInt = v ∧ (t : Int) = pc + o := by
    intro j v o hj
    have e : (cs.map (fun q => (q.1.toInt, (q.2 : Int))))[j]? = some (v, (pc : Int) + o) := by rw [hcs, List.getElem?_map, hj]; rfl
    rw [List.getElem?_map] at e
    cases hc : cs[j]? with
    | none => rw [hc] at e; cases e
    | some q =>
      rw [hc] at e
      simp only [Option.map_some, Option.some.injEq, Prod.mk.injEq] at e
      exact ⟨q.1, q.2, rfl, e.1, e.2⟩
  have key2 : ∀ (j : Nat) v' t, cs[j]? = some (v', t) → ∃ v o, ps.toList[j]? = some (v, o) ∧ v'.toInt = v ∧ (t : Int) = pc + o := by
    intro j v t hj
    have e : (ps.toList.map (fun q => (q.1, (pc : Int) + q.2)))[j]? = some (v.toInt, (t : Int)) := by rw [← hcs, List.getElem?_map, hj]; rfl
    rw [List.getElem?_map] at e
    cases hc : ps.toList[j]? with
    | none => rw [hc] at e; cases e
    | some q =>
      rw [hc] at e
      simp only [Option.map_some, Option.some.injEq, Prod.mk.injEq] at e
      exact ⟨q.1, q.2, rfl, e.1.symm, e.2.symm⟩
  rcases look_off x.toInt dflt ps.toList with ⟨j, v, o, z1, z2, z3, z4⟩ | ⟨z1, z4⟩
  · obtain ⟨v', t, w1, w2, w3⟩ := key j v o z1
    refine ⟨t, by rw [z4]; exact w3.symm, ?_⟩
    rcases swL_get hx with ⟨j2, v2, t2, y1, y2, y3, y4⟩ | ⟨y1, y2⟩
    · have : j2 = j := by
        rcases Nat.lt_trichotomy j2 j with q | q | q
        · obtain ⟨v3, o3, u1, u2, u3⟩ := key2 j2 v2 t2 y1
          exact absurd (by rw [y2]; exact u2) (z3 j2 v3 o3 q u1)
        · exact q
        · exact absurd (i32_eq_of (by rw [z2, w2])) (y3 j v' t q w1)
      subst this
      rw [w1] at y1
      cases y1
      exact y4
    · exact absurd (i32_eq_of (by rw [z2, w2])) (y1 j v' t w1)
  · refine ⟨a, by rw [z4]; exact ha, ?_⟩
    rcases swL_get hx with ⟨j2, v2, t2, y1, y2, y3, y4⟩ | ⟨y1, y2⟩
    · obtain ⟨v3, o3, u1, u2, u3⟩ := key2 j2 v2 t2 y1
      exact absurd (by rw [y2]; exact u2) (z1 j2 v3 o3 u1)
    · exact y2
theorem sy_tableL {dflt lo hi : Int} {offs : Array Int} {len a : Nat} {x : Int32} {cs : List (Int32 × Nat)} (hd : decode (mcc id) pc = .ok (.tableswitch dflt lo hi offs, len)) (ha : (pc : Int) + dflt = (a : Int)) (hcs : cs.map (fun q => (q.1.toInt, (q.2 : Int))) = (List.range offs.size).map (fun (j : Nat) => (lo + (j : Int), (pc : Int) + (offs[j]?).getD 0))) (hhi : hi + 1 = lo + (offs.size : Int)) (hx : swL x a (fun t => Sy l id lim t ls st h P) cs) : Sy l id lim pc ls (.int x :: st) h P := by
  have key : ∀ (j : Nat), j < offs.size → ∃ v' t, cs[j]? = some (v', t) ∧ v'.toInt = lo + j ∧ (t : Int) = pc + (offs[j]?).getD 0 := by
    intro j hj
    have e : (cs.map (fun q => (q.1.toInt, (q.2 : Int))))[j]? = some (lo + (j : Int), (pc : Int) + (offs[j]?).getD 0) := by rw [hcs]; simp [hj]
    rw [List.getElem?_map] at e
    cases hc : cs[j]? with
    | none => rw [hc] at e; cases e
    | some q =>
      rw [hc] at e
      simp only [Option.map_some, Option.some.injEq, Prod.mk.injEq] at e
      exact ⟨q.1, q.2, rfl, e.1, e.2⟩
  have hlen : cs.length = offs.size := by
    have := congrArg List.length hcs
    simpa using this
  by_cases hr : x.toInt < lo ∨ hi < x.toInt
  · refine sy_tableOut hd hr ha ?_
    rcases swL_get hx with ⟨j2, v2, t2, y1, y2, y3, y4⟩ | ⟨y1, y2⟩
    · have hj : j2 < offs.size := by rw [← hlen]; exact (List.getElem?_eq_some_iff.mp y1).1
      obtain ⟨v', t, w1, w2, w3⟩ := key j2 hj
      rw [w1] at y1
      cases y1
      rw [y2, w2] at hr
      omega
    · exact y2
  · have hj : (x.toInt - lo).toNat < offs.size := by omega
    obtain ⟨v', t, w1, w2, w3⟩ := key _ hj
    have hxv : x = v' := i32_eq_of (by rw [w2]; omega)
    refine sy_tableIn (tgt := t) (off := (offs[(x.toInt - lo).toNat]?).getD 0) hd (by omega) (by omega) (by rw [Array.getElem?_eq_getElem hj]; rfl) w3.symm ?_
    rcases swL_get hx with ⟨j2, v2, t2, y1, y2, y3, y4⟩ | ⟨y1, y2⟩
    · have hj2 : j2 < offs.size := by rw [← hlen]; exact (List.getElem?_eq_some_iff.mp y1).1
      obtain ⟨v3, t3, u1, u2, u3⟩ := key j2 hj2
      rw [u1] at y1
      obtain ⟨rfl, rfl⟩ := Prod.mk.inj (Option.some.inj y1)
      have : j2 = (x.toInt - lo).toNat := by
        have e : v3.toInt = v'.toInt := by rw [← hxv, ← y2]
        rw [u2, w2] at e
        omega
      subst this
      rw [w1] at u1
      obtain ⟨rfl, rfl⟩ := Prod.mk.inj (Option.some.inj u1)
      exact y4
    · exact absurd hxv (y1 _ v' t w1)
end SND
