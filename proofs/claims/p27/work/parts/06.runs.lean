/-! the bridge, on: a method's run, calls, answers -/
def mws (id : Nat) : List Cond := Cond.code (mnm id) (mcc id) (mmx id) (mret id) :: allW
def PcR (D : va_G) (G : GH) (ro : ROA) (sz : Nat) (args : List Value) (h : PH) : Array Value → State → Prop :=
  va_Pc (args.map (eV G)) (fun U => U.heap.size = sz ∧ EmbW D G ro (va_A (vW G h) sz) h U U.heap ∧ EmbS G ro (va_A (vW G h) sz) U U.heap)
def QcR (D : va_G) (G : GH) (ro : ROA) (sz : Nat) (h : PH) (id : Nat) (P : Option Value → PH → Prop) : Array Value → State → Outcome → State → Prop := fun _ st o t =>
  (∃ (v : Option Value) (h' : PH) (G' : GH), o = .returned (v.map (eV G')) ∧ P v h' ∧ h'.1.1 = h.1.1 + (mrm id).cells ∧ h'.1.2.1 = h.1.2.1 + (mrm id).slots ∧ GX G G' h.1.1 (mrm id).cells ∧ EmbW D G' ro (va_A (vW G h) sz) h' t t.heap) ∧ va_F (va_A (vW G h) sz) st t
/-- THE METHOD RUNS: from these arguments and cells it comes to its end, with P of its answer and of the cells then -/
def Runs (l : Launch) (id : Nat) (args : List Value) (h : PH) (P : Option Value → PH → Prop) : Prop :=
  ∀ (D : va_G) (G : GH) (ro : ROA) (sz : Nat), Met l (mnm id) (mws id) (mrm id) (PcR D G ro sz args h) (QcR D G ro sz h id P) (mrm id).cells (mrm id).slots (va_A (vW G h) sz)
def MOK (id : Nat) : Prop := Cond.code (mnm id) (mcc id) (mmx id) (mret id) ∈ allW ∧ Cond.initialized (mnm id).cls ∈ allW ∧ ((mnm id).cls ≠ "java/lang/invoke/MethodHandle" ∧ (mnm id).cls ≠ "java/lang/invoke/VarHandle" ∧ (parseMethodDescriptor (mnm id).desc).map (fun d => d.parameters.length) = some (mnp id)) ∧ plainName (mnm id).cls = true ∧ mown id = (mnm id).cls ∧ (mini id = true → (mnm id).name = "<init>")
theorem allW_good : ∀ w ∈ allW, goodWord w = true := fun _ hw => (List.mem_filter.mp hw).2
theorem good_mws {id : Nat} (h : MOK id) : GoodIn allW (mws id) := by
  intro w hw
  rcases List.mem_cons.mp hw with rfl | hw
  · exact ⟨h.1, good_of_word (allW_good _ h.1)⟩
  · exact ⟨hw, good_of_word (allW_good _ hw)⟩
theorem EmbW.moved {D : va_G} {G : GH} {ro : ROA} {A : Nat → Prop} {h : PH} {u U : State} {H : Heap} (hW : u.WarmedH U.vm) (hE : EmbW D G ro A h u H) : EmbW D G ro A h U H :=
  ⟨hE.1, hE.2.1, va_K.moved hW.alike hE.2.2.1, hE.2.2.2.1, hE.2.2.2.2.1, ⟨va_AO.moved hW.alike hE.2.2.2.2.2.1.1, va_AO.moved hW.alike hE.2.2.2.2.2.1.2.1, va_Nw.warmM hW hE.2.2.2.2.2.1.2.2⟩, hE.2.2.2.2.2.2⟩
theorem PcR_blind (D : va_G) (G : GH) (ro : ROA) (sz : Nat) (args : List Value) (h : PH) : FrameBlind (PcR D G ro sz args h) := by
  intro a U g mk hp
  obtain ⟨h1, h2, hE, hS⟩ := hp
  have hal : U.vm.Alike (U.calling g mk a).vm := Vm.Alike.refl U.vm
  refine ⟨h1, h2, ⟨hE.1, hE.2.1, va_K.moved (u := U) (U := U.calling g mk a) hal hE.2.2.1, hE.2.2.2.1, hE.2.2.2.2.1, ⟨va_AO.moved (u := U) (U := U.calling g mk a) hal hE.2.2.2.2.2.1.1, va_AO.moved (u := U) (U := U.calling g mk a) hal hE.2.2.2.2.2.1.2.1, va_Nw.same rfl (u := U) (U := U.calling g mk a) rfl hE.2.2.2.2.2.1.2.2⟩, hE.2.2.2.2.2.2⟩, ?_, ?_⟩
  · intro p hp hk
    exact va_T.moved (u := U) (U := U.calling g mk a) hal (hS.1 p hp hk)
  · intro k hk
    exact va_Z.moved (u := U) (U := U.calling g mk a) hal (hS.2 k hk)
theorem noL_cons {v : Value} {r : List Value} (h : noL (v :: r) = true) : vC v = 1 ∧ noL r = true := by
  cases v <;> first | exact ⟨rfl, h⟩ | exact absurd h (by simp [noL])
theorem lv_args1 (G : GH) : ∀ (vs : List Value) (i k : Nat) (v : Value), noL vs = true → vs[k]? = some v → (i + k, eV G v) ∈ lv_args i (vs.map (eV G)) := by
  intro vs
  induction vs with
  | nil => intro i k v _ h; simp at h
  | cons a r ih =>
    intro i k v hn h
    obtain ⟨h1, h2⟩ := noL_cons hn
    simp only [List.map_cons, lv_args, eV_cat, h1]
    cases k with
    | zero =>
      simp at h
      subst h
      simp
    | succ k =>
      refine List.mem_cons_of_mem _ ?_
      have := ih (i + 1) k v h2 (by simpa using h)
      rw [show i + 1 + k = i + (k + 1) by omega] at this
      simpa using this
theorem lg_len (G : GH) (vs : List Value) (hn : noL vs = true) : (lg_sl (vs.map (eV G))).length = vs.length := by
  induction vs with
  | nil => rfl
  | cons a r ih =>
    obtain ⟨h1, h2⟩ := noL_cons hn
    have : lg_sl ((a :: r).map (eV G)) = .val (eV G a) :: lg_sl (r.map (eV G)) := by simp [lg_sl, eV_cat, h1]
    rw [this, List.length_cons, List.length_cons, ih h2]
theorem LvR_entry (G : GH) (vs : List Value) (n : Nat) (hno : noL vs = true) (hn : vs.length ≤ n) : LvR G (vs.map some ++ List.replicate (n - vs.length) none) ((lg_sl (vs.map (eV G)) ++ List.replicate (n - (lg_sl (vs.map (eV G))).length) Slot.unset).toArray) n := by
  have hl := lv_entry (vs.map (eV G)) (n := n) (by rw [lg_len G vs hno]; exact hn)
  refine ⟨by simp; omega, hl.1, hl.2.1, fun q hq => hl.2.2 q ?_⟩
  obtain ⟨k, v, h1, -, rfl⟩ := (lvl_mem G _ _).mp hq
  by_cases hk : k < vs.length
  · rw [List.getElem?_append_left (by simpa using hk)] at h1
    have := lv_args1 G vs 0 k v hno (by simpa using h1)
    rw [Nat.zero_add] at this
    exact this
  · rw [List.getElem?_append_right (by simp; omega)] at h1
    have := List.eq_of_mem_replicate (List.mem_of_getElem? h1)
    cases this
section SYR
variable {l : Launch} {id : Nat} {lim : Nat × Nat} {pc : Nat} {ls : List (Option Value)} {st : List Value} {h : PH} {P : Option Value → PH → Prop}
theorem run_of {args : List Value} (hid : MOK id) (hno : noL args = true) (hlen : args.length ≤ mmx id) (k : Sy l id (h.1.1 + (mrm id).cells, h.1.2.1 + (mrm id).slots) 0 (args.map some ++ List.replicate (mmx id - args.length) none) [] h P) : Runs l id args h P := by
  intro D G ro sz
  refine Met.ofW (cc := mcc id) (maxL := mmx id) (ret := mret id) hid.2.2.2.1 rfl ?_
  intro p e s m args' below meth c s₁ B hml hv
  obtain ⟨rfl, hsz, hE, hS⟩ := hv
  subst hsz
  have hts := atoms_spec (ws := mws id) B.pre
  have hown : s.vm.findClass (mown id) = some m.cls := by rw [hid.2.2.2.2.1]; exact findClass_of_methodNamed B.named
  have C : Cx p s m (args.map (eV G)).toArray meth c id := ⟨B.exec, B.bytes, hml, hown, fun w hw => hts w (List.mem_cons_of_mem _ hw), fun z => by rw [(name_of_methodNamed B.named B.method).1]; exact hid.2.2.2.2.2 z⟩
  have hlocks := B.notSynchronized
  have hr := B.returns
  rw [lg_entry_eq]
  refine k _ _ _ _ _ _ _ _ _ _ (va_A (vW G h) s.heap.size) D ro G h.1.1 h.1.2.1 C (fun q hq => Or.inr hq) ⟨Nat.le_refl _, Nat.le_refl _, Nat.le_refl _, Nat.le_refl _⟩ hS ?_ G s.heap [] _ 0 0 hE ⟨fun _ _ => rfl, fun _ => rfl⟩ va_S.rf (LvR_entry G args (mmx id) hno hlen) (by omega) (by omega)
  intro pc v h' G' H locs lsr cells slots hret hP h1 h2 hE' hG' hV hc hs
  have hcm : cells = (mrm id).cells := by dsimp only at h1; omega
  have hsm : slots = (mrm id).slots := by dsimp only at h2; omega
  subst hcm; subst hsm
  have hq : ∀ t : State, t.heap = H → s.WarmedH t.vm → QcR D G ro s.heap.size h id P (args.map (eV G)).toArray s (.returned (v.map (eV G'))) t := fun t ht hW =>
    ⟨⟨v, h', G', rfl, hP, h1, h2, hG', by rw [ht]; exact hE'.moved hW⟩, hV.F ht⟩
  rcases hret with ⟨rfl, e1, e2⟩ | ⟨x, ty, rfl, e1, e3, e2⟩ | ⟨n, r, rfl, e1, e2⟩ | ⟨x, rfl, e1, e2⟩
  · exact W.vret C.1 C.2.1 (hr.trans e1) hq hV.2.2 e2 hlocks
  · exact W.zret C.1 C.2.1 (hr.trans e1) e3 hq hV.2.2 e2 hlocks
  · refine W.aret (v := eV G' (rvl r)) C.1 C.2.1 (hr.trans e1) (Or.inl ⟨n, rfl⟩) (by rw [eV_rvl]; exact va_rf_or _) hq hV.2.2 e2 hlocks
  · exact W.lret C.1 C.2.1 (hr.trans e1) hq hV.2.2 e2 hlocks
theorem sy_ret {v : Option Value} (hr : isRet id pc v) (hst : st = v.toList) (hl : h.1.1 = lim.1 ∧ h.1.2.1 = lim.2) (k : P v h) : Sy l id lim pc ls st h P := by
  intro p e R s m args below meth c Qm A D ro G0 n0 sz0 C hA hR hS hret G H locs lsr cells slots hE hG hV hL hc hs
  have := hret pc v h G H locs lsr cells slots hr k hl.1 hl.2 hE hG hV hc hs
  subst hst
  cases v with
  | none => exact this
  | some v => exact this
/-- behind a call -/
theorem call_go {y : Nat} {pr : Program} {e : Env} {R : Room} {s : State} {m : MethodId} {args a : Array Value} {below : List Frame} {meth : Method} {c : Code} {Qm : State → Prop} {A : Nat → Prop} {D : va_G} {ro : ROA} {G0 G : GH} {n0 sz0 : Nat} {H : Heap} {locs : List Loc} {lsr : Array Slot} {cells slots : Nat} {st0 : List Value}
    (hr : va_Run pr l e R s m args below meth c H locs cells slots (mrm y).cells (mrm y).slots (F0 m pc lsr st0) (st.map (eV G)) (QcR D G ro H.size h y (fun v h' => Sy l id lim (pc + 3) ls (v.toList ++ st) h' P) a) (va_A (vW G h) H.size))
    (C : Cx pr s m args meth c id) (hA : ∀ q, s.heap.size ≤ q → A q) (hR : (mrm id).frames ≤ R.frames ∧ (mrm id).locals ≤ R.locals ∧ lim.1 ≤ n0 + R.cells ∧ lim.2 ≤ sz0 + R.slots) (hS : EmbS G0 ro A s s.heap) (hret : RetOK pr l e R s m args below meth c Qm A D ro G0 n0 sz0 id lim P)
    (hE : EmbW D G ro A h s H) (hG : GX G0 G n0 (mrm id).cells) (hV : va_S A s.heap H locs) (hL : LvR G ls lsr (mmx id)) (hc : cells + n0 = h.1.1) (hs : slots + sz0 = h.1.2.1)
    (hmc : (mrm id).cells = 0 → (mrm y).cells = 0) (hold : (mrm y).cells = 0 ∨ (∀ v, some v ∈ ls → vOld h.1.1 v) ∧ (∀ v, v ∈ st → vOld h.1.1 v)) : W pr l e R s m args below meth c H locs cells slots Qm (F0 m pc lsr st0) := by
  intro T hT X
  obtain ⟨v, st₀, t, T', L, h0, X', hL', e1, e2, ⟨⟨v', h', G', hv, hk, hn1, hn2, hGX, hE'⟩, hz, hkk⟩, stp⟩ := hr T hT X
  cases hv
  rw [h0] at hz hkk
  have hFc : ∀ q, va_A (vW G h) H.size q → A q := by
    intro q hq
    rcases hq with ⟨k, E, z⟩ | z
    · exact hE.2.1.2 k (q, E) z
    · exact hA q (Nat.le_trans hV.1 z)
  have hE1 : EmbW D G' ro A h' s T'.heap := by
    rw [e1]
    refine ⟨hE'.1, hE'.2.1.weaken (fun _ q _ z => hFc q.1 z), va_K.moved (u := t) (U := s) ?_ hE'.2.2.1, hE'.2.2.2.1, hE'.2.2.2.2.1, hE.2.2.2.2.2.1, hE'.2.2.2.2.2.2⟩
    rw [← e2]
    exact X'.warmed.alike.symm
  have hS1 : va_S A s.heap T'.heap (locs ++ L) := ⟨Nat.le_trans hV.1 (by rw [e1]; exact hz), fun q g1 g2 => by rw [e1, hkk q (Nat.lt_of_lt_of_le g1 hV.1) (fun z => g2 (hFc q z))]; exact hV.2.1 q g1 g2, fun q hq => by
      rcases List.mem_append.mp hq with z | z
      · exact hV.2.2 q z
      · exact hFc _ (hL' q z)⟩
  have hG1 : GX G0 G' n0 (mrm id).cells := ⟨fun p hp => by rw [hGX.1 p (by omega)]; exact hG.1 p hp, fun z => by rw [hGX.2 (hmc z)]; exact hG.2 z⟩
  have hLs : LvR G' ls lsr (mmx id) ∧ st.map (eV G') = st.map (eV G) := by
    rcases hold with z | ⟨z1, z2⟩
    · rw [hGX.2 z]; exact ⟨hL, rfl⟩
    · exact ⟨hL.ext hGX z1, st_ext hGX z2⟩
  obtain ⟨t2, a1, b1⟩ := hk _ _ _ _ _ _ _ _ _ _ _ _ _ _ _ _ C hA hR hS hret G' T'.heap (locs ++ L) lsr (cells + (mrm y).cells) (slots + (mrm y).slots) hE1 hG1 hS1 hLs.1 (by omega) (by omega) T' rfl X'
  refine ⟨t2, stp t2 ?_, b1⟩
  have e3 : (v'.toList ++ st).map (eV G') = (v'.map (eV G')).toList ++ st.map (eV G) := by
    rw [List.map_append, hLs.2]
    cases v' <;> rfl
  rw [e3] at a1
  exact a1
theorem emb_callee {s U : State} {A : Nat → Prop} {D : va_G} {ro : ROA} {G0 G : GH} {n0 mc : Nat} {H : Heap} {locs : List Loc} {args : List Value} (hA : ∀ q, s.heap.size ≤ q → A q) (hS : EmbS G0 ro A s s.heap) (hE : EmbW D G ro A h s H) (hG : GX G0 G n0 mc) (hV : va_S A s.heap H locs) (hU : U.heap = H) (hW : s.WarmedH U.vm) : PcR D G ro H.size args h (args.map (eV G)).toArray U := by
  have hFc : ∀ q, va_A (vW G h) H.size q → A q := by
    intro q hq
    rcases hq with ⟨k, E, z⟩ | z
    · exact hE.2.1.2 k (q, E) z
    · exact hA q (Nat.le_trans hV.1 z)
  have hE2 := hE.moved hW
  refine ⟨rfl, by rw [hU], ?_, ?_⟩
  · rw [hU]
    exact ⟨hE2.1, hE2.2.1.self, hE2.2.2⟩
  · rw [hU]
    refine ⟨fun p hp hk => ?_, fun k hk => ?_⟩
    · have := hS.1 p hp hk
      rw [← hG.1 p (Or.inr hp)] at this
      exact va_T.moved hW.alike ((this.kept hV.2.1).narrow hFc)
    · have := hS.2 k hk
      rw [← hG.1 (1000 + k) (Or.inr (by omega))] at this
      exact va_Z.moved hW.alike ((this.kept hV.2.1).narrow hFc)
theorem cat_sum (G : GH) (st : List Value) : ((st.map (eV G)).map fun v => v.category).sum = catS st := by
  induction st with
  | nil => rfl
  | cons v st ih => simp only [List.map_cons, List.sum_cons, catS, eV_cat, ih]
theorem sy_callV {idx y b : Nat} {As : List Value} (hd : decode (mcc id) pc = .ok (.invokevirtual idx, 3)) (hy : MOK y) (hw : Cond.methodLink (mown id) idx (mnm y) ∈ allW ∧ Cond.instanceMethod (mnm y) ∈ allW ∧ Cond.selects (mown y) (mnm y) (mnm y) ∈ allW) (hroom : (mrm y).frames + 1 ≤ (mrm id).frames ∧ 8 + (mmx y + 11) + (mrm y).locals ≤ (mrm id).locals) (hst : catS st ≤ 8) (hp : b < h.1.1) (hk : h.1.2.2.1 b = mkd y) (hkd : mkd y < 6 ∧ cNm (mkd y) = mown y) (hn : As.length = mnp y) (hlim : h.1.1 + (mrm y).cells ≤ lim.1 ∧ h.1.2.1 + (mrm y).slots ≤ lim.2) (hmc : (mrm id).cells = 0 → (mrm y).cells = 0) (hold : (mrm y).cells = 0 ∨ (∀ v, some v ∈ ls → vOld h.1.1 v) ∧ (∀ v, v ∈ st → vOld h.1.1 v))
    (k : Runs l y (.ref b :: As) h (fun v h' => Sy l id lim (pc + 3) ls (v.toList ++ st) h' P)) : Sy l id lim pc ls (As.reverse ++ .ref b :: st) h P := by
  intro pr e R s m args below meth c Qm A D ro G0 n0 sz0 C hA hR hS hret G H locs lsr cells slots hE hG hV hL hc hs
  have hb := vE_obj G h hk hkd.1
  have hrun := va_runV (cells := cells) (slots := slots) (locs := locs) (H := H) (s := s) (m := m) (below := below) (meth := meth) (e := e) (As := As.map (eV G)) (b := G.1 b) (rest := st.map (eV G)) (C := mown y) (n := mnp y) (g := F0 m pc lsr ((As.map (eV G)).reverse ++ .ref (G.1 b) :: st.map (eV G))) ⟨C.1, C.2.1, C.2.2.1, C.2.2.2.1, C.2.2.2.2.1⟩ (k D G ro H.size) (R := R) (args := args)
    ⟨callB_of (mnp y) C.2.2.2.2.1 (good_mws hy) rfl rfl rfl (C.2.2.2.2.1 _ hy.2.1) (C.2.2.2.2.1 _ hw.1) hy.2.2.1 ⟨by have := hR.1; omega, by have := hR.2.1; omega⟩, C.2.2.2.2.1 _ hw.2.1, C.2.2.2.2.1 _ hw.2.2⟩
    ⟨PcR_blind _ _ _ _ _ _, by rw [← hkd.2]; exact va_recv hE.2.2.1 hE.1 (cl_at hkd.1) (by rw [vW_get G h hp, hb]), fun U hU hW => emb_callee hA hS hE hG hV hU hW⟩ rfl (by rw [List.length_map]; exact hn) hL.2.1 rfl (lv_room (by rw [cat_sum]; exact hst)) hd ⟨by have := hR.2.2.1; omega, by have := hR.2.2.2; omega⟩
  have e3 : (As.reverse ++ .ref b :: st).map (eV G) = (As.map (eV G)).reverse ++ .ref (G.1 b) :: st.map (eV G) := by simp [eV]
  rw [e3]
  exact call_go hrun C hA hR hS hret hE hG hV hL hc hs hmc hold
theorem sy_callS {idx y : Nat} {As : List Value} (hd : decode (mcc id) pc = .ok (.invokestatic idx, 3)) (hy : MOK y) (hw : Cond.methodLink (mown id) idx (mnm y) ∈ allW ∧ Cond.static (mnm y) ∈ allW) (hroom : (mrm y).frames + 1 ≤ (mrm id).frames ∧ 8 + (mmx y + 11) + (mrm y).locals ≤ (mrm id).locals) (hst : catS st ≤ 8) (hn : As.length = mnp y) (hlim : h.1.1 + (mrm y).cells ≤ lim.1 ∧ h.1.2.1 + (mrm y).slots ≤ lim.2) (hmc : (mrm id).cells = 0 → (mrm y).cells = 0) (hold : (mrm y).cells = 0 ∨ (∀ v, some v ∈ ls → vOld h.1.1 v) ∧ (∀ v, v ∈ st → vOld h.1.1 v))
    (k : Runs l y As h (fun v h' => Sy l id lim (pc + 3) ls (v.toList ++ st) h' P)) : Sy l id lim pc ls (As.reverse ++ st) h P := by
  intro pr e R s m args below meth c Qm A D ro G0 n0 sz0 C hA hR hS hret G H locs lsr cells slots hE hG hV hL hc hs
  have hrun := va_runS (cells := cells) (slots := slots) (locs := locs) (H := H) (s := s) (m := m) (below := below) (meth := meth) (e := e) (As := As.map (eV G)) (rest := st.map (eV G)) (n := mnp y) (g := F0 m pc lsr ((As.map (eV G)).reverse ++ st.map (eV G))) ⟨C.1, C.2.1, C.2.2.1, C.2.2.2.1, C.2.2.2.2.1⟩ (k D G ro H.size) (R := R) (args := args)
    ⟨callB_of (mnp y) C.2.2.2.2.1 (good_mws hy) rfl rfl rfl (C.2.2.2.2.1 _ hy.2.1) (C.2.2.2.2.1 _ hw.1) hy.2.2.1 ⟨by have := hR.1; omega, by have := hR.2.1; omega⟩, C.2.2.2.2.1 _ hw.2⟩
    ⟨PcR_blind _ _ _ _ _ _, fun U hU hW => emb_callee hA hS hE hG hV hU hW⟩ rfl (by rw [List.length_map]; exact hn) hL.2.1 rfl (lv_room (by rw [cat_sum]; exact hst)) hd ⟨by have := hR.2.2.1; omega, by have := hR.2.2.2; omega⟩
  have e3 : (As.reverse ++ st).map (eV G) = (As.map (eV G)).reverse ++ st.map (eV G) := by simp
  rw [e3]
  exact call_go hrun C hA hR hS hret hE hG hV hL hc hs hmc hold
theorem sy_callI {idx y b : Nat} {As : List Value} (hd : decode (mcc id) pc = .ok (.invokespecial idx, 3)) (hy : MOK y) (hnm : (mnm y).name = "<init>") (hr0 : mret y = none) (hw : Cond.methodLink (mown id) idx (mnm y) ∈ allW ∧ Cond.instanceMethod (mnm y) ∈ allW) (hroom : (mrm y).frames + 1 ≤ (mrm id).frames ∧ 8 + (mmx y + 11) + (mrm y).locals ≤ (mrm id).locals) (hst : catS st ≤ 8) (hn : As.length = mnp y) (hlim : h.1.1 + (mrm y).cells ≤ lim.1 ∧ h.1.2.1 + (mrm y).slots ≤ lim.2) (hmc : (mrm id).cells = 0 → (mrm y).cells = 0) (hold : (mrm y).cells = 0 ∨ (∀ v, some v ∈ ls → vOld h.1.1 v) ∧ (∀ v, v ∈ st → vOld h.1.1 v))
    (k : Runs l y (.ref b :: As) h (fun v h' => Sy l id lim (pc + 3) ls (v.toList ++ st) h' P)) : Sy l id lim pc ls (As.reverse ++ .ref b :: st) h P := by
  intro pr e R s m args below meth c Qm A D ro G0 n0 sz0 C hA hR hS hret G H locs lsr cells slots hE hG hV hL hc hs
  have hrun := va_runI (cells := cells) (slots := slots) (locs := locs) (H := H) (s := s) (m := m) (below := below) (meth := meth) (e := e) (As := As.map (eV G)) (b := G.1 b) (bytes := mcc y) (maxL := mmx y) (rest := st.map (eV G)) (n := mnp y) (g := F0 m pc lsr ((As.map (eV G)).reverse ++ .ref (G.1 b) :: st.map (eV G))) ⟨C.1, C.2.1, C.2.2.1, C.2.2.2.1, C.2.2.2.2.1⟩ (k D G ro H.size) (R := R) (args := args)
    ⟨by rw [← hr0]; exact callB_of (mnp y) C.2.2.2.2.1 (good_mws hy) rfl rfl rfl (C.2.2.2.2.1 _ hy.2.1) (C.2.2.2.2.1 _ hw.1) hy.2.2.1 ⟨by have := hR.1; omega, by have := hR.2.1; omega⟩, hnm, C.2.2.2.2.1 _ hw.2⟩
    ⟨PcR_blind _ _ _ _ _ _, fun U hU hW => emb_callee hA hS hE hG hV hU hW⟩ rfl (by rw [List.length_map]; exact hn) hL.2.1 rfl (lv_room (by rw [cat_sum]; exact hst)) hd ⟨by have := hR.2.2.1; omega, by have := hR.2.2.2; omega⟩
  have e3 : (As.reverse ++ .ref b :: st).map (eV G) = (As.map (eV G)).reverse ++ .ref (G.1 b) :: st.map (eV G) := by simp [eV]
  rw [e3]
  exact call_go hrun C hA hR hS hret hE hG hV hL hc hs hmc hold
theorem sy_callIN {b : Nat} (hid : mown id = RX4) (hd : decode (mcc id) pc = .ok (.invokespecial 17, 3)) {y : Nat} (hyn : mnm y = yX3_init) (hy : MOK y) (hr0 : mret y = none) (hw : Cond.instanceMethod (mnm y) ∈ allW) (hroom : (mrm y).frames + 1 ≤ (mrm id).frames ∧ 8 + (mmx y + 11) + (mrm y).locals ≤ (mrm id).locals) (hst : catS st ≤ 8) (hn : 0 = mnp y) (hlim : h.1.1 + (mrm y).cells ≤ lim.1 ∧ h.1.2.1 + (mrm y).slots ≤ lim.2) (hmc : (mrm id).cells = 0 → (mrm y).cells = 0) (hold : (mrm y).cells = 0 ∨ (∀ v, some v ∈ ls → vOld h.1.1 v) ∧ (∀ v, v ∈ st → vOld h.1.1 v))
    (k : Runs l y [.ref b] h (fun v h' => Sy l id lim (pc + 3) ls (v.toList ++ st) h' P)) : Sy l id lim pc ls (.ref b :: st) h P := by
  intro pr e R s m args below meth c Qm A D ro G0 n0 sz0 C hA hR hS hret G H locs lsr cells slots hE hG hV hL hc hs
  have hrun := va_runIN (cells := cells) (slots := slots) (locs := locs) (H := H) (s := s) (m := m) (below := below) (meth := meth) (e := e) (As := []) (b := G.1 b) (bytes := mcc y) (maxL := mmx y) (rest := st.map (eV G)) (n := mnp y) (host := "TaxiRank") (index := 17) (own := RX4) (g := F0 m pc lsr (.ref (G.1 b) :: st.map (eV G))) ⟨C.1, C.2.1, C.2.2.1, by rw [← hid]; exact C.2.2.2.1, C.2.2.2.2.1⟩ (k D G ro H.size) (R := R) (args := args)
    ⟨by rw [← hr0]; exact va_cnB (mnp y) C.2.2.2.2.1 (good_mws hy) rfl rfl rfl (by rw [hyn]; exact hE.2.2.2.2.2.1.2.2) (C.2.2.2.2.1 _ hy.2.1) hy.2.2.1 ⟨by have := hR.1; omega, by have := hR.2.1; omega⟩, by rw [hyn]; rfl, C.2.2.2.2.1 _ hw⟩
    ⟨PcR_blind _ _ _ _ _ _, fun U hU hW => emb_callee hA hS hE hG hV hU hW⟩ rfl hn hL.2.1 rfl (lv_room (by rw [cat_sum]; exact hst)) hd ⟨by have := hR.2.2.1; omega, by have := hR.2.2.2; omega⟩
  exact call_go hrun C hA hR hS hret hE hG hV hL hc hs hmc hold
theorem sy_objInit {idx b : Nat} (hd : decode (mcc id) pc = .ok (.invokespecial idx, 3)) (hw : Cond.methodLink (mown id) idx objectInit ∈ allW ∧ Cond.instanceMethod objectInit ∈ allW ∧ Cond.code objectInit ⟨#[0xb1]⟩ 1 none ∈ allW) (hroom : 1 ≤ (mrm id).frames ∧ 12 ≤ (mrm id).locals) (k : Sy l id lim (pc + 3) ls [] h P) : Sy l id lim pc ls [.ref b] h P := by
  intro pr e R s m args below meth c Qm A D ro G0 n0 sz0 C hA hR hS hret G H locs lsr cells slots hE hG hV hL hc hs
  have k' := k _ _ _ _ _ _ _ _ _ _ _ _ _ _ _ _ C hA hR hS hret _ _ _ _ _ _ hE hG hV hL hc hs
  exact W.objInit C.1 C.2.1 C.2.2.2.1 (C.2.2.2.2.1 _ hw.1) (C.2.2.2.2.1 _ hw.2.1) (C.2.2.2.2.1 _ hw.2.2) rfl (by rw [C.2.2.1]; exact hL.2.1) rfl hd (by have := hR.1; omega) (by have := hR.2.1; simp; omega) k'
end SYR
