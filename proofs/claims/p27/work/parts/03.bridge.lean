/-! THE BRIDGE: a small pure machine (cells by their place, values, lists of locals and of the stack), and what it says of the real one -/
abbrev PS : Type := Nat × Nat × (Nat → Nat) × (Nat → Nat)
/-- how many cells, how many slots, the kind of each, the length of each; the numbers in them; the references in them -/
abbrev PH : Type := PS × (Nat → Nat → Int32) × (Nat → Nat → Option Nat)
/-- where the cells are, the arrays' classes, what is known of these -/
abbrev GH : Type := (Nat → Nat) × (Nat → ClassId) × List (ClassId × FieldType)
/-- arrays that nobody writes (places from 1000 on): kinds, lengths, what they hold -/
abbrev ROA : Type := (Nat → Nat) × (Nat → Nat) × (Nat → Nat → Int32)
def isRf (ci j : Nat) : Bool := match cTy ci j with
  | .object _ => true
  | .array _ => true
  | _ => false
def eV (G : GH) : Value → Value := fun v => match v with
  | .int x => .int x
  | .ref p => .ref (G.1 p)
  | .long x => .long x
  | _ => .null
/-- how many slots -/
def vC : Value → Nat := fun v => match v with
  | .long _ => 2
  | _ => 1
/-- slots of a stack -/
def catS : List Value → Nat
  | [] => 0
  | v :: r => vC v + catS r
/-- no two-slot value among them -/
def noL : List Value → Bool
  | [] => true
  | .long _ :: _ => false
  | _ :: r => noL r
def rvl (r : Option Nat) : Value := match r with
  | none => .null
  | some p => .ref p
theorem eV_rvl (G : GH) (r : Option Nat) : eV G (rvl r) = va_rf (r.map G.1) := by cases r <;> rfl
def vF (G : GH) (h : PH) (p j : Nat) : Value := if isRf (h.1.2.2.1 p) j = true then va_rf ((h.2.2 p j).map G.1) else .int (h.2.1 p j)
def vE (G : GH) (h : PH) (p : Nat) : va_E :=
  if h.1.2.2.1 p < 6 then .inr (h.1.2.2.1 p, (List.range (nFl (h.1.2.2.1 p))).map (vF G h p))
  else if h.1.2.2.1 p < 9 then .inl (G.2.1 p, (h.1.2.2.2 p, .inl (h.2.1 p)))
  else .inl (G.2.1 p, (h.1.2.2.2 p, .inr (.inr (.inr (.inr (fun j => (h.2.2 p j).map G.1))))))
def vW (G : GH) (h : PH) : va_W := (List.range h.1.1).map (fun p => (G.1 p, vE G h p))
theorem vW_get (G : GH) (h : PH) {p : Nat} (hp : p < h.1.1) : (vW G h)[p]? = some (G.1 p, vE G h p) := by simp [vW, hp]
theorem vW_len (G : GH) (h : PH) : (vW G h).length = h.1.1 := by simp [vW]
theorem vW_set (G : GH) (h h' : PH) {p : Nat} (hp : p < h.1.1) (h1 : h'.1 = h.1) (ho : ∀ q, q ≠ p → vE G h' q = vE G h q) {E : va_E} (hE : E = vE G h' p) : (vW G h).set p (G.1 p, E) = vW G h' := by
  subst hE
  apply List.ext_getElem?
  intro k
  rw [List.getElem?_set]
  by_cases hk : p = k
  · subst hk
    rw [if_pos rfl, if_pos (by rw [vW_len]; exact hp), vW_get G h' (by rw [h1]; exact hp)]
  · rw [if_neg hk]
    by_cases hl : k < h.1.1
    · rw [vW_get G h hl, vW_get G h' (by rw [h1]; exact hl), ho k (fun z => hk z.symm)]
    · have e1 : (vW G h)[k]? = none := List.getElem?_eq_none (by rw [vW_len]; omega)
      have e2 : (vW G h')[k]? = none := List.getElem?_eq_none (by rw [vW_len, h1]; omega)
      rw [e1, e2]
theorem vW_push (G G' : GH) (h h' : PH) {a : Nat} {E : va_E} (hn : h'.1.1 = h.1.1 + 1) (ha : G'.1 h.1.1 = a) (hE : vE G' h' h.1.1 = E) (ho : ∀ q, q < h.1.1 → G'.1 q = G.1 q ∧ vE G' h' q = vE G h q) : vW G h ++ [(a, E)] = vW G' h' := by
  apply List.ext_getElem?
  intro k
  by_cases hl : k < h.1.1
  · rw [List.getElem?_append_left (by rw [vW_len]; exact hl), vW_get G h hl, vW_get G' h' (by omega), (ho k hl).1, (ho k hl).2]
  · by_cases he : k = h.1.1
    · subst he
      rw [List.getElem?_append_right (by rw [vW_len]; omega), vW_len, Nat.sub_self, vW_get G' h' (by omega), ha, hE]
      rfl
    · rw [List.getElem?_eq_none (by simp [vW_len]; omega), List.getElem?_eq_none (by rw [vW_len]; omega)]
def arT : Nat → Option FieldType := fun k => match k with
  | 7 => some .int
  | 8 => some .char
  | 9 => some (.object RX3)
  | 10 => some (.object RX4)
  | _ => none
def stN : Nat → String := fun k => match k with
  | 0 => "LOWEST"
  | 1 => "HIGHEST"
  | _ => "AT_FIRST"
abbrev nestW : Cond := .methodLinkNest RX4 17 yX3_init "TaxiRank"
def RoOK (ro : ROA) (h : PH) : Prop := ∀ p, 1000 ≤ p → h.1.2.2.1 p = ro.1 p ∧ h.1.2.2.2 p = ro.2.1 p ∧ h.2.1 p = ro.2.2 p
def EmbW (D : va_G) (G : GH) (ro : ROA) (A : Nat → Prop) (h : PH) (U : State) (H : Heap) : Prop :=
  va_P D vwCl (vW G h) H ∧ va_D A (vW G h) ∧ va_K D vwCl G.2.2 U ∧ (∀ p ty, p < h.1.1 → arT (h.1.2.2.1 p) = some ty → ∃ t0 : Nat, G.2.2[t0]? = some (G.2.1 p, ty)) ∧ h.1.1 ≤ 1000 ∧ (va_AO RX3 U ∧ va_AO RX4 U ∧ va_Nw nestW U) ∧ RoOK ro h
def EmbS (G : GH) (ro : ROA) (A : Nat → Prop) (U : State) (H : Heap) : Prop :=
  (∀ p, 1000 ≤ p → ro.1 p = 11 → va_T .int (G.1 p) (ro.2.1 p) (fun j => .int (ro.2.2 p j)) A U H) ∧ ∀ k, k < 3 → va_Z "TaxiRank$Town" (stN k) "[I" (.ref (G.1 (1000 + k))) A U H
def GX (G0 G : GH) (n0 mc : Nat) : Prop := (∀ p, p < n0 ∨ 1000 ≤ p → G.1 p = G0.1 p) ∧ (mc = 0 → G = G0)
/-- the second half of a two-slot value stands behind it: a mark -/
def mkL : Value := .double 0
/-- what is known of slot k -/
def isMk : Option (Option Value) → Bool := fun v => match v with
  | some (some (.double _)) => true
  | _ => false
def live (ls : List (Option Value)) (k : Nat) : Value → Bool := fun v => match v with
  | .long _ => isMk ls[k + 1]?
  | .int _ => true
  | .ref _ => true
  | .null => true
  | _ => false
def lvl (G : GH) (ls : List (Option Value)) : List (Nat × Value) := (List.range ls.length).filterMap (fun k => match ls[k]? with
  | some (some v) => if live ls k v = true then some (k, eV G v) else none
  | _ => none)
theorem lvl_mem (G : GH) (ls : List (Option Value)) (q : Nat × Value) : q ∈ lvl G ls ↔ ∃ k v, ls[k]? = some (some v) ∧ live ls k v = true ∧ q = (k, eV G v) := by
  simp only [lvl, List.mem_filterMap, List.mem_range]
  constructor
  · rintro ⟨k, hk, h⟩
    split at h
    · next v e =>
      split at h
      · next g => exact ⟨k, v, e, g, (Option.some.inj h).symm⟩
      · cases h
    · cases h
  · rintro ⟨k, v, e, g, rfl⟩
    exact ⟨k, (List.getElem?_eq_some_iff.mp e).1, by rw [e]; simp [g]⟩
def LvR (G : GH) (ls : List (Option Value)) (lsr : Array Slot) (nL : Nat) : Prop := ls.length = nL ∧ lv_has lsr nL (lvl G ls)
theorem LvR.get {G : GH} {ls : List (Option Value)} {lsr : Array Slot} {nL i : Nat} {v : Value} (h : LvR G ls lsr nL) (hi : ls[i]? = some (some v)) (hv : live ls i v = true) : lsr[i]? = some (.val (eV G v)) := by
  have := h.2.2.2 (i, eV G v) ((lvl_mem G ls _).mpr ⟨i, v, hi, hv, rfl⟩)
  exact this
theorem eV_cat (G : GH) (v : Value) : (eV G v).category = vC v := by cases v <;> rfl
/-- one slot, and neither long nor mark -/
def one : Value → Bool := fun v => match v with
  | .int _ => true
  | .ref _ => true
  | .null => true
  | _ => false
theorem LvR.set {G : GH} {ls : List (Option Value)} {lsr ls' : Array Slot} {nL i : Nat} {v : Value} (hv : one v = true) (h : LvR G ls lsr nL) (h' : lv_has ls' nL ((i, eV G v) :: (lvl G ls).filter (fun q => !(q.1 == i) && !(q.1 + 1 == i && q.2.category == 2)))) : LvR G (ls.set i (some v)) ls' nL := by
  refine ⟨by rw [List.length_set]; exact h.1, h'.1, h'.2.1, fun q hq => h'.2.2 q ?_⟩
  obtain ⟨k, w, h1, hl, rfl⟩ := (lvl_mem G _ _).mp hq
  rw [List.getElem?_set] at h1
  by_cases hk : i = k
  · subst hk
    rw [if_pos rfl] at h1
    split at h1
    · cases h1
      simp
    · cases h1
  · rw [if_neg hk] at h1
    have hmk : ∀ x, w = .long x → isMk ls[k + 1]? = true ∧ k + 1 ≠ i := by
      rintro x rfl
      simp only [live] at hl
      rw [List.getElem?_set] at hl
      by_cases hk1 : i = k + 1
      · rw [if_pos hk1] at hl
        split at hl
        · revert hv hl
          cases v <;> simp [one, isMk]
        · cases hl
      · rw [if_neg hk1] at hl
        exact ⟨hl, fun z => hk1 z.symm⟩
    have hlw : live ls k w = true := by
      cases w <;> first | exact hl | exact (hmk _ rfl).1
    have hcat : ¬ (k + 1 = i ∧ vC w = 2) := by
      rintro ⟨z1, z2⟩
      cases w <;> first | exact (hmk _ rfl).2 z1 | simp [vC] at z2
    refine List.mem_cons_of_mem _ (List.mem_filter.mpr ⟨(lvl_mem G ls _).mpr ⟨k, w, h1, hlw, rfl⟩, ?_⟩)
    have hk2 : ¬ k = i := fun z => hk z.symm
    simp only [eV_cat, beq_iff_eq, Bool.and_eq_true, Bool.not_eq_true', beq_eq_false_iff_ne, ne_eq, Bool.and_eq_false_iff, hk2, not_false_eq_true, true_and]
    by_cases z : k + 1 = i
    · exact Or.inr (fun z2 => hcat ⟨z, z2⟩)
    · exact Or.inl z
theorem LvR.setL {G : GH} {ls : List (Option Value)} {lsr ls' : Array Slot} {nL i : Nat} {x : Int64} (h : LvR G ls lsr nL) (h' : lv_has ls' nL ((i, .long x) :: (lvl G ls).filter (fun q => !(q.1 == i) && (!(q.1 == i + 1) && !(q.1 + 1 == i && q.2.category == 2))))) : LvR G ((ls.set i (some (.long x))).set (i + 1) (some (.double 0))) ls' nL := by
  refine ⟨by rw [List.length_set, List.length_set]; exact h.1, h'.1, h'.2.1, fun q hq => h'.2.2 q ?_⟩
  obtain ⟨k, w, h1, hl, rfl⟩ := (lvl_mem G _ _).mp hq
  rw [List.getElem?_set] at h1
  by_cases hk1 : i + 1 = k
  · rw [if_pos hk1] at h1
    split at h1
    · cases h1
      simp [live] at hl
    · cases h1
  · rw [if_neg hk1, List.getElem?_set] at h1
    by_cases hk : i = k
    · subst hk
      rw [if_pos rfl] at h1
      split at h1
      · cases h1
        simp [eV]
      · cases h1
    · rw [if_neg hk] at h1
      have hmk : ∀ x, w = .long x → isMk ls[k + 1]? = true ∧ k + 1 ≠ i := by
        rintro y rfl
        simp only [live] at hl
        rw [List.getElem?_set, if_neg (by omega), List.getElem?_set] at hl
        by_cases hk1 : i = k + 1
        · rw [if_pos hk1] at hl
          split at hl
          · simp [isMk] at hl
          · cases hl
        · rw [if_neg hk1] at hl
          exact ⟨hl, fun z => hk1 z.symm⟩
      have hlw : live ls k w = true := by
        cases w <;> first | exact hl | exact (hmk _ rfl).1
      have hcat : ¬ (k + 1 = i ∧ vC w = 2) := by
        rintro ⟨z1, z2⟩
        cases w <;> first | exact (hmk _ rfl).2 z1 | simp [vC] at z2
      refine List.mem_cons_of_mem _ (List.mem_filter.mpr ⟨(lvl_mem G ls _).mpr ⟨k, w, h1, hlw, rfl⟩, ?_⟩)
      have hk2 : ¬ k = i := fun z => hk z.symm
      have hk3 : ¬ k = i + 1 := fun z => hk1 z.symm
      simp only [eV_cat, beq_iff_eq, Bool.and_eq_true, Bool.not_eq_true', beq_eq_false_iff_ne, ne_eq, Bool.and_eq_false_iff, hk2, hk3, not_false_eq_true, true_and]
      by_cases z : k + 1 = i
      · exact Or.inr (fun z2 => hcat ⟨z, z2⟩)
      · exact Or.inl z
theorem LvR.lt {G : GH} {ls : List (Option Value)} {lsr : Array Slot} {nL i : Nat} {v : Option Value} (h : LvR G ls lsr nL) (hi : ls[i]? = some v) : i < nL := by
  have := (List.getElem?_eq_some_iff.mp hi).1
  rw [← h.1]; exact this
/-- a value whose place is old, or of an array that nobody writes -/
def vOld (n : Nat) : Value → Prop := fun v => match v with
  | .ref p => p < n ∨ 1000 ≤ p
  | _ => True
theorem eV_ext {G G' : GH} {n mc : Nat} (h : GX G G' n mc) {v : Value} (hv : vOld n v) : eV G' v = eV G v := by
  cases v with
  | ref p => exact congrArg Value.ref (h.1 p hv)
  | _ => rfl
theorem LvR.ext {G G' : GH} {n mc : Nat} {ls : List (Option Value)} {lsr : Array Slot} {nL : Nat} (h : LvR G ls lsr nL) (hG : GX G G' n mc) (ho : ∀ v, some v ∈ ls → vOld n v) : LvR G' ls lsr nL := by
  refine ⟨h.1, h.2.1, h.2.2.1, fun q hq => h.2.2.2 q ?_⟩
  obtain ⟨k, w, h1, hl, rfl⟩ := (lvl_mem G' _ _).mp hq
  rw [eV_ext hG (ho w (List.mem_of_getElem? h1))]
  exact (lvl_mem G ls _).mpr ⟨k, w, h1, hl, rfl⟩
theorem st_ext {G G' : GH} {n mc : Nat} {st : List Value} (hG : GX G G' n mc) (ho : ∀ v, v ∈ st → vOld n v) : st.map (eV G') = st.map (eV G) := List.map_congr_left (fun v hv => eV_ext hG (ho v hv))
/-- the machine's fixed part -/
def Cx (p : Program) (s : State) (m : MethodId) (args : Array Value) (meth : Method) (c : Code) (id : Nat) : Prop :=
  p.tables.exec = Jvm.exec ∧ c.code = mcc id ∧ c.maxLocals = mmx id ∧ s.vm.findClass (mown id) = some m.cls ∧ (∀ w ∈ allW, w.before args s = true) ∧ (mini id = true → meth.name = "<init>")
def isRet (id pc : Nat) (v : Option Value) : Prop :=
  (v = none ∧ mret id = none ∧ decode (mcc id) pc = .ok (.return_, 1)) ∨ (∃ x ty, v = some (.int x) ∧ mret id = some ty ∧ narrow ty (.int x) = .int x ∧ decode (mcc id) pc = .ok (.ireturn, 1)) ∨ (∃ n r, v = some (rvl r) ∧ mret id = some (.object n) ∧ decode (mcc id) pc = .ok (.areturn, 1)) ∨ (∃ x, v = some (.long x) ∧ mret id = some .long ∧ decode (mcc id) pc = .ok (.lreturn, 1))
def RetOK (p : Program) (l : Launch) (e : Env) (R : Room) (s : State) (m : MethodId) (args : Array Value) (below : List Frame) (meth : Method) (c : Code) (Qm : State → Prop) (A : Nat → Prop) (D : va_G) (ro : ROA) (G0 : GH) (n0 sz0 id : Nat) (lim : Nat × Nat) (P : Option Value → PH → Prop) : Prop :=
  ∀ (pc : Nat) (v : Option Value) (h' : PH) (G : GH) (H : Heap) (locs : List Loc) (lsr : Array Slot) (cells slots : Nat), isRet id pc v → P v h' → h'.1.1 = lim.1 → h'.1.2.1 = lim.2 → EmbW D G ro A h' s H → GX G0 G n0 (mrm id).cells → va_S A s.heap H locs → cells + n0 = h'.1.1 → slots + sz0 = h'.1.2.1 → W p l e R s m args below meth c H locs cells slots Qm (F0 m pc lsr ((v.map (eV G)).toList))
/-- FROM HERE the real machine comes to the method's end, with P -/
def Sy (l : Launch) (id : Nat) (lim : Nat × Nat) (pc : Nat) (ls : List (Option Value)) (st : List Value) (h : PH) (P : Option Value → PH → Prop) : Prop :=
  ∀ (p : Program) (e : Env) (R : Room) (s : State) (m : MethodId) (args : Array Value) (below : List Frame) (meth : Method) (c : Code) (Qm : State → Prop) (A : Nat → Prop) (D : va_G) (ro : ROA) (G0 : GH) (n0 sz0 : Nat),
    Cx p s m args meth c id → (∀ q, s.heap.size ≤ q → A q) → ((mrm id).frames ≤ R.frames ∧ (mrm id).locals ≤ R.locals ∧ lim.1 ≤ n0 + R.cells ∧ lim.2 ≤ sz0 + R.slots) → EmbS G0 ro A s s.heap → RetOK p l e R s m args below meth c Qm A D ro G0 n0 sz0 id lim P →
    ∀ (G : GH) (H : Heap) (locs : List Loc) (lsr : Array Slot) (cells slots : Nat), EmbW D G ro A h s H → GX G0 G n0 (mrm id).cells → va_S A s.heap H locs → LvR G ls lsr (mmx id) → cells + n0 = h.1.1 → slots + sz0 = h.1.2.1 →
      W p l e R s m args below meth c H locs cells slots Qm (F0 m pc lsr (st.map (eV G)))
section SYS
variable {l : Launch} {id : Nat} {lim : Nat × Nat} {pc : Nat} {ls : List (Option Value)} {st : List Value} {h : PH} {P : Option Value → PH → Prop}
theorem sy_load {a len : Nat} {i : Instr} {v : Value} (hd : decode (mcc id) pc = .ok (i, len)) (hl : ls[a]? = some (some v)) (hi : (i = .iload a ∧ len = 2 ∧ ∃ x, v = .int x) ∨ (∃ k : Fin 4, i = .iload_n k ∧ (k : Nat) = a ∧ len = 1 ∧ ∃ x, v = .int x) ∨ (i = .aload a ∧ len = 2 ∧ ∃ r, v = rvl r) ∨ (∃ k : Fin 4, i = .aload_n k ∧ (k : Nat) = a ∧ len = 1 ∧ ∃ r, v = rvl r)) (k : Sy l id lim (pc + len) ls (v :: st) h P) : Sy l id lim pc ls st h P := by
  intro p e R s m args below meth c Qm A D ro G0 n0 sz0 C hA hR hS hret G H locs lsr cells slots hE hG hV hL hc hs
  have k' := k _ _ _ _ _ _ _ _ _ _ _ _ _ _ _ _ C hA hR hS hret _ _ _ _ _ _ hE hG hV hL hc hs
  rcases hi with ⟨rfl, rfl, x, rfl⟩ | ⟨q, rfl, rfl, rfl, x, rfl⟩ | ⟨rfl, rfl, r, rfl⟩ | ⟨q, rfl, rfl, rfl, r, rfl⟩
  · exact lv_iload C.1 C.2.1 hd (hL.get hl rfl) k'
  · exact lv_iload_n C.1 C.2.1 hd rfl (hL.get hl rfl) k'
  · cases r with
    | none => exact lv_aloadN C.1 C.2.1 hd (hL.get (v := .null) hl rfl) k'
    | some r => exact lv_aload C.1 C.2.1 hd (hL.get (v := .ref r) hl rfl) k'
  · cases r with
    | none => exact lv_aload_nN C.1 C.2.1 hd rfl (hL.get (v := .null) hl rfl) k'
    | some r => exact lv_aload_n C.1 C.2.1 hd rfl (hL.get (v := .ref r) hl rfl) k'
theorem sy_lload {a len : Nat} {i : Instr} {x : Int64} (hd : decode (mcc id) pc = .ok (i, len)) (hl : ls[a]? = some (some (.long x))) (hm : isMk ls[a + 1]? = true) (hi : (i = .lload a ∧ len = 2) ∨ (∃ k : Fin 4, i = .lload_n k ∧ (k : Nat) = a ∧ len = 1)) (k : Sy l id lim (pc + len) ls (.long x :: st) h P) : Sy l id lim pc ls st h P := by
  intro p e R s m args below meth c Qm A D ro G0 n0 sz0 C hA hR hS hret G H locs lsr cells slots hE hG hV hL hc hs
  have k' := k _ _ _ _ _ _ _ _ _ _ _ _ _ _ _ _ C hA hR hS hret _ _ _ _ _ _ hE hG hV hL hc hs
  rcases hi with ⟨rfl, rfl⟩ | ⟨q, rfl, rfl, rfl⟩
  · exact lv_lload C.1 C.2.1 hd (hL.get hl hm) k'
  · exact lv_lload_n C.1 C.2.1 hd rfl (hL.get hl hm) k'
theorem sy_lstore {a len : Nat} {i : Instr} {x : Int64} (hd : decode (mcc id) pc = .ok (i, len)) (hl : a + 1 < ls.length) (hi : (i = .lstore a ∧ len = 2) ∨ (∃ k : Fin 4, i = .lstore_n k ∧ (k : Nat) = a ∧ len = 1)) (k : Sy l id lim (pc + len) ((ls.set a (some (.long x))).set (a + 1) (some (.double 0))) st h P) : Sy l id lim pc ls (.long x :: st) h P := by
  intro p e R s m args below meth c Qm A D ro G0 n0 sz0 C hA hR hS hret G H locs lsr cells slots hE hG hV hL hc hs
  have k' := fun (ls' : Array Slot) (h' : lv_has ls' (mmx id) ((a, .long x) :: (lvl G ls).filter (fun q => !(q.1 == a) && (!(q.1 == a + 1) && !(q.1 + 1 == a && q.2.category == 2))))) => k _ _ _ _ _ _ _ _ _ _ _ _ _ _ _ _ C hA hR hS hret _ _ _ _ _ _ hE hG hV (hL.setL h') hc hs
  have hn : a + 1 < mmx id := by rw [← hL.1]; exact hl
  rcases hi with ⟨rfl, rfl⟩ | ⟨q, rfl, rfl, rfl⟩
  · exact lv_lstore C.1 C.2.1 hd hL.2 hn rfl k'
  · exact lv_lstore_n C.1 C.2.1 hd rfl hL.2 hn rfl k'
theorem sy_ldc2 {n : Nat} {x : Int64} (hd : decode (mcc id) pc = .ok (.ldc2_w n, 3)) (hw : Cond.constantLong (mown id) n x ∈ allW) (k : Sy l id lim (pc + 3) ls (.long x :: st) h P) : Sy l id lim pc ls st h P := by
  intro p e R s m args below meth c Qm A D ro G0 n0 sz0 C hA hR hS hret G H locs lsr cells slots hE hG hV hL hc hs
  exact lv_ldc2 C.1 C.2.1 C.2.2.2.1 (C.2.2.2.2.1 _ hw) hd (k _ _ _ _ _ _ _ _ _ _ _ _ _ _ _ _ C hA hR hS hret _ _ _ _ _ _ hE hG hV hL hc hs)
theorem sy_ladd {x y : Int64} (hd : decode (mcc id) pc = .ok (.ladd, 1)) (k : Sy l id lim (pc + 1) ls (.long (x + y) :: st) h P) : Sy l id lim pc ls (.long y :: .long x :: st) h P := by
  intro p e R s m args below meth c Qm A D ro G0 n0 sz0 C hA hR hS hret G H locs lsr cells slots hE hG hV hL hc hs
  exact lv_ladd C.1 C.2.1 hd (k _ _ _ _ _ _ _ _ _ _ _ _ _ _ _ _ C hA hR hS hret _ _ _ _ _ _ hE hG hV hL hc hs)
theorem sy_lmul {x y : Int64} (hd : decode (mcc id) pc = .ok (.lmul, 1)) (k : Sy l id lim (pc + 1) ls (.long (x * y) :: st) h P) : Sy l id lim pc ls (.long y :: .long x :: st) h P := by
  intro p e R s m args below meth c Qm A D ro G0 n0 sz0 C hA hR hS hret G H locs lsr cells slots hE hG hV hL hc hs
  exact lv_lmul C.1 C.2.1 hd (k _ _ _ _ _ _ _ _ _ _ _ _ _ _ _ _ C hA hR hS hret _ _ _ _ _ _ hE hG hV hL hc hs)
theorem sy_i2l {x : Int32} (hd : decode (mcc id) pc = .ok (.i2l, 1)) (k : Sy l id lim (pc + 1) ls (.long x.toInt64 :: st) h P) : Sy l id lim pc ls (.int x :: st) h P := by
  intro p e R s m args below meth c Qm A D ro G0 n0 sz0 C hA hR hS hret G H locs lsr cells slots hE hG hV hL hc hs
  exact lv_i2l C.1 C.2.1 hd rfl (k _ _ _ _ _ _ _ _ _ _ _ _ _ _ _ _ C hA hR hS hret _ _ _ _ _ _ hE hG hV hL hc hs)
theorem sy_lcmp {x y : Int64} (hd : decode (mcc id) pc = .ok (.lcmp, 1)) (k : Sy l id lim (pc + 1) ls (.int (lg_cmp x y) :: st) h P) : Sy l id lim pc ls (.long y :: .long x :: st) h P := by
  intro p e R s m args below meth c Qm A D ro G0 n0 sz0 C hA hR hS hret G H locs lsr cells slots hE hG hV hL hc hs
  exact W.lcmp C.1 C.2.1 hd (k _ _ _ _ _ _ _ _ _ _ _ _ _ _ _ _ C hA hR hS hret _ _ _ _ _ _ hE hG hV hL hc hs)
theorem sy_store {a len : Nat} {i : Instr} {v : Value} {w : Option Value} (hd : decode (mcc id) pc = .ok (i, len)) (hl : ls[a]? = some w) (hi : (i = .istore a ∧ len = 2 ∧ ∃ x, v = .int x) ∨ (∃ k : Fin 4, i = .istore_n k ∧ (k : Nat) = a ∧ len = 1 ∧ ∃ x, v = .int x) ∨ (i = .astore a ∧ len = 2 ∧ ∃ r, v = rvl r) ∨ (∃ k : Fin 4, i = .astore_n k ∧ (k : Nat) = a ∧ len = 1 ∧ ∃ r, v = rvl r)) (k : Sy l id lim (pc + len) (ls.set a (some v)) st h P) : Sy l id lim pc ls (v :: st) h P := by
  intro p e R s m args below meth c Qm A D ro G0 n0 sz0 C hA hR hS hret G H locs lsr cells slots hE hG hV hL hc hs
  have k' := fun (ls' : Array Slot) (h' : lv_has ls' (mmx id) ((a, eV G v) :: (lvl G ls).filter (fun q => !(q.1 == a) && !(q.1 + 1 == a && q.2.category == 2)))) (hone : one v = true) => k _ _ _ _ _ _ _ _ _ _ _ _ _ _ _ _ C hA hR hS hret _ _ _ _ _ _ hE hG hV (hL.set hone h') hc hs
  have hn := hL.lt hl
  rcases hi with ⟨rfl, rfl, x, rfl⟩ | ⟨q, rfl, rfl, rfl, x, rfl⟩ | ⟨rfl, rfl, r, rfl⟩ | ⟨q, rfl, rfl, rfl, r, rfl⟩
  · exact lv_istore C.1 C.2.1 hd hL.2 hn rfl (fun ls' h' => k' ls' h' rfl)
  · exact lv_istore_n C.1 C.2.1 hd rfl hL.2 hn rfl (fun ls' h' => k' ls' h' rfl)
  · cases r with
    | none => exact lv_astoreN C.1 C.2.1 hd hL.2 hn rfl (fun ls' h' => k' ls' h' rfl)
    | some r => exact lv_astore C.1 C.2.1 hd hL.2 hn rfl (fun ls' h' => k' ls' h' rfl)
  · cases r with
    | none => exact lv_astore_nN C.1 C.2.1 hd rfl hL.2 hn rfl (fun ls' h' => k' ls' h' rfl)
    | some r => exact lv_astore_n C.1 C.2.1 hd rfl hL.2 hn rfl (fun ls' h' => k' ls' h' rfl)
theorem sy_iinc {a : Nat} {n : Int} {x v : Int32} (hd : decode (mcc id) pc = .ok (.iinc a n, 3)) (hv : Int32.ofInt n = v) (hl : ls[a]? = some (some (.int x))) (k : Sy l id lim (pc + 3) (ls.set a (some (.int (x + v)))) st h P) : Sy l id lim pc ls st h P := by
  intro p e R s m args below meth c Qm A D ro G0 n0 sz0 C hA hR hS hret G H locs lsr cells slots hE hG hV hL hc hs
  subst hv
  obtain ⟨k0, hk0⟩ := List.getElem?_of_mem ((lvl_mem G ls (a, .int x)).mpr ⟨a, .int x, hl, rfl, rfl⟩)
  exact lv_iinc C.1 C.2.1 hd hL.2 hk0 rfl (hL.lt hl) rfl fun ls' h' => k _ _ _ _ _ _ _ _ _ _ _ _ _ _ _ _ C hA hR hS hret _ _ _ _ _ _ hE hG hV (hL.set (v := .int (x + Int32.ofInt n)) rfl h') hc hs
theorem sy_const {i : Instr} {len : Nat} {v : Int32} (hd : decode (mcc id) pc = .ok (i, len)) (hi : (∃ n, i = .iconst n ∧ len = 1 ∧ Int32.ofInt n = v) ∨ (∃ n, i = .bipush n ∧ len = 2 ∧ (Int8.ofInt n).toInt32 = v) ∨ (∃ n, i = .sipush n ∧ len = 3 ∧ (Int16.ofInt n).toInt32 = v) ∨ (∃ n, i = .ldc n ∧ len = 2 ∧ Cond.constant (mown id) n v ∈ allW)) (k : Sy l id lim (pc + len) ls (.int v :: st) h P) : Sy l id lim pc ls st h P := by
  intro p e R s m args below meth c Qm A D ro G0 n0 sz0 C hA hR hS hret G H locs lsr cells slots hE hG hV hL hc hs
  have k' := k _ _ _ _ _ _ _ _ _ _ _ _ _ _ _ _ C hA hR hS hret _ _ _ _ _ _ hE hG hV hL hc hs
  rcases hi with ⟨n, rfl, rfl, hv⟩ | ⟨n, rfl, rfl, hv⟩ | ⟨n, rfl, rfl, hv⟩ | ⟨n, rfl, rfl, hv⟩
  · exact lv_iconst C.1 C.2.1 hd hv k'
  · exact lv_bipush C.1 C.2.1 hd hv k'
  · exact lv_sipush C.1 C.2.1 hd hv k'
  · exact lv_ldc C.1 C.2.1 C.2.2.2.1 (C.2.2.2.2.1 _ hv) hd k'
theorem sy_null (hd : decode (mcc id) pc = .ok (.aconst_null, 1)) (k : Sy l id lim (pc + 1) ls (.null :: st) h P) : Sy l id lim pc ls st h P := by
  intro p e R s m args below meth c Qm A D ro G0 n0 sz0 C hA hR hS hret G H locs lsr cells slots hE hG hV hL hc hs
  exact lv_null C.1 C.2.1 hd (k _ _ _ _ _ _ _ _ _ _ _ _ _ _ _ _ C hA hR hS hret _ _ _ _ _ _ hE hG hV hL hc hs)
theorem sy_bin {i : Instr} {x y v : Int32} (hd : decode (mcc id) pc = .ok (i, 1)) (hi : (i = .iadd ∧ v = x + y) ∨ (i = .isub ∧ v = x - y) ∨ (i = .imul ∧ v = x * y) ∨ (i = .iand ∧ v = x &&& y) ∨ (i = .idiv ∧ ¬ y = 0 ∧ v = x / y) ∨ (i = .irem ∧ ¬ y = 0 ∧ v = x - x / y * y)) (k : Sy l id lim (pc + 1) ls (.int v :: st) h P) : Sy l id lim pc ls (.int y :: .int x :: st) h P := by
  intro p e R s m args below meth c Qm A D ro G0 n0 sz0 C hA hR hS hret G H locs lsr cells slots hE hG hV hL hc hs
  have k' := k _ _ _ _ _ _ _ _ _ _ _ _ _ _ _ _ C hA hR hS hret _ _ _ _ _ _ hE hG hV hL hc hs
  rcases hi with ⟨rfl, rfl⟩ | ⟨rfl, rfl⟩ | ⟨rfl, rfl⟩ | ⟨rfl, rfl⟩ | ⟨rfl, hn, rfl⟩ | ⟨rfl, hn, rfl⟩
  · exact lv_iadd C.1 C.2.1 hd k'
  · exact lv_isub C.1 C.2.1 hd k'
  · exact lv_imul C.1 C.2.1 hd k'
  · exact lv_iand C.1 C.2.1 hd k'
  · exact lv_idiv C.1 C.2.1 hd hn k'
  · exact lv_irem C.1 C.2.1 hd hn k'
theorem sy_un {i : Instr} {x v : Int32} (hd : decode (mcc id) pc = .ok (i, 1)) (hi : (i = .ineg ∧ v = -x) ∨ (i = .i2c ∧ v = (x.toUInt32 % 65536).toInt32)) (k : Sy l id lim (pc + 1) ls (.int v :: st) h P) : Sy l id lim pc ls (.int x :: st) h P := by
  intro p e R s m args below meth c Qm A D ro G0 n0 sz0 C hA hR hS hret G H locs lsr cells slots hE hG hV hL hc hs
  have k' := k _ _ _ _ _ _ _ _ _ _ _ _ _ _ _ _ C hA hR hS hret _ _ _ _ _ _ hE hG hV hL hc hs
  rcases hi with ⟨rfl, rfl⟩ | ⟨rfl, rfl⟩
  · exact lv_ineg C.1 C.2.1 hd k'
  · exact lv_i2c C.1 C.2.1 hd rfl k'
theorem sy_dup {v : Value} (h1 : vC v = 1) (hd : decode (mcc id) pc = .ok (.dup, 1)) (k : Sy l id lim (pc + 1) ls (v :: v :: st) h P) : Sy l id lim pc ls (v :: st) h P := by
  intro p e R s m args below meth c Qm A D ro G0 n0 sz0 C hA hR hS hret G H locs lsr cells slots hE hG hV hL hc hs
  exact lv_dup C.1 C.2.1 hd ((eV_cat G v).trans h1) (k _ _ _ _ _ _ _ _ _ _ _ _ _ _ _ _ C hA hR hS hret _ _ _ _ _ _ hE hG hV hL hc hs)
theorem sy_dup2 {v w : Value} (h1 : vC v = 1) (h2 : vC w = 1) (hd : decode (mcc id) pc = .ok (.dup2, 1)) (k : Sy l id lim (pc + 1) ls (v :: w :: v :: w :: st) h P) : Sy l id lim pc ls (v :: w :: st) h P := by
  intro p e R s m args below meth c Qm A D ro G0 n0 sz0 C hA hR hS hret G H locs lsr cells slots hE hG hV hL hc hs
  exact lv_dup2_11 C.1 C.2.1 hd ((eV_cat G v).trans h1) ((eV_cat G w).trans h2) (k _ _ _ _ _ _ _ _ _ _ _ _ _ _ _ _ C hA hR hS hret _ _ _ _ _ _ hE hG hV hL hc hs)
theorem sy_pop {v : Value} (h1 : vC v = 1) (hd : decode (mcc id) pc = .ok (.pop, 1)) (k : Sy l id lim (pc + 1) ls st h P) : Sy l id lim pc ls (v :: st) h P := by
  intro p e R s m args below meth c Qm A D ro G0 n0 sz0 C hA hR hS hret G H locs lsr cells slots hE hG hV hL hc hs
  exact lv_pop C.1 C.2.1 hd ((eV_cat G v).trans h1) (k _ _ _ _ _ _ _ _ _ _ _ _ _ _ _ _ C hA hR hS hret _ _ _ _ _ _ hE hG hV hL hc hs)
theorem sy_goto {off : Int} {tgt : Nat} (hd : decode (mcc id) pc = .ok (.goto off, 3)) (ht : (pc : Int) + off = (tgt : Int)) (k : Sy l id lim tgt ls st h P) : Sy l id lim pc ls st h P := by
  intro p e R s m args below meth c Qm A D ro G0 n0 sz0 C hA hR hS hret G H locs lsr cells slots hE hG hV hL hc hs
  exact lv_goto C.1 C.2.1 hd ht (k _ _ _ _ _ _ _ _ _ _ _ _ _ _ _ _ C hA hR hS hret _ _ _ _ _ _ hE hG hV hL hc hs)
theorem sy_if_eq {off : Int} {tgt : Nat} {x : Int32} (hd : decode (mcc id) pc = .ok (.ifCond .eq off, 3)) (ht : (pc : Int) + off = (tgt : Int)) (k : (x = 0 → Sy l id lim tgt ls st h P) ∧ (¬ x = 0 → Sy l id lim (pc + 3) ls st h P)) : Sy l id lim pc ls (.int x :: st) h P := by
  intro p e R s m args below meth c Qm A D ro G0 n0 sz0 C hA hR hS hret G H locs lsr cells slots hE hG hV hL hc hs
  exact lv_if_eq C.1 C.2.1 hd ht (fun z => k.1 z _ _ _ _ _ _ _ _ _ _ _ _ _ _ _ _ C hA hR hS hret _ _ _ _ _ _ hE hG hV hL hc hs) (fun z => k.2 z _ _ _ _ _ _ _ _ _ _ _ _ _ _ _ _ C hA hR hS hret _ _ _ _ _ _ hE hG hV hL hc hs)
theorem sy_icmp_eq {off : Int} {tgt : Nat} {x y : Int32} (hd : decode (mcc id) pc = .ok (.if_icmp .eq off, 3)) (ht : (pc : Int) + off = (tgt : Int)) (k : (x = y → Sy l id lim tgt ls st h P) ∧ (¬ x = y → Sy l id lim (pc + 3) ls st h P)) : Sy l id lim pc ls (.int y :: .int x :: st) h P := by
  intro p e R s m args below meth c Qm A D ro G0 n0 sz0 C hA hR hS hret G H locs lsr cells slots hE hG hV hL hc hs
  exact lv_icmp_eq C.1 C.2.1 hd ht (fun z => k.1 z _ _ _ _ _ _ _ _ _ _ _ _ _ _ _ _ C hA hR hS hret _ _ _ _ _ _ hE hG hV hL hc hs) (fun z => k.2 z _ _ _ _ _ _ _ _ _ _ _ _ _ _ _ _ C hA hR hS hret _ _ _ _ _ _ hE hG hV hL hc hs)
theorem sy_if_ne {off : Int} {tgt : Nat} {x : Int32} (hd : decode (mcc id) pc = .ok (.ifCond .ne off, 3)) (ht : (pc : Int) + off = (tgt : Int)) (k : (¬ x = 0 → Sy l id lim tgt ls st h P) ∧ (x = 0 → Sy l id lim (pc + 3) ls st h P)) : Sy l id lim pc ls (.int x :: st) h P := by
  intro p e R s m args below meth c Qm A D ro G0 n0 sz0 C hA hR hS hret G H locs lsr cells slots hE hG hV hL hc hs
  exact lv_if_ne C.1 C.2.1 hd ht (fun z => k.1 z _ _ _ _ _ _ _ _ _ _ _ _ _ _ _ _ C hA hR hS hret _ _ _ _ _ _ hE hG hV hL hc hs) (fun z => k.2 z _ _ _ _ _ _ _ _ _ _ _ _ _ _ _ _ C hA hR hS hret _ _ _ _ _ _ hE hG hV hL hc hs)
theorem sy_icmp_ne {off : Int} {tgt : Nat} {x y : Int32} (hd : decode (mcc id) pc = .ok (.if_icmp .ne off, 3)) (ht : (pc : Int) + off = (tgt : Int)) (k : (¬ x = y → Sy l id lim tgt ls st h P) ∧ (x = y → Sy l id lim (pc + 3) ls st h P)) : Sy l id lim pc ls (.int y :: .int x :: st) h P := by
  intro p e R s m args below meth c Qm A D ro G0 n0 sz0 C hA hR hS hret G H locs lsr cells slots hE hG hV hL hc hs
  exact lv_icmp_ne C.1 C.2.1 hd ht (fun z => k.1 z _ _ _ _ _ _ _ _ _ _ _ _ _ _ _ _ C hA hR hS hret _ _ _ _ _ _ hE hG hV hL hc hs) (fun z => k.2 z _ _ _ _ _ _ _ _ _ _ _ _ _ _ _ _ C hA hR hS hret _ _ _ _ _ _ hE hG hV hL hc hs)
theorem sy_if_lt {off : Int} {tgt : Nat} {x : Int32} (hd : decode (mcc id) pc = .ok (.ifCond .lt off, 3)) (ht : (pc : Int) + off = (tgt : Int)) (k : (x < 0 → Sy l id lim tgt ls st h P) ∧ (¬ x < 0 → Sy l id lim (pc + 3) ls st h P)) : Sy l id lim pc ls (.int x :: st) h P := by
  intro p e R s m args below meth c Qm A D ro G0 n0 sz0 C hA hR hS hret G H locs lsr cells slots hE hG hV hL hc hs
  exact lv_if_lt C.1 C.2.1 hd ht (fun z => k.1 z _ _ _ _ _ _ _ _ _ _ _ _ _ _ _ _ C hA hR hS hret _ _ _ _ _ _ hE hG hV hL hc hs) (fun z => k.2 z _ _ _ _ _ _ _ _ _ _ _ _ _ _ _ _ C hA hR hS hret _ _ _ _ _ _ hE hG hV hL hc hs)
theorem sy_icmp_lt {off : Int} {tgt : Nat} {x y : Int32} (hd : decode (mcc id) pc = .ok (.if_icmp .lt off, 3)) (ht : (pc : Int) + off = (tgt : Int)) (k : (x < y → Sy l id lim tgt ls st h P) ∧ (¬ x < y → Sy l id lim (pc + 3) ls st h P)) : Sy l id lim pc ls (.int y :: .int x :: st) h P := by
  intro p e R s m args below meth c Qm A D ro G0 n0 sz0 C hA hR hS hret G H locs lsr cells slots hE hG hV hL hc hs
  exact lv_icmp_lt C.1 C.2.1 hd ht (fun z => k.1 z _ _ _ _ _ _ _ _ _ _ _ _ _ _ _ _ C hA hR hS hret _ _ _ _ _ _ hE hG hV hL hc hs) (fun z => k.2 z _ _ _ _ _ _ _ _ _ _ _ _ _ _ _ _ C hA hR hS hret _ _ _ _ _ _ hE hG hV hL hc hs)
theorem sy_if_ge {off : Int} {tgt : Nat} {x : Int32} (hd : decode (mcc id) pc = .ok (.ifCond .ge off, 3)) (ht : (pc : Int) + off = (tgt : Int)) (k : (0 ≤ x → Sy l id lim tgt ls st h P) ∧ (¬ 0 ≤ x → Sy l id lim (pc + 3) ls st h P)) : Sy l id lim pc ls (.int x :: st) h P := by
  intro p e R s m args below meth c Qm A D ro G0 n0 sz0 C hA hR hS hret G H locs lsr cells slots hE hG hV hL hc hs
  exact lv_if_ge C.1 C.2.1 hd ht (fun z => k.1 z _ _ _ _ _ _ _ _ _ _ _ _ _ _ _ _ C hA hR hS hret _ _ _ _ _ _ hE hG hV hL hc hs) (fun z => k.2 z _ _ _ _ _ _ _ _ _ _ _ _ _ _ _ _ C hA hR hS hret _ _ _ _ _ _ hE hG hV hL hc hs)
theorem sy_icmp_ge {off : Int} {tgt : Nat} {x y : Int32} (hd : decode (mcc id) pc = .ok (.if_icmp .ge off, 3)) (ht : (pc : Int) + off = (tgt : Int)) (k : (y ≤ x → Sy l id lim tgt ls st h P) ∧ (¬ y ≤ x → Sy l id lim (pc + 3) ls st h P)) : Sy l id lim pc ls (.int y :: .int x :: st) h P := by
  intro p e R s m args below meth c Qm A D ro G0 n0 sz0 C hA hR hS hret G H locs lsr cells slots hE hG hV hL hc hs
  exact lv_icmp_ge C.1 C.2.1 hd ht (fun z => k.1 z _ _ _ _ _ _ _ _ _ _ _ _ _ _ _ _ C hA hR hS hret _ _ _ _ _ _ hE hG hV hL hc hs) (fun z => k.2 z _ _ _ _ _ _ _ _ _ _ _ _ _ _ _ _ C hA hR hS hret _ _ _ _ _ _ hE hG hV hL hc hs)
theorem sy_if_gt {off : Int} {tgt : Nat} {x : Int32} (hd : decode (mcc id) pc = .ok (.ifCond .gt off, 3)) (ht : (pc : Int) + off = (tgt : Int)) (k : (0 < x → Sy l id lim tgt ls st h P) ∧ (¬ 0 < x → Sy l id lim (pc + 3) ls st h P)) : Sy l id lim pc ls (.int x :: st) h P := by
  intro p e R s m args below meth c Qm A D ro G0 n0 sz0 C hA hR hS hret G H locs lsr cells slots hE hG hV hL hc hs
  exact lv_if_gt C.1 C.2.1 hd ht (fun z => k.1 z _ _ _ _ _ _ _ _ _ _ _ _ _ _ _ _ C hA hR hS hret _ _ _ _ _ _ hE hG hV hL hc hs) (fun z => k.2 z _ _ _ _ _ _ _ _ _ _ _ _ _ _ _ _ C hA hR hS hret _ _ _ _ _ _ hE hG hV hL hc hs)
theorem sy_icmp_gt {off : Int} {tgt : Nat} {x y : Int32} (hd : decode (mcc id) pc = .ok (.if_icmp .gt off, 3)) (ht : (pc : Int) + off = (tgt : Int)) (k : (y < x → Sy l id lim tgt ls st h P) ∧ (¬ y < x → Sy l id lim (pc + 3) ls st h P)) : Sy l id lim pc ls (.int y :: .int x :: st) h P := by
  intro p e R s m args below meth c Qm A D ro G0 n0 sz0 C hA hR hS hret G H locs lsr cells slots hE hG hV hL hc hs
  exact lv_icmp_gt C.1 C.2.1 hd ht (fun z => k.1 z _ _ _ _ _ _ _ _ _ _ _ _ _ _ _ _ C hA hR hS hret _ _ _ _ _ _ hE hG hV hL hc hs) (fun z => k.2 z _ _ _ _ _ _ _ _ _ _ _ _ _ _ _ _ C hA hR hS hret _ _ _ _ _ _ hE hG hV hL hc hs)
theorem sy_if_le {off : Int} {tgt : Nat} {x : Int32} (hd : decode (mcc id) pc = .ok (.ifCond .le off, 3)) (ht : (pc : Int) + off = (tgt : Int)) (k : (x ≤ 0 → Sy l id lim tgt ls st h P) ∧ (¬ x ≤ 0 → Sy l id lim (pc + 3) ls st h P)) : Sy l id lim pc ls (.int x :: st) h P := by
  intro p e R s m args below meth c Qm A D ro G0 n0 sz0 C hA hR hS hret G H locs lsr cells slots hE hG hV hL hc hs
  exact lv_if_le C.1 C.2.1 hd ht (fun z => k.1 z _ _ _ _ _ _ _ _ _ _ _ _ _ _ _ _ C hA hR hS hret _ _ _ _ _ _ hE hG hV hL hc hs) (fun z => k.2 z _ _ _ _ _ _ _ _ _ _ _ _ _ _ _ _ C hA hR hS hret _ _ _ _ _ _ hE hG hV hL hc hs)
theorem sy_icmp_le {off : Int} {tgt : Nat} {x y : Int32} (hd : decode (mcc id) pc = .ok (.if_icmp .le off, 3)) (ht : (pc : Int) + off = (tgt : Int)) (k : (x ≤ y → Sy l id lim tgt ls st h P) ∧ (¬ x ≤ y → Sy l id lim (pc + 3) ls st h P)) : Sy l id lim pc ls (.int y :: .int x :: st) h P := by
  intro p e R s m args below meth c Qm A D ro G0 n0 sz0 C hA hR hS hret G H locs lsr cells slots hE hG hV hL hc hs
  exact lv_icmp_le C.1 C.2.1 hd ht (fun z => k.1 z _ _ _ _ _ _ _ _ _ _ _ _ _ _ _ _ C hA hR hS hret _ _ _ _ _ _ hE hG hV hL hc hs) (fun z => k.2 z _ _ _ _ _ _ _ _ _ _ _ _ _ _ _ _ C hA hR hS hret _ _ _ _ _ _ hE hG hV hL hc hs)
theorem sy_ifnull {off : Int} {tgt : Nat} {r : Option Nat} (hd : decode (mcc id) pc = .ok (.ifnull off, 3)) (ht : (pc : Int) + off = (tgt : Int)) (k : (r = none → Sy l id lim tgt ls st h P) ∧ (¬ r = none → Sy l id lim (pc + 3) ls st h P)) : Sy l id lim pc ls (rvl r :: st) h P := by
  intro p e R s m args below meth c Qm A D ro G0 n0 sz0 C hA hR hS hret G H locs lsr cells slots hE hG hV hL hc hs
  cases r with
  | none => exact lv_ifnullN C.1 C.2.1 hd ht (k.1 rfl _ _ _ _ _ _ _ _ _ _ _ _ _ _ _ _ C hA hR hS hret _ _ _ _ _ _ hE hG hV hL hc hs)
  | some r => exact lv_ifnull C.1 C.2.1 hd (k.2 (by simp) _ _ _ _ _ _ _ _ _ _ _ _ _ _ _ _ C hA hR hS hret _ _ _ _ _ _ hE hG hV hL hc hs)
theorem sy_ifnonnull {off : Int} {tgt : Nat} {r : Option Nat} (hd : decode (mcc id) pc = .ok (.ifnonnull off, 3)) (ht : (pc : Int) + off = (tgt : Int)) (k : (¬ r = none → Sy l id lim tgt ls st h P) ∧ (r = none → Sy l id lim (pc + 3) ls st h P)) : Sy l id lim pc ls (rvl r :: st) h P := by
  intro p e R s m args below meth c Qm A D ro G0 n0 sz0 C hA hR hS hret G H locs lsr cells slots hE hG hV hL hc hs
  cases r with
  | none => exact lv_ifnonnullN C.1 C.2.1 hd (k.2 rfl _ _ _ _ _ _ _ _ _ _ _ _ _ _ _ _ C hA hR hS hret _ _ _ _ _ _ hE hG hV hL hc hs)
  | some r => exact lv_ifnonnull C.1 C.2.1 hd ht (k.1 (by simp) _ _ _ _ _ _ _ _ _ _ _ _ _ _ _ _ C hA hR hS hret _ _ _ _ _ _ hE hG hV hL hc hs)
theorem vW_inj {D : va_G} {G : GH} {ro : ROA} {A : Nat → Prop} {U : State} {H : Heap} (hE : EmbW D G ro A h U H) {x y : Nat} (hx : x < h.1.1) (hy : y < h.1.1) (e : G.1 x = G.1 y) : x = y := hE.2.1.1 x y _ _ (vW_get G h hx) (vW_get G h hy) e
theorem sy_acmpne {off : Int} {tgt : Nat} {x y : Option Nat} (hd : decode (mcc id) pc = .ok (.if_acmp .ne off, 3)) (ht : (pc : Int) + off = (tgt : Int)) (hx : ∀ z, x = some z → z < h.1.1) (hy : ∀ z, y = some z → z < h.1.1) (k : (¬ x = y → Sy l id lim tgt ls st h P) ∧ (x = y → Sy l id lim (pc + 3) ls st h P)) : Sy l id lim pc ls (rvl y :: rvl x :: st) h P := by
  intro p e R s m args below meth c Qm A D ro G0 n0 sz0 C hA hR hS hret G H locs lsr cells slots hE hG hV hL hc hs
  show W p l e R s m args below meth c H locs cells slots Qm (F0 m pc lsr (eV G (rvl y) :: eV G (rvl x) :: st.map (eV G)))
  rw [eV_rvl, eV_rvl]
  have hinj : x.map G.1 = y.map G.1 → x = y := by
    intro z
    cases x with
    | none => cases y with
      | none => rfl
      | some y => cases z
    | some x => cases y with
      | none => cases z
      | some y => exact congrArg some (vW_inj hE (hx _ rfl) (hy _ rfl) (Option.some.inj z))
  refine lv_acmp_ne C.1 C.2.1 hd ht (fun z => k.1 (fun q => z (by rw [q])) _ _ _ _ _ _ _ _ _ _ _ _ _ _ _ _ C hA hR hS hret _ _ _ _ _ _ hE hG hV hL hc hs) (fun z => k.2 (hinj ?_) _ _ _ _ _ _ _ _ _ _ _ _ _ _ _ _ C hA hR hS hret _ _ _ _ _ _ hE hG hV hL hc hs)
  first | exact z | exact Decidable.not_not.mp z
theorem sy_lookup {dflt : Int} {ps : Array (Int × Int)} {len : Nat} {x : Int32} (hd : decode (mcc id) pc = .ok (.lookupswitch dflt ps, len)) (hp : (ps.toList.zip (ps.toList.drop 1)).all (fun (a, next) => a.1 < next.1) = true) (k : ∃ tgt : Nat, (pc : Int) + Op.lookupswitch.offset ps.toList dflt x.toInt = (tgt : Int) ∧ Sy l id lim tgt ls st h P) : Sy l id lim pc ls (.int x :: st) h P := by
  intro p e R s m args below meth c Qm A D ro G0 n0 sz0 C hA hR hS hret G H locs lsr cells slots hE hG hV hL hc hs
  obtain ⟨tgt, ht, k⟩ := k
  exact lv_lookup C.1 C.2.1 hd hp rfl ht (k _ _ _ _ _ _ _ _ _ _ _ _ _ _ _ _ C hA hR hS hret _ _ _ _ _ _ hE hG hV hL hc hs)
theorem sy_tableOut {dflt lo hi : Int} {offs : Array Int} {len : Nat} {x : Int32} {tgt : Nat} (hd : decode (mcc id) pc = .ok (.tableswitch dflt lo hi offs, len)) (hx : x.toInt < lo ∨ hi < x.toInt) (ht : (pc : Int) + dflt = (tgt : Int)) (k : Sy l id lim tgt ls st h P) : Sy l id lim pc ls (.int x :: st) h P := by
  intro p e R s m args below meth c Qm A D ro G0 n0 sz0 C hA hR hS hret G H locs lsr cells slots hE hG hV hL hc hs
  exact lv_tableOut C.1 C.2.1 hd hx ht (k _ _ _ _ _ _ _ _ _ _ _ _ _ _ _ _ C hA hR hS hret _ _ _ _ _ _ hE hG hV hL hc hs)
theorem sy_tableIn {dflt lo hi : Int} {offs : Array Int} {len : Nat} {x : Int32} {off : Int} {tgt : Nat} (hd : decode (mcc id) pc = .ok (.tableswitch dflt lo hi offs, len)) (h1 : ¬ x.toInt < lo) (h2 : ¬ hi < x.toInt) (ho : offs[(x.toInt - lo).toNat]? = some off) (ht : (pc : Int) + off = (tgt : Int)) (k : Sy l id lim tgt ls st h P) : Sy l id lim pc ls (.int x :: st) h P := by
  intro p e R s m args below meth c Qm A D ro G0 n0 sz0 C hA hR hS hret G H locs lsr cells slots hE hG hV hL hc hs
  exact lv_tableIn C.1 C.2.1 hd h1 h2 ho ht (k _ _ _ _ _ _ _ _ _ _ _ _ _ _ _ _ C hA hR hS hret _ _ _ _ _ _ hE hG hV hL hc hs)
end SYS
