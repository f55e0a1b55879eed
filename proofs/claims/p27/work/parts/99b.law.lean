-- begun from the kit's printed starting texts (SKELETON)
/-! THE CLAIM OUT OF ONE WALK OF THE LAW'S BODY. Your part is whole_start (and what it stands on); all else here is the same for every law, but numbers. -/
def R_law : String := "TaxiRankLaw"
def lw_P (b : Addr) (xs : List Int32) (args : Array Value) (s : State) : Prop := args = #[.ref b] ∧ s.IntsAt b xs ∧ xs.length ≤ 260 ∧ (Jvm.Cond.and given_1 narrow_1).before args s = true
def lw_Q (_ : Array Value) (s : State) (o : Outcome) (t : State) : Prop := o = .returned (some (.int 1)) ∧ Framed s o t [] 600000 7302250
def lw_Z (below : List Frame) (a : Array Value) (s : State) : State → Prop := fun t => ∃ o, t.status = .running ∧ Ended t below o ∧ lw_Q a s o t
/-- the law's own end, with 1 on the stack, nothing written that was there before, its room as the claim has it -/
theorem lw_ret {p : Program} {l : Launch} {e : Env} {s : State} {m : MethodId} {below : List Frame} {meth : Method} {c : Code} {b : Nat} (hx : p.tables.exec = Jvm.exec) (hb : c.code = code) (hr : meth.sig.returnType = ret) (hlocks : meth.locks = false) {pc : Nat} {H : Heap} {ls : Array Slot} (hdg : decode code pc = .ok (.ireturn, 1)) : W p l e room_1 s m #[Value.ref b] below meth c H [] 600000 7302250 (lw_Z below #[Value.ref b] s) (F0 m pc ls [.int 1]) := by
  intro T hT X
  obtain ⟨fs, hret, hrun, hended, hW, hframe⟩ := X.leave (v := some (.int 1)) (hlocks := hlocks) (fun h => by rw [hr] at h; cases h)
  have hmeth' : T.vm.method? m = some meth := X.method'
  refine ⟨T.setFrames fs, ?_, .returned (some (.int 1)), hrun, hended, rfl, ⟨_, rfl⟩, hW, hframe⟩
  jvm_step X.here [X.here.top, hx, hb, hdg, hmeth', hr, ret, narrow_b1]
  (try refine ⟨rfl, ?_⟩); (try refine ⟨rfl, ?_⟩)
  first | (intro acts; rw [hret _ acts rfl rfl rfl]) | rw [hret _ _ rfl rfl rfl]
  exact Steps.refl _
/-- what holds at the law's entry: the machine, the code, the tables' words (any of lw_tbl by 'hts w (by decide +kernel)'), the script of L ints xs at the cell b, what the Statement gives of the start (any of its parts by flat_of_before) -/
def lw_At (p : Program) (s : State) (m : MethodId) (meth : Method) (c : Code) (b L : Nat) (xs : Nat → Int32) : Prop :=
  p.tables.exec = Jvm.exec ∧ c.code = code ∧ meth.sig.returnType = ret ∧ c.maxLocals = 16 ∧ s.vm.findClass R_law = some m.cls ∧ (∀ w ∈ lw_tbl, w.before #[Value.ref b] s = true) ∧ va_X b L xs s s.heap ∧ b < s.heap.size ∧ meth.locks = false ∧ (Jvm.Cond.and given_1 narrow_1).before #[Value.ref b] s = true
set_option maxHeartbeats 4000000 in
set_option maxRecDepth 100000 in
/-- from the entry, for every script of at most 260 ints, the law comes to its end with true -/
theorem whole_start {p : Program} {e : Env} {s : State} {m : MethodId} {below : List Frame} {meth : Method} {c : Code} (l : Launch) (hflags : l.flags = flags0) {b L : Nat} {xs : Nat → Int32} (hL : L ≤ 260) (C0 : lw_At p s m meth c b L xs) : W p l e room_1 s m #[Value.ref b] below meth c s.heap [] 0 0 (lw_Z below #[Value.ref b] s) (entryFrame m ([Value.ref b] : List Value).toArray 16) := by
  obtain ⟨hx, hb, hr, hml, hown, hts, hX, hbl, hlocks, hgv⟩ := id C0
  have hs := flat_of_before _ hgv
  have hA : ∀ a : Nat, a < s.heap.size → ¬ (fun q : Nat => s.heap.size ≤ q) a := fun a h => Nat.not_le.mpr h
  obtain ⟨t0, hT0, hZ0⟩ := ro_0 hts hs hA
  obtain ⟨t1, hT1, hZ1⟩ := ro_1 hts hs hA
  obtain ⟨t2, hT2, hZ2⟩ := ro_2 hts hs hA
  obtain ⟨dC, dI, hKc⟩ := known6 hts
  have hT3 : va_T .int b L (fun j => .int (xs j)) (fun q : Nat => s.heap.size ≤ q) s s.heap := by
    obtain ⟨scr, h1, h2, h3, h4, h5⟩ := hX
    exact ⟨scr, h1, h2, h3, by omega, by rw [h4], h5, hA b hbl⟩
  have hsy := law_begin (l := l) (L := L) (I := gI xs) (P := fun v _ => v = some (.int 1)) hL (fun _ _ => rfl) (gI_0 xs) (gI_K xs) (gI_2 xs)
  have hl0 : LvR (gA t0 t1 t2 b, fun _ => dC 0, []) [some (.ref 1003), none, none, none, none, none, none, none, none, none, none, none, none, none, none, none] ((lg_sl ([Value.ref b] : List Value) ++ List.replicate (16 - (lg_sl ([Value.ref b] : List Value)).length) Slot.unset).toArray) 16 := LvR_entry (gA t0 t1 t2 b, fun _ => dC 0, []) [.ref 1003] 16 rfl (by decide)
  rw [lg_entry_eq]
  refine hsy p e room_1 s m #[Value.ref b] below meth c (lw_Z below #[Value.ref b] s) (fun q : Nat => s.heap.size ≤ q) (dC, dI) (KC, NC L, gI xs) (gA t0 t1 t2 b, fun _ => dC 0, []) 0 0 ⟨hx, hb, hml, hown, fun w hw => hts w (List.mem_filter.mp hw).1, fun z => absurd z (by decide)⟩ (fun _ h => h) ⟨Nat.le_refl _, Nat.le_refl _, Nat.le_of_ble_eq_true rfl, Nat.le_of_ble_eq_true rfl⟩ ⟨?_, ?_⟩ ?_ (gA t0 t1 t2 b, fun _ => dC 0, []) s.heap [] _ 0 0 ⟨fun k q h => by simp [vW] at h, ⟨fun i j p q h => by simp [vW] at h, fun k q h => by simp [vW] at h⟩, ⟨hKc, fun k q h => by simp at h⟩, fun p ty hp => absurd hp (Nat.not_lt_zero _), Nat.zero_le _, ⟨va_AO.of (hts _ (tl_1 24 rfl)), va_AO.of (hts _ (tl_1 179 rfl)), va_Nw.of rfl (hts _ (tl_1 26 rfl))⟩, fun p _ => ⟨rfl, rfl, rfl⟩⟩ ⟨fun _ _ => rfl, fun _ => rfl⟩ va_S.rf hl0 rfl rfl
  · intro q hq hk
    have hk : KC q = 11 := hk
    have hq4 : q < 1004 := Nat.lt_of_not_le (fun z => by
      rw [kc_hi z] at hk
      exact absurd hk (by decide))
    obtain h | h | h | h : q = 1000 ∨ q = 1001 ∨ q = 1002 ∨ q = 1003 := by omega
    · subst h; exact hT0
    · subst h; exact hT1
    · subst h; exact hT2
    · subst h; exact hT3
  · intro k hk
    match k, hk with
    | 0, _ => exact hZ0
    | 1, _ => exact hZ1
    | 2, _ => exact hZ2
  · intro pc v h' G H locs lsr cells slots hret hv h1 h2 hE hG hV hc hs2
    have hv : v = some (.int 1) := hv
    subst hv
    have hdg : decode code pc = .ok (.ireturn, 1) := by
      rcases hret with ⟨z, -, -⟩ | ⟨x, ty, z, -, -, z2⟩ | ⟨n, r, z, -, -⟩ | ⟨x, z, -, -⟩
      · cases z
      · exact z2
      · cases r <;> simp [rvl] at z
      · cases z
    have h1 : h'.1.1 = 149 := h1
    have h2 : h'.1.2.1 = 1788 := h2
    refine va_forget (fun q hq => hV.2.2 q hq) ?_
    refine W.widen (k := 600000) (n := 7302250) (by omega) (by omega) ?_
    exact lw_ret hx hb hr hlocks hdg
