section SNX
variable {l : Launch} {id : Nat} {lim : Nat × Nat} {pc : Nat} {ls : List (Option Value)} {st : List Value} {h : PH} {P : Option Value → PH → Prop}
theorem popN_ref {n : Nat} {As r : List Value} (hp : popN n [] st = some (As, r)) : st = As.reverse ++ r ∧ As.length = n := by
  obtain ⟨Bs, rfl, rfl, h3⟩ := popN_ok n [] st As r hp
  exact ⟨by simp, by simp [h3]⟩
theorem swL_mono {x : Int32} {a : Nat} {K K' : Nat → Prop} (hK : ∀ t, K t → K' t) : ∀ {cs : List (Int32 × Nat)}, swL x a K cs → swL x a K' cs := by
  intro cs
  induction cs with
  | nil => exact hK _
  | cons q r ih => intro hx; exact ⟨fun z => hK _ (hx.1 z), fun z => ih (hx.2 z)⟩
/-- ONE INSTRUCTION -/
theorem ex_ok {fn : Nat → Option FN} (hfn : fnOK l fn) {c : CX} (hok : okI id (pc, c)) {k : Nat → List (Option Value) → List Value → PH → Prop} (hk : ∀ pc ls st h, k pc ls st h → Sy l id lim pc ls st h P) (hx : ex l fn k (fun pc ls st h => Sy l id lim pc ls st h P) id lim P pc c ls st h) : Sy l id lim pc ls st h P := by
  obtain ⟨hd, hr⟩ := hok
  obtain ⟨i, len, a, b, v, cs, d⟩ := c
  dsimp only at hd hr
  cases i <;> first | exact hx.elim | skip
  case iload n =>
    obtain ⟨rfl, rfl⟩ := hr
    simp only [ex] at hx
    split at hx
    · next x e => exact sy_load hd e (Or.inl ⟨rfl, rfl, x, rfl⟩) (hk _ _ _ _ hx)
    · exact hx.elim
  case iload_n n =>
    obtain ⟨rfl, rfl⟩ := hr
    simp only [ex] at hx
    split at hx
    · next x e => exact sy_load hd e (Or.inr (Or.inl ⟨n, rfl, rfl, rfl, x, rfl⟩)) (hk _ _ _ _ hx)
    · exact hx.elim
  case aload n =>
    obtain ⟨rfl, rfl⟩ := hr
    simp only [ex] at hx
    split at hx
    · next x e => exact sy_load hd e (Or.inr (Or.inr (Or.inl ⟨rfl, rfl, some x, rfl⟩))) (hk _ _ _ _ hx)
    · next e => exact sy_load hd e (Or.inr (Or.inr (Or.inl ⟨rfl, rfl, none, rfl⟩))) (hk _ _ _ _ hx)
    · exact hx.elim
  case aload_n n =>
    obtain ⟨rfl, rfl⟩ := hr
    simp only [ex] at hx
    split at hx
    · next x e => exact sy_load hd e (Or.inr (Or.inr (Or.inr ⟨n, rfl, rfl, rfl, some x, rfl⟩))) (hk _ _ _ _ hx)
    · next e => exact sy_load hd e (Or.inr (Or.inr (Or.inr ⟨n, rfl, rfl, rfl, none, rfl⟩))) (hk _ _ _ _ hx)
    · exact hx.elim
  case istore n =>
    obtain ⟨rfl, rfl⟩ := hr
    simp only [ex] at hx
    split at hx
    · next x st => exact sy_store hd (List.getElem?_eq_getElem hx.1) (Or.inl ⟨rfl, rfl, x, rfl⟩) (hk _ _ _ _ hx.2)
    · exact hx.elim
  case istore_n n =>
    obtain ⟨rfl, rfl⟩ := hr
    simp only [ex] at hx
    split at hx
    · next x st => exact sy_store hd (List.getElem?_eq_getElem hx.1) (Or.inr (Or.inl ⟨n, rfl, rfl, rfl, x, rfl⟩)) (hk _ _ _ _ hx.2)
    · exact hx.elim
  case astore n =>
    obtain ⟨rfl, rfl⟩ := hr
    simp only [ex] at hx
    split at hx
    · next x st => exact sy_store hd (List.getElem?_eq_getElem hx.1) (Or.inr (Or.inr (Or.inl ⟨rfl, rfl, some x, rfl⟩))) (hk _ _ _ _ hx.2)
    · next st => exact sy_store hd (List.getElem?_eq_getElem hx.1) (Or.inr (Or.inr (Or.inl ⟨rfl, rfl, none, rfl⟩))) (hk _ _ _ _ hx.2)
    · exact hx.elim
  case astore_n n =>
    obtain ⟨rfl, rfl⟩ := hr
    simp only [ex] at hx
    split at hx
    · next x st => exact sy_store hd (List.getElem?_eq_getElem hx.1) (Or.inr (Or.inr (Or.inr ⟨n, rfl, rfl, rfl, some x, rfl⟩))) (hk _ _ _ _ hx.2)
    · next st => exact sy_store hd (List.getElem?_eq_getElem hx.1) (Or.inr (Or.inr (Or.inr ⟨n, rfl, rfl, rfl, none, rfl⟩))) (hk _ _ _ _ hx.2)
    · exact hx.elim
  case lload n =>
    obtain ⟨rfl, rfl⟩ := hr
    simp only [ex] at hx
    split at hx
    · next x e => exact sy_lload hd e hx.1 (Or.inl ⟨rfl, rfl⟩) (hk _ _ _ _ hx.2)
    · exact hx.elim
  case lload_n n =>
    obtain ⟨rfl, rfl⟩ := hr
    simp only [ex] at hx
    split at hx
    · next x e => exact sy_lload hd e hx.1 (Or.inr ⟨n, rfl, rfl, rfl⟩) (hk _ _ _ _ hx.2)
    · exact hx.elim
  case lstore n =>
    obtain ⟨rfl, rfl⟩ := hr
    simp only [ex] at hx
    split at hx
    · exact sy_lstore hd hx.1 (Or.inl ⟨rfl, rfl⟩) (hk _ _ _ _ hx.2)
    · exact hx.elim
  case lstore_n n =>
    obtain ⟨rfl, rfl⟩ := hr
    simp only [ex] at hx
    split at hx
    · exact sy_lstore hd hx.1 (Or.inr ⟨n, rfl, rfl, rfl⟩) (hk _ _ _ _ hx.2)
    · exact hx.elim
  case ldc2_w n =>
    obtain ⟨hw, rfl⟩ := hr
    exact sy_ldc2 hd hw (hk _ _ _ _ hx)
  case ladd =>
    cases hr
    simp only [ex] at hx
    split at hx
    · exact sy_ladd hd (hk _ _ _ _ hx)
    · exact hx.elim
  case lmul =>
    cases hr
    simp only [ex] at hx
    split at hx
    · exact sy_lmul hd (hk _ _ _ _ hx)
    · exact hx.elim
  case i2l =>
    cases hr
    simp only [ex] at hx
    split at hx
    · exact sy_i2l hd (hk _ _ _ _ hx)
    · exact hx.elim
  case lcmp =>
    cases hr
    simp only [ex] at hx
    split at hx
    · exact sy_lcmp hd (hk _ _ _ _ hx)
    · exact hx.elim
  case lreturn =>
    obtain ⟨e, rfl⟩ := hr
    simp only [ex] at hx
    split at hx
    · next x => exact sy_ret (v := some (.long x)) (Or.inr (Or.inr (Or.inr ⟨x, rfl, e, hd⟩))) rfl hx.1 hx.2
    · exact hx.elim
  case iinc n m =>
    obtain ⟨rfl, hv, rfl⟩ := hr
    simp only [ex] at hx
    split at hx
    · next x e => exact sy_iinc hd hv e (hk _ _ _ _ hx)
    · exact hx.elim
  case iconst n =>
    obtain ⟨hv, rfl⟩ := hr
    exact sy_const hd (Or.inl ⟨n, rfl, rfl, hv⟩) (hk _ _ _ _ hx)
  case bipush n =>
    obtain ⟨hv, rfl⟩ := hr
    exact sy_const hd (Or.inr (Or.inl ⟨n, rfl, rfl, hv⟩)) (hk _ _ _ _ hx)
  case sipush n =>
    obtain ⟨hv, rfl⟩ := hr
    exact sy_const hd (Or.inr (Or.inr (Or.inl ⟨n, rfl, rfl, hv⟩))) (hk _ _ _ _ hx)
  case ldc n =>
    obtain ⟨hv, rfl⟩ := hr
    exact sy_const hd (Or.inr (Or.inr (Or.inr ⟨n, rfl, rfl, hv⟩))) (hk _ _ _ _ hx)
  case aconst_null => cases hr; exact sy_null hd (hk _ _ _ _ hx)
  case iadd =>
    cases hr
    simp only [ex] at hx
    split at hx
    · exact sy_bin hd (Or.inl ⟨rfl, rfl⟩) (hk _ _ _ _ hx)
    · exact hx.elim
  case isub =>
    cases hr
    simp only [ex] at hx
    split at hx
    · exact sy_bin hd (Or.inr (Or.inl ⟨rfl, rfl⟩)) (hk _ _ _ _ hx)
    · exact hx.elim
  case imul =>
    cases hr
    simp only [ex] at hx
    split at hx
    · exact sy_bin hd (Or.inr (Or.inr (Or.inl ⟨rfl, rfl⟩))) (hk _ _ _ _ hx)
    · exact hx.elim
  case iand =>
    cases hr
    simp only [ex] at hx
    split at hx
    · exact sy_bin hd (Or.inr (Or.inr (Or.inr (Or.inl ⟨rfl, rfl⟩)))) (hk _ _ _ _ hx)
    · exact hx.elim
  case idiv =>
    cases hr
    simp only [ex] at hx
    split at hx
    · exact sy_bin hd (Or.inr (Or.inr (Or.inr (Or.inr (Or.inl ⟨rfl, hx.1, rfl⟩))))) (hk _ _ _ _ hx.2)
    · exact hx.elim
  case irem =>
    cases hr
    simp only [ex] at hx
    split at hx
    · exact sy_bin hd (Or.inr (Or.inr (Or.inr (Or.inr (Or.inr ⟨rfl, hx.1, rfl⟩))))) (hk _ _ _ _ hx.2)
    · exact hx.elim
  case ineg =>
    cases hr
    simp only [ex] at hx
    split at hx
    · exact sy_un hd (Or.inl ⟨rfl, rfl⟩) (hk _ _ _ _ hx)
    · exact hx.elim
  case i2c =>
    cases hr
    simp only [ex] at hx
    split at hx
    · exact sy_un hd (Or.inr ⟨rfl, rfl⟩) (hk _ _ _ _ hx)
    · exact hx.elim
  case dup =>
    cases hr
    simp only [ex] at hx
    split at hx
    · exact sy_dup hx.1 hd (hk _ _ _ _ hx.2)
    · exact hx.elim
  case dup2 =>
    cases hr
    simp only [ex] at hx
    split at hx
    · exact sy_dup2 hx.1.1 hx.1.2 hd (hk _ _ _ _ hx.2)
    · exact hx.elim
  case pop =>
    cases hr
    simp only [ex] at hx
    split at hx
    · exact sy_pop hx.1 hd (hk _ _ _ _ hx.2)
    · exact hx.elim
  case goto off =>
    obtain ⟨ht, rfl⟩ := hr
    exact sy_goto hd ht (hk _ _ _ _ hx)
  case ifCond cnd off =>
    obtain ⟨ht, rfl⟩ := hr
    cases cnd <;> (simp only [ex] at hx; split at hx <;> first | exact hx.elim | skip)
    · exact sy_if_eq hd ht ⟨fun z => hk _ _ _ _ (hx.1 z), fun z => hk _ _ _ _ (hx.2 z)⟩
    · exact sy_if_ne hd ht ⟨fun z => hk _ _ _ _ (hx.1 z), fun z => hk _ _ _ _ (hx.2 z)⟩
    · exact sy_if_lt hd ht ⟨fun z => hk _ _ _ _ (hx.1 z), fun z => hk _ _ _ _ (hx.2 z)⟩
    · exact sy_if_ge hd ht ⟨fun z => hk _ _ _ _ (hx.1 z), fun z => hk _ _ _ _ (hx.2 z)⟩
    · exact sy_if_gt hd ht ⟨fun z => hk _ _ _ _ (hx.1 z), fun z => hk _ _ _ _ (hx.2 z)⟩
    · exact sy_if_le hd ht ⟨fun z => hk _ _ _ _ (hx.1 z), fun z => hk _ _ _ _ (hx.2 z)⟩
  case if_icmp cnd off =>
    obtain ⟨ht, rfl⟩ := hr
    cases cnd <;> (simp only [ex] at hx; split at hx <;> first | exact hx.elim | skip)
    · exact sy_icmp_eq hd ht ⟨fun z => hk _ _ _ _ (hx.1 z), fun z => hk _ _ _ _ (hx.2 z)⟩
    · exact sy_icmp_ne hd ht ⟨fun z => hk _ _ _ _ (hx.1 z), fun z => hk _ _ _ _ (hx.2 z)⟩
    · exact sy_icmp_lt hd ht ⟨fun z => hk _ _ _ _ (hx.1 z), fun z => hk _ _ _ _ (hx.2 z)⟩
    · exact sy_icmp_ge hd ht ⟨fun z => hk _ _ _ _ (hx.1 z), fun z => hk _ _ _ _ (hx.2 z)⟩
    · exact sy_icmp_gt hd ht ⟨fun z => hk _ _ _ _ (hx.1 z), fun z => hk _ _ _ _ (hx.2 z)⟩
    · exact sy_icmp_le hd ht ⟨fun z => hk _ _ _ _ (hx.1 z), fun z => hk _ _ _ _ (hx.2 z)⟩
  case ifnull off =>
    obtain ⟨ht, rfl⟩ := hr
    simp only [ex] at hx
    split at hx
    · next x st => exact sy_ifnull (r := some x) hd ht ⟨fun z => absurd z (by simp), fun _ => hk _ _ _ _ hx⟩
    · next st => exact sy_ifnull (r := none) hd ht ⟨fun _ => hk _ _ _ _ hx, fun z => absurd rfl z⟩
    · exact hx.elim
  case ifnonnull off =>
    obtain ⟨ht, rfl⟩ := hr
    simp only [ex] at hx
    split at hx
    · next x st => exact sy_ifnonnull (r := some x) hd ht ⟨fun _ => hk _ _ _ _ hx, fun z => by cases z⟩
    · next st => exact sy_ifnonnull (r := none) hd ht ⟨fun z => absurd rfl z, fun _ => hk _ _ _ _ hx⟩
    · exact hx.elim
  case if_acmp cnd off =>
    obtain ⟨ht, rfl⟩ := hr
    cases cnd with
    | eq => simp only [ex] at hx
    | ne =>
      simp only [ex] at hx
      split at hx
      · next y x st => exact sy_acmpne (x := some x) (y := some y) hd ht (fun z e => by cases e; exact hx.1.1) (fun z e => by cases e; exact hx.1.2) ⟨fun z => hk _ _ _ _ (hx.2.1 (fun e => z (by rw [e]))), fun z => hk _ _ _ _ (hx.2.2 (Option.some.inj z))⟩
      · next y st => exact sy_acmpne (x := none) (y := some y) hd ht (fun z e => absurd e (by simp)) (fun z e => by cases e; exact hx.1) ⟨fun z => hk _ _ _ _ hx.2, fun z => absurd z (by simp)⟩
      · exact hx.elim
  case tableswitch dflt lo hi offs =>
    obtain ⟨h1, h2, h3⟩ := hr
    simp only [ex] at hx
    split at hx
    · exact sy_tableL hd h1 h2 h3 (swL_mono (fun t z => hk _ _ _ _ z) hx)
    · exact hx.elim
  case lookupswitch dflt ps =>
    obtain ⟨h1, h2, h3⟩ := hr
    simp only [ex] at hx
    split at hx
    · exact sy_lookupL hd h1 h2 h3 (swL_mono (fun t z => hk _ _ _ _ z) hx)
    · exact hx.elim
  case getfield idx =>
    obtain ⟨hb, ha, hw, hdd, rfl⟩ := hr
    simp only [ex] at hx
    split at hx
    · next p st =>
      refine sy_get hd hb ha hw hx.1.1 hx.1.2 ?_
      rcases hdd with ⟨rfl, e⟩ | ⟨rfl, e⟩
      · rw [e]; exact hk _ _ _ _ hx.2
      · rw [e]; exact hk _ _ _ _ hx.2
    · exact hx.elim
  case putfield idx =>
    obtain ⟨hb, ha, hw, hfin, hdd, rfl⟩ := hr
    simp only [ex] at hx
    split at hx
    · next x p st =>
      rcases hdd with ⟨rfl, e⟩ | ⟨rfl, e⟩ | ⟨rfl, e⟩
      · exact sy_put (v := .int x) hd hb ha hw rfl hfin hx.1.1 hx.1.2 (by rw [e]; exact ⟨x, rfl⟩) (hk _ _ _ _ hx.2)
      · exact sy_put (v := .int x) hd hb ha hw rfl hfin hx.1.1 hx.1.2 (by rw [e]; exact hx.2.1.elim (fun z => Or.inl (by rw [z])) (fun z => Or.inr (by rw [z]))) (hk _ _ _ _ hx.2.2)
      · exact hx.2.elim
    · next q p st =>
      rcases hdd with ⟨rfl, e⟩ | ⟨rfl, e⟩ | ⟨rfl, ⟨n, e⟩ | ⟨n, e⟩⟩
      · exact hx.2.elim
      · exact hx.2.elim
      · exact sy_put (v := .ref q) hd hb ha hw rfl hfin hx.1.1 hx.1.2 (by rw [e]; exact ⟨some q, rfl⟩) (hk _ _ _ _ hx.2)
      · exact sy_put (v := .ref q) hd hb ha hw rfl hfin hx.1.1 hx.1.2 (by rw [e]; exact ⟨some q, rfl⟩) (hk _ _ _ _ hx.2)
    · exact hx.elim
  case iaload =>
    cases hr
    simp only [ex] at hx
    split at hx
    · exact sy_iald hd hx.1 hx.2.1 (hk _ _ _ _ hx.2.2)
    · exact hx.elim
  case caload =>
    cases hr
    simp only [ex] at hx
    split at hx
    · exact sy_cald hd hx.1.1 hx.1.2 hx.2.1 (hk _ _ _ _ hx.2.2)
    · exact hx.elim
  case aaload =>
    cases hr
    simp only [ex] at hx
    split at hx
    · exact sy_aald hd hx.1.1 hx.1.2 hx.2.1 (hk _ _ _ _ hx.2.2)
    · exact hx.elim
  case iastore =>
    cases hr
    simp only [ex] at hx
    split at hx
    · exact sy_iast hd hx.1.1 hx.1.2 hx.2.1 (hk _ _ _ _ hx.2.2)
    · exact hx.elim
  case castore =>
    cases hr
    simp only [ex] at hx
    split at hx
    · exact sy_cast hd hx.1.1 hx.1.2 hx.2.1 (hk _ _ _ _ hx.2.2)
    · exact hx.elim
  case aastore =>
    cases hr
    simp only [ex] at hx
    split at hx
    · exact sy_aast hd hx.1.1 hx.1.2.1 hx.1.2.2 hx.2.1 (hk _ _ _ _ hx.2.2)
    · exact hx.elim
  case arraylength =>
    cases hr
    simp only [ex] at hx
    split at hx
    · exact sy_alen hd hx.1 (hk _ _ _ _ hx.2)
    · exact hx.elim
  case getstatic idx =>
    obtain ⟨ha, hw, rfl⟩ := hr
    exact sy_gets hd ha hw (hk _ _ _ _ hx)
  case new idx =>
    obtain ⟨ha, hw, rfl⟩ := hr
    obtain ⟨⟨n1, n2, n3, n4, n5, n6⟩, hx⟩ := hx
    exact sy_new hd ha hw n1 n2 n3 n4 n5 n6 (hk _ _ _ _ hx)
  case newarray t =>
    obtain ⟨hw, rfl⟩ := hr
    simp only [ex] at hx
    split at hx
    · obtain ⟨⟨m1, m2⟩, ⟨n1, n2, n3, n4, n5, n6⟩, hx⟩ := hx
      rcases hw with ⟨rfl, rfl, hw⟩ | ⟨rfl, rfl, hw⟩
      · exact sy_newa hd (Or.inl ⟨rfl, rfl, rfl⟩) hw m1 rfl m2 n1 n2 n3 n4 n5 n6 (hk _ _ _ _ hx)
      · exact sy_newa hd (Or.inr ⟨rfl, rfl, rfl⟩) hw m1 rfl m2 n1 n2 n3 n4 n5 n6 (hk _ _ _ _ hx)
    · exact hx.elim
  case anewarray idx =>
    obtain ⟨hw, rfl⟩ := hr
    simp only [ex] at hx
    split at hx
    · obtain ⟨⟨m1, m2⟩, ⟨n1, n2, n3, n4, n5, n6⟩, hx⟩ := hx
      rcases hw with ⟨rfl, hw⟩ | ⟨rfl, hw⟩
      · exact sy_newq hd (Or.inl ⟨rfl, rfl⟩) hw m1 rfl m2 n1 n2 n3 n4 n5 n6 (hk _ _ _ _ hx)
      · exact sy_newq hd (Or.inr ⟨rfl, rfl⟩) hw m1 rfl m2 n1 n2 n3 n4 n5 n6 (hk _ _ _ _ hx)
    · exact hx.elim
  case invokevirtual idx =>
    obtain ⟨hM, hw, hroom, hkd, rfl, rfl, hmc, rfl⟩ := hr
    simp only [ex] at hx
    split at hx
    · next As p st' e =>
      obtain ⟨⟨hp, hkk⟩, hc, hg⟩ := hx
      obtain ⟨rfl, hn⟩ := popN_ref e
      obtain ⟨hl1, hl2⟩ := callOK_lim hc
      exact sy_callV hd hM hw hroom hc.1 hp (Option.some.inj hkk).symm hkd hn hl1 hmc hl2 (goC_ok hfn (k := fun w h' => k (pc + 3) ls (w ++ st') h') (sy := fun w h' => Sy l id lim (pc + 3) ls (w ++ st') h' P) (fun w h' z => hk _ _ _ _ z) hg)
    · exact hx.elim
  case invokestatic idx =>
    obtain ⟨hw, rfl⟩ := hr
    simp only [ex] at hx
    rcases hw with ⟨rfl, hw, hroom⟩ | ⟨rfl, hw, hroom⟩ | ⟨ha, ha2, hM, hw, hroom, rfl, rfl, hmc⟩
    · split at hx
      · split at hx
        · obtain ⟨h1, h2, h3, h4, h5, hx⟩ := hx
          rcases h3 with h3 | h3
          · exact sy_copy hd hw hroom h1 h2.1 h2.2 h3.1 h3.2 h4.1 h4.2.1 h4.2.2 h5.1 h5.2 (hk _ _ _ _ hx)
          · exact sy_copyS hd hw hroom h1 h2.1 h2.2 h3.1 h3.2 h4.1 h4.2.1 h4.2.2 h5.1 h5.2 (hk _ _ _ _ hx)
        · exact hx.elim
      · next hh => cases hh
      · next hne _ => exact (hne rfl).elim
    · split at hx
      · next hh => cases hh
      · split at hx
        · exact sy_abs hd hw hroom hx.1.1 hx.1.2 (hk _ _ _ _ hx.2)
        · exact hx.elim
      · next hne => exact (hne rfl).elim
    · split at hx
      · exact absurd rfl ha
      · exact absurd rfl ha2
      · split at hx
        · next As st' e =>
          obtain ⟨hc, hg⟩ := hx
          obtain ⟨rfl, hn⟩ := popN_ref e
          obtain ⟨hl1, hl2⟩ := callOK_lim hc
          exact sy_callS hd hM hw hroom hc.1 hn hl1 hmc hl2 (goC_ok hfn (k := fun w h' => k (pc + 3) ls (w ++ st') h') (sy := fun w h' => Sy l id lim (pc + 3) ls (w ++ st') h' P) (fun w h' z => hk _ _ _ _ z) hg)
        · exact hx.elim
  case invokespecial idx =>
    obtain ⟨hw, rfl⟩ := hr
    simp only [ex] at hx
    rcases hw with ⟨rfl, hw, hroom⟩ | ⟨ha, hM, hnm, hr0, hw, hroom, rfl, rfl, hmc⟩
    · split at hx
      · split at hx
        · exact sy_objInit hd hw hroom (hk _ _ _ _ hx)
        · exact hx.elim
      · next hne => exact (hne rfl).elim
    · split at hx
      · exact absurd rfl ha
      · split at hx
        · next As p st' e =>
          obtain ⟨hc, hg⟩ := hx
          obtain ⟨rfl, hn⟩ := popN_ref e
          obtain ⟨hl1, hl2⟩ := callOK_lim hc
          have hg' := goC_ok hfn (k := fun w h' => k (pc + 3) ls (w ++ st') h') (sy := fun w h' => Sy l id lim (pc + 3) ls (w ++ st') h' P) (fun w h' z => hk _ _ _ _ z) hg
          rcases hw with ⟨hw | ⟨e1, e2, e3, e4⟩, hw2⟩
          · exact sy_callI hd hM hnm hr0 ⟨hw, hw2⟩ hroom hc.1 hn hl1 hmc hl2 hg'
          · subst e2
            have : As = [] := List.eq_nil_of_length_eq_zero (by rw [hn]; exact e4)
            subst this
            exact sy_callIN e1 hd e3 hM hr0 hw2 hroom hc.1 (by rw [e4]) hl1 hmc hl2 hg'
        · exact hx.elim
  case ireturn =>
    obtain ⟨hr, rfl⟩ := hr
    simp only [ex] at hx
    split at hx
    · next x =>
      obtain ⟨h1, h2, h3⟩ := hx
      refine sy_ret (v := some (.int x)) ?_ rfl h1 h3
      rcases hr with ⟨rfl, e⟩ | ⟨rfl, e⟩ | ⟨rfl, e⟩
      · exact Or.inr (Or.inl ⟨x, _, rfl, e, rfl, hd⟩)
      · refine Or.inr (Or.inl ⟨x, _, rfl, e, ?_, hd⟩)
        rcases h2 with rfl | rfl
        · decide
        · decide
      · exact Or.inr (Or.inl ⟨x, _, rfl, e, h2, hd⟩)
    · exact hx.elim
  case areturn =>
    obtain ⟨⟨n, e⟩, rfl⟩ := hr
    simp only [ex] at hx
    split at hx
    · next x => exact sy_ret (v := some (.ref x)) (Or.inr (Or.inr (Or.inl ⟨n, some x, rfl, e, hd⟩))) rfl hx.1 hx.2
    · exact sy_ret (v := some .null) (Or.inr (Or.inr (Or.inl ⟨n, none, rfl, e, hd⟩))) rfl hx.1 hx.2
    · exact hx.elim
  case return_ =>
    obtain ⟨e, rfl⟩ := hr
    simp only [ex] at hx
    split at hx
    · exact sy_ret (v := none) (Or.inl ⟨rfl, e, hd⟩) rfl hx.1 hx.2
    · exact hx.elim
end SNX
