/-! the pure machine: one instruction, many; what is resolved of each is held against the tables by okI -/
abbrev CX : Type := Instr × Nat × Nat × Nat × Int32 × List (Int32 × Nat) × List Nat
abbrev FN : Type := List Value → PH → Prop × List Value × PH
/-- pop n, the last one on top -/
def popN : Nat → List Value → List Value → Option (List Value × List Value)
  | 0, acc, st => some (acc, st)
  | n + 1, acc, v :: st => popN n (v :: acc) st
  | _ + 1, _, [] => none
theorem popN_ok : ∀ (n : Nat) (acc st As r : List Value), popN n acc st = some (As, r) → ∃ Bs, As = Bs ++ acc ∧ st = Bs.reverse ++ r ∧ Bs.length = n := by
  intro n
  induction n with
  | zero =>
    intro acc st As r h
    simp only [popN, Option.some.injEq, Prod.mk.injEq] at h
    obtain ⟨rfl, rfl⟩ := h
    exact ⟨[], rfl, rfl, rfl⟩
  | succ n ih =>
    intro acc st As r h
    cases st with
    | nil => simp [popN] at h
    | cons v st =>
      obtain ⟨Bs, rfl, rfl, h3⟩ := ih _ _ _ _ h
      exact ⟨Bs ++ [v], by simp, by simp, by simp [h3]⟩
/-- a switch: the value against each, in order -/
def swL (x : Int32) (dflt : Nat) (K : Nat → Prop) : List (Int32 × Nat) → Prop
  | [] => K dflt
  | (v, t) :: r => (x = v → K t) ∧ (¬ x = v → swL x dflt K r)
def newOK (id : Nat) (lim : Nat × Nat) (ls : List (Option Value)) (st : List Value) (h : PH) (slots : Nat) : Prop :=
  (mrm id).cells ≠ 0 ∧ (h.1.1 + 1 ≤ lim.1 ∧ h.1.2.1 + slots ≤ lim.2) ∧ h.1.1 < 1000 ∧ qOld h ∧ (∀ v, some v ∈ ls → vOld h.1.1 v) ∧ ∀ v, v ∈ st → vOld h.1.1 v
/-- what a call asks of the caller's side: d = [the receiver's kind, new cells, new slots] -/
def callOK (lim : Nat × Nat) (ls : List (Option Value)) (st : List Value) (h : PH) (d : List Nat) : Prop := catS st ≤ 8 ∧ match d with
  | [_, 0, 0] => h.1.1 ≤ lim.1 ∧ h.1.2.1 ≤ lim.2
  | [_, c, s] => (h.1.1 + c ≤ lim.1 ∧ h.1.2.1 + s ≤ lim.2) ∧ (∀ v, some v ∈ ls → vOld h.1.1 v) ∧ ∀ v, v ∈ st → vOld h.1.1 v
  | _ => False
def goC (l : Launch) (fn : Nat → Option FN) (y : Nat) (As : List Value) (h : PH) (k sy : List Value → PH → Prop) : Prop := match fn y with
  | some f => (f As h).1 ∧ k (f As h).2.1 (f As h).2.2
  | none => Runs l y As h (fun v h' => sy v.toList h')
/-- one instruction: what must hold so that the machine goes on well (k: we go on here; sy: we stop here) -/
def ex (l : Launch) (fn : Nat → Option FN) (k sy : Nat → List (Option Value) → List Value → PH → Prop) (id : Nat) (lim : Nat × Nat) (P : Option Value → PH → Prop) (pc : Nat) (c : CX) (ls : List (Option Value)) (st : List Value) (h : PH) : Prop :=
  match c with
  | (i, len, a, b, v, cs, d) => match i with
    | .iload _ | .iload_n _ => (match ls[a]? with | some (some (.int x)) => k (pc + len) ls (.int x :: st) h | _ => False)
    | .aload _ | .aload_n _ => (match ls[a]? with | some (some (.ref x)) => k (pc + len) ls (.ref x :: st) h | some (some .null) => k (pc + len) ls (.null :: st) h | _ => False)
    | .istore _ | .istore_n _ => (match st with | .int x :: st => a < ls.length ∧ k (pc + len) (ls.set a (some (.int x))) st h | _ => False)
    | .astore _ | .astore_n _ => (match st with | .ref x :: st => a < ls.length ∧ k (pc + len) (ls.set a (some (.ref x))) st h | .null :: st => a < ls.length ∧ k (pc + len) (ls.set a (some .null)) st h | _ => False)
    | .iinc _ _ => (match ls[a]? with | some (some (.int x)) => k (pc + 3) (ls.set a (some (.int (x + v)))) st h | _ => False)
    | .iconst _ | .bipush _ | .sipush _ | .ldc _ => k (pc + len) ls (.int v :: st) h
    | .aconst_null => k (pc + 1) ls (.null :: st) h
    | .lload _ | .lload_n _ => (match ls[a]? with | some (some (.long x)) => isMk ls[a + 1]? = true ∧ k (pc + len) ls (.long x :: st) h | _ => False)
    | .lstore _ | .lstore_n _ => (match st with | .long x :: st => a + 1 < ls.length ∧ k (pc + len) ((ls.set a (some (.long x))).set (a + 1) (some (.double 0))) st h | _ => False)
    | .ldc2_w _ => k (pc + 3) ls (.long (Int64.ofNat a) :: st) h
    | .ladd => (match st with | .long y :: .long x :: st => k (pc + 1) ls (.long (x + y) :: st) h | _ => False)
    | .lmul => (match st with | .long y :: .long x :: st => k (pc + 1) ls (.long (x * y) :: st) h | _ => False)
    | .i2l => (match st with | .int x :: st => k (pc + 1) ls (.long x.toInt64 :: st) h | _ => False)
    | .lcmp => (match st with | .long y :: .long x :: st => k (pc + 1) ls (.int (lg_cmp x y) :: st) h | _ => False)
    | .lreturn => (match st with | [.long x] => (h.1.1 = lim.1 ∧ h.1.2.1 = lim.2) ∧ P (some (.long x)) h | _ => False)
    | .iadd => (match st with | .int y :: .int x :: st => k (pc + 1) ls (.int (x + y) :: st) h | _ => False)
    | .isub => (match st with | .int y :: .int x :: st => k (pc + 1) ls (.int (x - y) :: st) h | _ => False)
    | .imul => (match st with | .int y :: .int x :: st => k (pc + 1) ls (.int (x * y) :: st) h | _ => False)
    | .iand => (match st with | .int y :: .int x :: st => k (pc + 1) ls (.int (x &&& y) :: st) h | _ => False)
    | .idiv => (match st with | .int y :: .int x :: st => ¬ y = 0 ∧ k (pc + 1) ls (.int (x / y) :: st) h | _ => False)
    | .irem => (match st with | .int y :: .int x :: st => ¬ y = 0 ∧ k (pc + 1) ls (.int (x - x / y * y) :: st) h | _ => False)
    | .ineg => (match st with | .int x :: st => k (pc + 1) ls (.int (-x) :: st) h | _ => False)
    | .i2c => (match st with | .int x :: st => k (pc + 1) ls (.int (x.toUInt32 % 65536).toInt32 :: st) h | _ => False)
    | .dup => (match st with | v :: st => vC v = 1 ∧ k (pc + 1) ls (v :: v :: st) h | _ => False)
    | .dup2 => (match st with | v :: w :: st => (vC v = 1 ∧ vC w = 1) ∧ k (pc + 1) ls (v :: w :: v :: w :: st) h | _ => False)
    | .pop => (match st with | v :: st => vC v = 1 ∧ k (pc + 1) ls st h | _ => False)
    | .goto _ => k a ls st h
    | .ifCond .eq _ => (match st with | .int x :: st => (x = 0 → k a ls st h) ∧ (¬ x = 0 → k (pc + 3) ls st h) | _ => False)
    | .ifCond .ne _ => (match st with | .int x :: st => (¬ x = 0 → k a ls st h) ∧ (x = 0 → k (pc + 3) ls st h) | _ => False)
    | .ifCond .lt _ => (match st with | .int x :: st => (x < 0 → k a ls st h) ∧ (¬ x < 0 → k (pc + 3) ls st h) | _ => False)
    | .ifCond .ge _ => (match st with | .int x :: st => (0 ≤ x → k a ls st h) ∧ (¬ 0 ≤ x → k (pc + 3) ls st h) | _ => False)
    | .ifCond .gt _ => (match st with | .int x :: st => (0 < x → k a ls st h) ∧ (¬ 0 < x → k (pc + 3) ls st h) | _ => False)
    | .ifCond .le _ => (match st with | .int x :: st => (x ≤ 0 → k a ls st h) ∧ (¬ x ≤ 0 → k (pc + 3) ls st h) | _ => False)
    | .if_icmp .eq _ => (match st with | .int y :: .int x :: st => (x = y → k a ls st h) ∧ (¬ x = y → k (pc + 3) ls st h) | _ => False)
    | .if_icmp .ne _ => (match st with | .int y :: .int x :: st => (¬ x = y → k a ls st h) ∧ (x = y → k (pc + 3) ls st h) | _ => False)
    | .if_icmp .lt _ => (match st with | .int y :: .int x :: st => (x < y → k a ls st h) ∧ (¬ x < y → k (pc + 3) ls st h) | _ => False)
    | .if_icmp .ge _ => (match st with | .int y :: .int x :: st => (y ≤ x → k a ls st h) ∧ (¬ y ≤ x → k (pc + 3) ls st h) | _ => False)
    | .if_icmp .gt _ => (match st with | .int y :: .int x :: st => (y < x → k a ls st h) ∧ (¬ y < x → k (pc + 3) ls st h) | _ => False)
    | .if_icmp .le _ => (match st with | .int y :: .int x :: st => (x ≤ y → k a ls st h) ∧ (¬ x ≤ y → k (pc + 3) ls st h) | _ => False)
    | .ifnull _ => (match st with | .ref _ :: st => k (pc + 3) ls st h | .null :: st => k a ls st h | _ => False)
    | .ifnonnull _ => (match st with | .ref _ :: st => k a ls st h | .null :: st => k (pc + 3) ls st h | _ => False)
    | .if_acmp .ne _ => (match st with
        | .ref y :: .ref x :: st => (x < h.1.1 ∧ y < h.1.1) ∧ (¬ x = y → k a ls st h) ∧ (x = y → k (pc + 3) ls st h)
        | .ref y :: .null :: st => y < h.1.1 ∧ k a ls st h
        | _ => False)
    | .tableswitch .. | .lookupswitch .. => (match st with | .int x :: st => swL x a (fun t => k t ls st h) cs | _ => False)
    | .getfield _ => (match st with | .ref p :: st => (p < h.1.1 ∧ h.1.2.2.1 p = b) ∧ (match d with | [0] => k (pc + 3) ls (.int (h.2.1 p a) :: st) h | _ => k (pc + 3) ls (rvl (h.2.2 p a) :: st) h) | _ => False)
    | .putfield _ => (match st with
        | .int x :: .ref p :: st => (p < h.1.1 ∧ h.1.2.2.1 p = b) ∧ (match d with | 0 :: _ => k (pc + 3) ls st (h.1, uR h.2.1 p (upd (h.2.1 p) a x), h.2.2) | 2 :: _ => (x = 0 ∨ x = 1) ∧ k (pc + 3) ls st (h.1, uR h.2.1 p (upd (h.2.1 p) a x), h.2.2) | _ => False)
        | .ref q :: .ref p :: st => (p < h.1.1 ∧ h.1.2.2.1 p = b) ∧ (match d with | 1 :: _ => k (pc + 3) ls st (h.1, h.2.1, uR h.2.2 p (va_up (h.2.2 p) a (some q))) | _ => False)
        | _ => False)
    | .iaload => (match st with | .int i :: .ref p :: st => (p < h.1.1 ∧ h.1.2.2.1 p = 7 ∨ 1000 ≤ p ∧ h.1.2.2.1 p = 11) ∧ vp_in i (h.1.2.2.2 p) ∧ k (pc + 1) ls (.int (h.2.1 p i.toNatClampNeg) :: st) h | _ => False)
    | .caload => (match st with | .int i :: .ref p :: st => (p < h.1.1 ∧ h.1.2.2.1 p = 8) ∧ vp_in i (h.1.2.2.2 p) ∧ k (pc + 1) ls (.int (h.2.1 p i.toNatClampNeg) :: st) h | _ => False)
    | .aaload => (match st with | .int i :: .ref p :: st => (p < h.1.1 ∧ (h.1.2.2.1 p = 9 ∨ h.1.2.2.1 p = 10)) ∧ vp_in i (h.1.2.2.2 p) ∧ k (pc + 1) ls (rvl (h.2.2 p i.toNatClampNeg) :: st) h | _ => False)
    | .iastore => (match st with | .int x :: .int i :: .ref p :: st => (p < h.1.1 ∧ h.1.2.2.1 p = 7) ∧ vp_in i (h.1.2.2.2 p) ∧ k (pc + 1) ls st (h.1, uR h.2.1 p (upd (h.2.1 p) i.toNatClampNeg x), h.2.2) | _ => False)
    | .castore => (match st with | .int x :: .int i :: .ref p :: st => (p < h.1.1 ∧ h.1.2.2.1 p = 8) ∧ vp_in i (h.1.2.2.2 p) ∧ k (pc + 1) ls st (h.1, uR h.2.1 p (upd (h.2.1 p) i.toNatClampNeg (vp_nar .char x)), h.2.2) | _ => False)
    | .aastore => (match st with | .ref q :: .int i :: .ref p :: st => (p < h.1.1 ∧ q < h.1.1 ∧ (h.1.2.2.1 p = 9 ∧ h.1.2.2.1 q = 3 ∨ h.1.2.2.1 p = 10 ∧ h.1.2.2.1 q = 4)) ∧ vp_in i (h.1.2.2.2 p) ∧ k (pc + 1) ls st (h.1, h.2.1, uR h.2.2 p (va_up (h.2.2 p) i.toNatClampNeg (some q))) | _ => False)
    | .arraylength => (match st with | .ref p :: st => (p < h.1.1 ∧ (h.1.2.2.1 p = 7 ∨ h.1.2.2.1 p = 8 ∨ h.1.2.2.1 p = 9 ∨ h.1.2.2.1 p = 10) ∨ 1000 ≤ p ∧ h.1.2.2.1 p = 11) ∧ k (pc + 1) ls (.int (Int32.ofNat (h.1.2.2.2 p)) :: st) h | _ => False)
    | .getstatic _ => k (pc + 3) ls (.ref (1000 + a) :: st) h
    | .new _ => newOK id lim ls st h (nFl a) ∧ k (pc + 3) ls (.ref h.1.1 :: st) (newH h a (nFl a) 0)
    | .newarray _ => (match st with | .int x :: st => (¬ x < 0 ∧ x.toNatClampNeg ≤ 1000) ∧ newOK id lim ls st h x.toNatClampNeg ∧ k (pc + 2) ls (.ref h.1.1 :: st) (newH h a x.toNatClampNeg x.toNatClampNeg) | _ => False)
    | .anewarray _ => (match st with | .int x :: st => (¬ x < 0 ∧ x.toNatClampNeg ≤ 1000) ∧ newOK id lim ls st h x.toNatClampNeg ∧ k (pc + 3) ls (.ref h.1.1 :: st) (newH h a x.toNatClampNeg x.toNatClampNeg) | _ => False)
    | .invokevirtual _ => (match popN b [] st with
        | some (As, .ref p :: st) => (p < h.1.1 ∧ d.head? = some (h.1.2.2.1 p)) ∧ callOK lim ls st h d ∧ goC l fn a (.ref p :: As) h (fun w h' => k (pc + 3) ls (w ++ st) h') (fun w h' => sy (pc + 3) ls (w ++ st) h')
        | _ => False)
    | .invokestatic _ => (match a with
        | 999 => (match st with
            | .int n :: .int dp :: .ref p :: .int sp :: .ref q :: st => catS st ≤ 8 ∧ (p < h.1.1 ∧ h.1.2.2.1 p = 7) ∧ (q < h.1.1 ∧ h.1.2.2.1 q = 7 ∨ 1000 ≤ q ∧ h.1.2.2.1 q = 11) ∧ (¬ sp < 0 ∧ ¬ dp < 0 ∧ ¬ n < 0) ∧ (sp.toNatClampNeg + n.toNatClampNeg ≤ h.1.2.2.2 q ∧ dp.toNatClampNeg + n.toNatClampNeg ≤ h.1.2.2.2 p) ∧ k (pc + 3) ls st (h.1, uR h.2.1 p (va_cpy (h.2.1 q) (h.2.1 p) sp.toNatClampNeg dp.toNatClampNeg n.toNatClampNeg), h.2.2)
            | _ => False)
        | 997 => (match st with | .int x :: st => (catS st ≤ 8 ∧ h.1.1 ≤ lim.1 ∧ h.1.2.1 ≤ lim.2) ∧ k (pc + 3) ls (.int (if 0 ≤ x then x else 0 - x) :: st) h | _ => False)
        | y => (match popN b [] st with
            | some (As, st) => callOK lim ls st h d ∧ goC l fn y As h (fun w h' => k (pc + 3) ls (w ++ st) h') (fun w h' => sy (pc + 3) ls (w ++ st) h')
            | _ => False))
    | .invokespecial _ => (match a with
        | 998 => (match st with | [.ref _] => k (pc + 3) ls [] h | _ => False)
        | y => (match popN b [] st with
            | some (As, .ref p :: st) => callOK lim ls st h d ∧ goC l fn y (.ref p :: As) h (fun w h' => k (pc + 3) ls (w ++ st) h') (fun w h' => sy (pc + 3) ls (w ++ st) h')
            | _ => False))
    | .ireturn => (match st with | [.int x] => (h.1.1 = lim.1 ∧ h.1.2.1 = lim.2) ∧ (match b with | 0 => True | 1 => x = 0 ∨ x = 1 | _ => narrow .char (.int x) = .int x) ∧ P (some (.int x)) h | _ => False)
    | .areturn => (match st with | [.ref x] => (h.1.1 = lim.1 ∧ h.1.2.1 = lim.2) ∧ P (some (.ref x)) h | [.null] => (h.1.1 = lim.1 ∧ h.1.2.1 = lim.2) ∧ P (some .null) h | _ => False)
    | .return_ => (match st with | [] => (h.1.1 = lim.1 ∧ h.1.2.1 = lim.2) ∧ P none h | _ => False)
    | _ => False
/-- what the tables say of an entry -/
def okR (id pc : Nat) (c : CX) : Prop :=
  match c with
  | (i, len, a, b, v, cs, d) => match i with
    | .iload n | .aload n | .istore n | .astore n => n = a ∧ len = 2
    | .lload n | .lstore n => n = a ∧ len = 2
    | .lload_n n | .lstore_n n => (n : Nat) = a ∧ len = 1
    | .ldc2_w n => Cond.constantLong (mown id) n (Int64.ofNat a) ∈ allW ∧ len = 3
    | .lreturn => mret id = some .long ∧ len = 1
    | .iload_n n | .aload_n n | .istore_n n | .astore_n n => (n : Nat) = a ∧ len = 1
    | .iinc n m => n = a ∧ Int32.ofInt m = v ∧ len = 3
    | .iconst n => Int32.ofInt n = v ∧ len = 1
    | .bipush n => (Int8.ofInt n).toInt32 = v ∧ len = 2
    | .sipush n => (Int16.ofInt n).toInt32 = v ∧ len = 3
    | .ldc n => Cond.constant (mown id) n v ∈ allW ∧ len = 2
    | .goto off | .ifCond _ off | .if_icmp _ off | .ifnull off | .ifnonnull off | .if_acmp _ off => (pc : Int) + off = (a : Int) ∧ len = 3
    | .getfield idx => b < 6 ∧ a < nFl b ∧ Cond.fieldLink (mown id) idx (cNm b) (cT b a).2.1 (cT b a).2.2.1 ∈ allW ∧ ((d = [0] ∧ isRf b a = false) ∨ (d = [1] ∧ isRf b a = true)) ∧ len = 3
    | .putfield idx => b < 6 ∧ a < nFl b ∧ Cond.fieldLink (mown id) idx (cNm b) (cT b a).2.1 (cT b a).2.2.1 ∈ allW ∧ ((cT b a).2.2.2 = true → mini id = true ∧ cNm b = mown id) ∧ ((d = [0] ∧ cTy b a = .int) ∨ (d = [2] ∧ cTy b a = .boolean) ∨ (d = [1] ∧ ((∃ n, cTy b a = .object n) ∨ ∃ t, cTy b a = .array t))) ∧ len = 3
    | .getstatic idx => a < 3 ∧ Cond.fieldLink (mown id) idx "TaxiRank$Town" (stN a) "[I" ∈ allW ∧ len = 3
    | .new idx => a < 6 ∧ (Cond.classLink (mown id) idx (cNm a) ∈ allW ∧ Cond.instantiable (cNm a) (nFl a) ∈ allW ∧ Cond.initialized (cNm a) ∈ allW) ∧ len = 3
    | .newarray t => ((t = .int ∧ a = 7 ∧ Cond.arrayClass .int ∈ allW) ∨ (t = .char ∧ a = 8 ∧ Cond.arrayClass .char ∈ allW)) ∧ len = 2
    | .anewarray idx => ((a = 9 ∧ Cond.classLink (mown id) idx (cNm 3) ∈ allW) ∨ (a = 10 ∧ Cond.classLink (mown id) idx (cNm 4) ∈ allW)) ∧ len = 3
    | .invokevirtual idx => MOK a ∧ (Cond.methodLink (mown id) idx (mnm a) ∈ allW ∧ Cond.instanceMethod (mnm a) ∈ allW ∧ Cond.selects (mown a) (mnm a) (mnm a) ∈ allW) ∧ ((mrm a).frames + 1 ≤ (mrm id).frames ∧ 8 + (mmx a + 11) + (mrm a).locals ≤ (mrm id).locals) ∧ (mkd a < 6 ∧ cNm (mkd a) = mown a) ∧ b = mnp a ∧ d = [mkd a, (mrm a).cells, (mrm a).slots] ∧ ((mrm id).cells = 0 → (mrm a).cells = 0) ∧ len = 3
    | .invokestatic idx => ((a = 999 ∧ (Cond.methodLink (mown id) idx arraycopyName ∈ allW ∧ Cond.native arraycopyName ∈ allW ∧ Cond.static arraycopyName ∈ allW ∧ Cond.initialized "java/lang/System" ∈ allW) ∧ (1 ≤ (mrm id).frames ∧ 26 ≤ (mrm id).locals)) ∨ (a = 997 ∧ (Cond.methodLink (mown id) idx Lib.Math.abs.name ∈ allW ∧ Cond.static Lib.Math.abs.name ∈ allW ∧ Cond.initialized "java/lang/Math" ∈ allW ∧ Cond.code Lib.Math.abs.name Lib.Math.abs.code 1 (some .int) ∈ allW) ∧ (1 ≤ (mrm id).frames ∧ 21 ≤ (mrm id).locals)) ∨ (a ≠ 999 ∧ a ≠ 997 ∧ MOK a ∧ (Cond.methodLink (mown id) idx (mnm a) ∈ allW ∧ Cond.static (mnm a) ∈ allW) ∧ ((mrm a).frames + 1 ≤ (mrm id).frames ∧ 8 + (mmx a + 11) + (mrm a).locals ≤ (mrm id).locals) ∧ b = mnp a ∧ d = [mkd a, (mrm a).cells, (mrm a).slots] ∧ ((mrm id).cells = 0 → (mrm a).cells = 0))) ∧ len = 3
    | .invokespecial idx => ((a = 998 ∧ (Cond.methodLink (mown id) idx objectInit ∈ allW ∧ Cond.instanceMethod objectInit ∈ allW ∧ Cond.code objectInit ⟨#[0xb1]⟩ 1 none ∈ allW) ∧ (1 ≤ (mrm id).frames ∧ 12 ≤ (mrm id).locals)) ∨ (a ≠ 998 ∧ MOK a ∧ (mnm a).name = "<init>" ∧ mret a = none ∧ ((Cond.methodLink (mown id) idx (mnm a) ∈ allW ∨ (mown id = RX4 ∧ idx = 17 ∧ mnm a = yX3_init ∧ b = 0)) ∧ Cond.instanceMethod (mnm a) ∈ allW) ∧ ((mrm a).frames + 1 ≤ (mrm id).frames ∧ 8 + (mmx a + 11) + (mrm a).locals ≤ (mrm id).locals) ∧ b = mnp a ∧ d = [mkd a, (mrm a).cells, (mrm a).slots] ∧ ((mrm id).cells = 0 → (mrm a).cells = 0))) ∧ len = 3
    | .ireturn => ((b = 0 ∧ mret id = some .int) ∨ (b = 1 ∧ mret id = some .boolean) ∨ (b = 2 ∧ mret id = some .char)) ∧ len = 1
    | .areturn => (∃ n, mret id = some (.object n)) ∧ len = 1
    | .return_ => mret id = none ∧ len = 1
    | .lookupswitch dflt ps => (ps.toList.zip (ps.toList.drop 1)).all (fun (a, next) => a.1 < next.1) = true ∧ (pc : Int) + dflt = (a : Int) ∧ cs.map (fun q => (q.1.toInt, (q.2 : Int))) = ps.toList.map (fun q => (q.1, (pc : Int) + q.2))
    | .tableswitch dflt lo hi offs => (pc : Int) + dflt = (a : Int) ∧ cs.map (fun q => (q.1.toInt, (q.2 : Int))) = (List.range offs.size).map (fun (j : Nat) => (lo + (j : Int), (pc : Int) + (offs[j]?).getD 0)) ∧ hi + 1 = lo + (offs.size : Int)
    | _ => len = 1
def okI (id : Nat) (q : Nat × CX) : Prop := decode (mcc id) q.1 = .ok (q.2.1, q.2.2.1) ∧ okR id q.1 q.2
theorem okc {id : Nat} {q : Nat × CX} {l : List (Nat × CX)} (hd : decode (mcc id) q.1 = .ok (q.2.1, q.2.2.1)) (hr : okR id q.1 q.2) (hl : ∀ q ∈ l, okI id q) : ∀ x ∈ q :: l, okI id x := List.forall_mem_cons.mpr ⟨⟨hd, hr⟩, hl⟩
theorem okn {id : Nat} : ∀ x ∈ ([] : List (Nat × CX)), okI id x := fun _ h => absurd h List.not_mem_nil
