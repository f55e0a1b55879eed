-- begun from the kit's printed starting texts (SKELETON part A, NAMES)
-- ===== PART A: goes FIRST, ahead of the names: the tables' words, and 'selects' of the private methods out of them =====
/-- a private method of a class that the tables say can be made, by its rows of tables_1 -/
def lw_okq (q : MethodName × Nat) : Prop := (q.1.cls ≠ "java/lang/invoke/MethodHandle" ∧ q.1.cls ≠ "java/lang/invoke/VarHandle") ∧ Cond.instantiable q.1.cls q.2 ∈ tables_1 ∧ Cond.privateMethod q.1 ∈ tables_1 ∧ Cond.instanceMethod q.1 ∈ tables_1
theorem lw_p0 : lw_okq (⟨"TaxiRank", "recorded", "(I)I"⟩, 10) := ⟨⟨by decide +kernel, by decide +kernel⟩, List.mem_of_getElem? (i := 10) (by decide +kernel), List.mem_of_getElem? (i := 284) (by decide +kernel), List.mem_of_getElem? (i := 285) (by decide +kernel)⟩
theorem lw_p1 : lw_okq (⟨"TaxiRank$History", "dropOldest", "()V"⟩, 2) := ⟨⟨by decide +kernel, by decide +kernel⟩, List.mem_of_getElem? (i := 173) (by decide +kernel), List.mem_of_getElem? (i := 292) (by decide +kernel), List.mem_of_getElem? (i := 293) (by decide +kernel)⟩
theorem lw_p2 : lw_okq (⟨"TaxiRank$Town", "minute", "()V"⟩, 12) := ⟨⟨by decide +kernel, by decide +kernel⟩, List.mem_of_getElem? (i := 18) (by decide +kernel), List.mem_of_getElem? (i := 360) (by decide +kernel), List.mem_of_getElem? (i := 361) (by decide +kernel)⟩
theorem lw_p3 : lw_okq (⟨"TaxiRank$Town", "goOn", "(LTaxiRank$Taxi;)V"⟩, 12) := ⟨⟨by decide +kernel, by decide +kernel⟩, List.mem_of_getElem? (i := 18) (by decide +kernel), List.mem_of_getElem? (i := 364) (by decide +kernel), List.mem_of_getElem? (i := 365) (by decide +kernel)⟩
theorem lw_p4 : lw_okq (⟨"TaxiRank$Town", "startRide", "(LTaxiRank$Taxi;)V"⟩, 12) := ⟨⟨by decide +kernel, by decide +kernel⟩, List.mem_of_getElem? (i := 18) (by decide +kernel), List.mem_of_getElem? (i := 372) (by decide +kernel), List.mem_of_getElem? (i := 373) (by decide +kernel)⟩
theorem lw_p5 : lw_okq (⟨"TaxiRank$Town", "payFare", "(LTaxiRank$Taxi;)V"⟩, 12) := ⟨⟨by decide +kernel, by decide +kernel⟩, List.mem_of_getElem? (i := 18) (by decide +kernel), List.mem_of_getElem? (i := 383) (by decide +kernel), List.mem_of_getElem? (i := 384) (by decide +kernel)⟩
theorem lw_p6 : lw_okq (⟨"TaxiRank$Town", "comeBack", "(LTaxiRank$Taxi;)V"⟩, 12) := ⟨⟨by decide +kernel, by decide +kernel⟩, List.mem_of_getElem? (i := 18) (by decide +kernel), List.mem_of_getElem? (i := 390) (by decide +kernel), List.mem_of_getElem? (i := 391) (by decide +kernel)⟩
theorem lw_p7 : lw_okq (⟨"TaxiRank$Town", "standQuickly", "(LTaxiRank$Taxi;)V"⟩, 12) := ⟨⟨by decide +kernel, by decide +kernel⟩, List.mem_of_getElem? (i := 18) (by decide +kernel), List.mem_of_getElem? (i := 394) (by decide +kernel), List.mem_of_getElem? (i := 395) (by decide +kernel)⟩
theorem lw_p8 : lw_okq (⟨"TaxiRank$Town", "standAt", "(LTaxiRank$Taxi;IZ)V"⟩, 12) := ⟨⟨by decide +kernel, by decide +kernel⟩, List.mem_of_getElem? (i := 18) (by decide +kernel), List.mem_of_getElem? (i := 399) (by decide +kernel), List.mem_of_getElem? (i := 400) (by decide +kernel)⟩
theorem lw_p9 : lw_okq (⟨"TaxiRank$Town", "standLast", "(LTaxiRank$Taxi;)V"⟩, 12) := ⟨⟨by decide +kernel, by decide +kernel⟩, List.mem_of_getElem? (i := 18) (by decide +kernel), List.mem_of_getElem? (i := 403) (by decide +kernel), List.mem_of_getElem? (i := 404) (by decide +kernel)⟩
theorem lw_p10 : lw_okq (⟨"TaxiRank$Town", "dismissImpatient", "()V"⟩, 12) := ⟨⟨by decide +kernel, by decide +kernel⟩, List.mem_of_getElem? (i := 18) (by decide +kernel), List.mem_of_getElem? (i := 407) (by decide +kernel), List.mem_of_getElem? (i := 408) (by decide +kernel)⟩
theorem lw_p11 : lw_okq (⟨"TaxiRank$Town", "seatPassengers", "()V"⟩, 12) := ⟨⟨by decide +kernel, by decide +kernel⟩, List.mem_of_getElem? (i := 18) (by decide +kernel), List.mem_of_getElem? (i := 415) (by decide +kernel), List.mem_of_getElem? (i := 416) (by decide +kernel)⟩
theorem lw_p12 : lw_okq (⟨"TaxiRank$Town", "acceptFare", "(LTaxiRank$Taxi;II)V"⟩, 12) := ⟨⟨by decide +kernel, by decide +kernel⟩, List.mem_of_getElem? (i := 18) (by decide +kernel), List.mem_of_getElem? (i := 428) (by decide +kernel), List.mem_of_getElem? (i := 429) (by decide +kernel)⟩
theorem lw_p13 : lw_okq (⟨"TaxiRank$Town", "leaveLine", "(LTaxiRank$Taxi;)V"⟩, 12) := ⟨⟨by decide +kernel, by decide +kernel⟩, List.mem_of_getElem? (i := 18) (by decide +kernel), List.mem_of_getElem? (i := 432) (by decide +kernel), List.mem_of_getElem? (i := 433) (by decide +kernel)⟩
theorem lw_p14 : lw_okq (⟨"TaxiRank$Town", "register", "(I)LTaxiRank$Taxi;"⟩, 12) := ⟨⟨by decide +kernel, by decide +kernel⟩, List.mem_of_getElem? (i := 18) (by decide +kernel), List.mem_of_getElem? (i := 455) (by decide +kernel), List.mem_of_getElem? (i := 456) (by decide +kernel)⟩
theorem lw_p15 : lw_okq (⟨"TaxiRank$Town", "nearer", "(LTaxiRank$Taxi;LTaxiRank$Taxi;I)LTaxiRank$Taxi;"⟩, 12) := ⟨⟨by decide +kernel, by decide +kernel⟩, List.mem_of_getElem? (i := 18) (by decide +kernel), List.mem_of_getElem? (i := 507) (by decide +kernel), List.mem_of_getElem? (i := 508) (by decide +kernel)⟩
def lw_privs_1 : List (MethodName × Nat) := [(⟨"TaxiRank", "recorded", "(I)I"⟩, 10), (⟨"TaxiRank$History", "dropOldest", "()V"⟩, 2), (⟨"TaxiRank$Town", "minute", "()V"⟩, 12), (⟨"TaxiRank$Town", "goOn", "(LTaxiRank$Taxi;)V"⟩, 12), (⟨"TaxiRank$Town", "startRide", "(LTaxiRank$Taxi;)V"⟩, 12), (⟨"TaxiRank$Town", "payFare", "(LTaxiRank$Taxi;)V"⟩, 12), (⟨"TaxiRank$Town", "comeBack", "(LTaxiRank$Taxi;)V"⟩, 12), (⟨"TaxiRank$Town", "standQuickly", "(LTaxiRank$Taxi;)V"⟩, 12), (⟨"TaxiRank$Town", "standAt", "(LTaxiRank$Taxi;IZ)V"⟩, 12), (⟨"TaxiRank$Town", "standLast", "(LTaxiRank$Taxi;)V"⟩, 12), (⟨"TaxiRank$Town", "dismissImpatient", "()V"⟩, 12), (⟨"TaxiRank$Town", "seatPassengers", "()V"⟩, 12), (⟨"TaxiRank$Town", "acceptFare", "(LTaxiRank$Taxi;II)V"⟩, 12), (⟨"TaxiRank$Town", "leaveLine", "(LTaxiRank$Taxi;)V"⟩, 12), (⟨"TaxiRank$Town", "register", "(I)LTaxiRank$Taxi;"⟩, 12), (⟨"TaxiRank$Town", "nearer", "(LTaxiRank$Taxi;LTaxiRank$Taxi;I)LTaxiRank$Taxi;"⟩, 12)]
theorem lw_r1 : ∀ q ∈ lw_privs_1, lw_okq q := List.forall_mem_cons.mpr ⟨lw_p0, List.forall_mem_cons.mpr ⟨lw_p1, List.forall_mem_cons.mpr ⟨lw_p2, List.forall_mem_cons.mpr ⟨lw_p3, List.forall_mem_cons.mpr ⟨lw_p4, List.forall_mem_cons.mpr ⟨lw_p5, List.forall_mem_cons.mpr ⟨lw_p6, List.forall_mem_cons.mpr ⟨lw_p7, List.forall_mem_cons.mpr ⟨lw_p8, List.forall_mem_cons.mpr ⟨lw_p9, List.forall_mem_cons.mpr ⟨lw_p10, List.forall_mem_cons.mpr ⟨lw_p11, List.forall_mem_cons.mpr ⟨lw_p12, List.forall_mem_cons.mpr ⟨lw_p13, List.forall_mem_cons.mpr ⟨lw_p14, List.forall_mem_cons.mpr ⟨lw_p15, fun _ h => absurd h List.not_mem_nil⟩⟩⟩⟩⟩⟩⟩⟩⟩⟩⟩⟩⟩⟩⟩⟩
theorem lw_p16 : lw_okq (⟨"TaxiRank$Orders", "readOrder", "()Z"⟩, 7) := ⟨⟨by decide +kernel, by decide +kernel⟩, List.mem_of_getElem? (i := 190) (by decide +kernel), List.mem_of_getElem? (i := 571) (by decide +kernel), List.mem_of_getElem? (i := 572) (by decide +kernel)⟩
theorem lw_p17 : lw_okq (⟨"TaxiRank$Orders", "here", "()C"⟩, 7) := ⟨⟨by decide +kernel, by decide +kernel⟩, List.mem_of_getElem? (i := 190) (by decide +kernel), List.mem_of_getElem? (i := 575) (by decide +kernel), List.mem_of_getElem? (i := 576) (by decide +kernel)⟩
theorem lw_p18 : lw_okq (⟨"TaxiRank$Orders", "readNumber", "(II)I"⟩, 7) := ⟨⟨by decide +kernel, by decide +kernel⟩, List.mem_of_getElem? (i := 190) (by decide +kernel), List.mem_of_getElem? (i := 579) (by decide +kernel), List.mem_of_getElem? (i := 580) (by decide +kernel)⟩
theorem lw_p19 : lw_okq (⟨"TaxiRank$Orders", "digitHere", "()I"⟩, 7) := ⟨⟨by decide +kernel, by decide +kernel⟩, List.mem_of_getElem? (i := 190) (by decide +kernel), List.mem_of_getElem? (i := 583) (by decide +kernel), List.mem_of_getElem? (i := 584) (by decide +kernel)⟩
theorem lw_p20 : lw_okq (⟨"TaxiRank$Orders", "note", "(CII)V"⟩, 7) := ⟨⟨by decide +kernel, by decide +kernel⟩, List.mem_of_getElem? (i := 190) (by decide +kernel), List.mem_of_getElem? (i := 587) (by decide +kernel), List.mem_of_getElem? (i := 588) (by decide +kernel)⟩
def lw_privs_2 : List (MethodName × Nat) := [(⟨"TaxiRank$Orders", "readOrder", "()Z"⟩, 7), (⟨"TaxiRank$Orders", "here", "()C"⟩, 7), (⟨"TaxiRank$Orders", "readNumber", "(II)I"⟩, 7), (⟨"TaxiRank$Orders", "digitHere", "()I"⟩, 7), (⟨"TaxiRank$Orders", "note", "(CII)V"⟩, 7)]
theorem lw_r2 : ∀ q ∈ lw_privs_2, lw_okq q := List.forall_mem_cons.mpr ⟨lw_p16, List.forall_mem_cons.mpr ⟨lw_p17, List.forall_mem_cons.mpr ⟨lw_p18, List.forall_mem_cons.mpr ⟨lw_p19, List.forall_mem_cons.mpr ⟨lw_p20, fun _ h => absurd h List.not_mem_nil⟩⟩⟩⟩⟩
def lw_privs : List (MethodName × Nat) := lw_privs_1 ++ (lw_privs_2)
def lw_tbl : List Cond := k2_sels lw_privs ++ tables_1
theorem lw_privs_ok : ∀ q ∈ lw_privs, lw_okq q := by
  show ∀ q ∈ lw_privs_1 ++ (lw_privs_2), lw_okq q
  exact List.forall_mem_append.mpr ⟨lw_r1, lw_r2⟩

def RX0 : String := "TaxiRank$History"
def TX0 : u_T := fun k => match k with
  | 0 => ("TaxiRank$History", "states", "[LTaxiRank$Town;", true)
  | _ => ("TaxiRank$History", "amount", "I", false)
def tyX0 : Nat → FieldType := fun k => match k with
  | 0 => .array (.object "TaxiRank$Town")
  | _ => .int
abbrev wsX00 : List Cond := u_ws RX0 TX0 2
theorem nmX0 : ∀ a, a < 2 → ∀ b, b < 2 → a ≠ b → (TX0 a).2.1 ≠ (TX0 b).2.1 := by decide +kernel
theorem tyX0_ok : ∀ k, k < 2 → parseFieldDescriptor (TX0 k).2.2.1 = some (tyX0 k) := by decide +kernel
abbrev cX0_init : ByteArray := prog_2_method_1_code
def yX0_init : MethodName := ⟨RX0, "<init>", "()V"⟩
abbrev cX0_store : ByteArray := prog_2_method_2_code
def yX0_store : MethodName := ⟨RX0, "store", "(LTaxiRank$Town;)V"⟩
abbrev cX0_takeLatest : ByteArray := prog_2_method_3_code
def yX0_takeLatest : MethodName := ⟨RX0, "takeLatest", "(LTaxiRank$Town;)V"⟩
abbrev cX0_dropOldest : ByteArray := prog_2_method_4_code
def yX0_dropOldest : MethodName := ⟨RX0, "dropOldest", "()V"⟩
def RX1 : String := "TaxiRank$Orders"
def TX1 : u_T := fun k => match k with
  | 0 => ("TaxiRank$Orders", "amount", "I", false)
  | 1 => ("TaxiRank$Orders", "signs", "[C", true)
  | 2 => ("TaxiRank$Orders", "firsts", "[I", true)
  | 3 => ("TaxiRank$Orders", "seconds", "[I", true)
  | 4 => ("TaxiRank$Orders", "characters", "[C", false)
  | 5 => ("TaxiRank$Orders", "length", "I", false)
  | _ => ("TaxiRank$Orders", "at", "I", false)
def tyX1 : Nat → FieldType := fun k => match k with
  | 0 => .int
  | 1 => .array .char
  | 2 => .array .int
  | 3 => .array .int
  | 4 => .array .char
  | 5 => .int
  | _ => .int
abbrev wsX10 : List Cond := u_ws RX1 TX1 7
theorem nmX1 : ∀ a, a < 7 → ∀ b, b < 7 → a ≠ b → (TX1 a).2.1 ≠ (TX1 b).2.1 := by decide +kernel
theorem tyX1_ok : ∀ k, k < 7 → parseFieldDescriptor (TX1 k).2.2.1 = some (tyX1 k) := by decide +kernel
abbrev cX1_init : ByteArray := prog_3_method_1_code
def yX1_init : MethodName := ⟨RX1, "<init>", "()V"⟩
abbrev cX1_read : ByteArray := prog_3_method_2_code
def yX1_read : MethodName := ⟨RX1, "read", "([CI)I"⟩
abbrev cX1_readOrder : ByteArray := prog_3_method_3_code
def yX1_readOrder : MethodName := ⟨RX1, "readOrder", "()Z"⟩
abbrev cX1_readNumber : ByteArray := prog_3_method_4_code
def yX1_readNumber : MethodName := ⟨RX1, "readNumber", "(II)I"⟩
abbrev cX1_digitHere : ByteArray := prog_3_method_5_code
def yX1_digitHere : MethodName := ⟨RX1, "digitHere", "()I"⟩
abbrev cX1_here : ByteArray := prog_3_method_6_code
def yX1_here : MethodName := ⟨RX1, "here", "()C"⟩
abbrev cX1_note : ByteArray := prog_3_method_7_code
def yX1_note : MethodName := ⟨RX1, "note", "(CII)V"⟩
def RX2 : String := "TaxiRank$Queue"
def TX2 : u_T := fun k => match k with
  | 0 => ("TaxiRank$Queue", "length", "I", false)
  | 1 => ("TaxiRank$Queue", "wants", "[I", true)
  | 2 => ("TaxiRank$Queue", "came", "[I", true)
  | 3 => ("TaxiRank$Queue", "numbers", "[I", true)
  | _ => ("TaxiRank$Queue", "nextNumber", "I", false)
def tyX2 : Nat → FieldType := fun k => match k with
  | 0 => .int
  | 1 => .array .int
  | 2 => .array .int
  | 3 => .array .int
  | _ => .int
abbrev wsX20 : List Cond := u_ws RX2 TX2 5
theorem nmX2 : ∀ a, a < 5 → ∀ b, b < 5 → a ≠ b → (TX2 a).2.1 ≠ (TX2 b).2.1 := by decide +kernel
theorem tyX2_ok : ∀ k, k < 5 → parseFieldDescriptor (TX2 k).2.2.1 = some (tyX2 k) := by decide +kernel
abbrev cX2_init : ByteArray := prog_4_method_1_code
def yX2_init : MethodName := ⟨RX2, "<init>", "()V"⟩
abbrev cX2_copyFrom : ByteArray := prog_4_method_2_code
def yX2_copyFrom : MethodName := ⟨RX2, "copyFrom", "(LTaxiRank$Queue;)V"⟩
abbrev cX2_join : ByteArray := prog_4_method_3_code
def yX2_join : MethodName := ⟨RX2, "join", "(II)V"⟩
abbrev cX2_removeAt : ByteArray := prog_4_method_4_code
def yX2_removeAt : MethodName := ⟨RX2, "removeAt", "(I)V"⟩
abbrev cX2_holds : ByteArray := prog_4_method_5_code
def yX2_holds : MethodName := ⟨RX2, "holds", "(I)Z"⟩
def RX3 : String := "TaxiRank$Taxi"
def TX3 : u_T := fun k => match k with
  | 0 => ("TaxiRank$Taxi", "plate", "I", false)
  | 1 => ("TaxiRank$Taxi", "doing", "I", false)
  | 2 => ("TaxiRank$Taxi", "left", "I", false)
  | 3 => ("TaxiRank$Taxi", "atWheel", "I", false)
  | 4 => ("TaxiRank$Taxi", "fares", "I", false)
  | 5 => ("TaxiRank$Taxi", "longFares", "I", false)
  | 6 => ("TaxiRank$Taxi", "coins", "I", false)
  | 7 => ("TaxiRank$Taxi", "quickReturns", "I", false)
  | 8 => ("TaxiRank$Taxi", "quick", "Z", false)
  | 9 => ("TaxiRank$Taxi", "shortOfRank", "Z", false)
  | 10 => ("TaxiRank$Taxi", "from", "I", false)
  | _ => ("TaxiRank$Taxi", "to", "I", false)
def tyX3 : Nat → FieldType := fun k => match k with
  | 0 => .int
  | 1 => .int
  | 2 => .int
  | 3 => .int
  | 4 => .int
  | 5 => .int
  | 6 => .int
  | 7 => .int
  | 8 => .boolean
  | 9 => .boolean
  | 10 => .int
  | _ => .int
abbrev wsX30 : List Cond := u_ws RX3 TX3 12
theorem nmX3 : ∀ a, a < 12 → ∀ b, b < 12 → a ≠ b → (TX3 a).2.1 ≠ (TX3 b).2.1 := by decide +kernel
theorem tyX3_ok : ∀ k, k < 12 → parseFieldDescriptor (TX3 k).2.2.1 = some (tyX3 k) := by decide +kernel
abbrev cX3_init : ByteArray := prog_5_method_1_code
def yX3_init : MethodName := ⟨RX3, "<init>", "()V"⟩
abbrev cX3_copyFrom : ByteArray := prog_5_method_2_code
def yX3_copyFrom : MethodName := ⟨RX3, "copyFrom", "(LTaxiRank$Taxi;)V"⟩
abbrev cX3_isAtWheel : ByteArray := prog_5_method_3_code
def yX3_isAtWheel : MethodName := ⟨RX3, "isAtWheel", "()Z"⟩
abbrev cX3_begin : ByteArray := prog_5_method_4_code
def yX3_begin : MethodName := ⟨RX3, "begin", "(II)V"⟩
def RX4 : String := "TaxiRank$Town"
def TX4 : u_T := fun k => match k with
  | 0 => ("TaxiRank$Town", "taxis", "[LTaxiRank$Taxi;", true)
  | 1 => ("TaxiRank$Town", "taxiCount", "I", false)
  | 2 => ("TaxiRank$Town", "inLine", "[I", true)
  | 3 => ("TaxiRank$Town", "lineLength", "I", false)
  | 4 => ("TaxiRank$Town", "queue", "LTaxiRank$Queue;", true)
  | 5 => ("TaxiRank$Town", "settings", "[I", true)
  | 6 => ("TaxiRank$Town", "clock", "I", false)
  | 7 => ("TaxiRank$Town", "taken", "I", false)
  | 8 => ("TaxiRank$Town", "gone", "I", false)
  | 9 => ("TaxiRank$Town", "calls", "I", false)
  | 10 => ("TaxiRank$Town", "paid", "I", false)
  | _ => ("TaxiRank$Town", "minutesAtWheel", "I", false)
def tyX4 : Nat → FieldType := fun k => match k with
  | 0 => .array (.object "TaxiRank$Taxi")
  | 1 => .int
  | 2 => .array .int
  | 3 => .int
  | 4 => .object "TaxiRank$Queue"
  | 5 => .array .int
  | 6 => .int
  | 7 => .int
  | 8 => .int
  | 9 => .int
  | 10 => .int
  | _ => .int
abbrev wsX40 : List Cond := u_ws RX4 TX4 12
theorem nmX4 : ∀ a, a < 12 → ∀ b, b < 12 → a ≠ b → (TX4 a).2.1 ≠ (TX4 b).2.1 := by decide +kernel
theorem tyX4_ok : ∀ k, k < 12 → parseFieldDescriptor (TX4 k).2.2.1 = some (tyX4 k) := by decide +kernel
abbrev cX4_init : ByteArray := prog_6_method_1_code
def yX4_init : MethodName := ⟨RX4, "<init>", "()V"⟩
abbrev cX4_copyFrom : ByteArray := prog_6_method_2_code
def yX4_copyFrom : MethodName := ⟨RX4, "copyFrom", "(LTaxiRank$Town;)V"⟩
abbrev cX4_isPlace : ByteArray := prog_6_method_3_code
def yX4_isPlace : MethodName := ⟨RX4, "isPlace", "(I)Z"⟩
abbrev cX4_isSetting : ByteArray := prog_6_method_4_code
def yX4_isSetting : MethodName := ⟨RX4, "isSetting", "(I)Z"⟩
abbrev cX4_fareFor : ByteArray := prog_6_method_5_code
def yX4_fareFor : MethodName := ⟨RX4, "fareFor", "(II)I"⟩
abbrev cX4_welcome : ByteArray := prog_6_method_6_code
def yX4_welcome : MethodName := ⟨RX4, "welcome", "(I)I"⟩
abbrev cX4_sendHome : ByteArray := prog_6_method_7_code
def yX4_sendHome : MethodName := ⟨RX4, "sendHome", "(I)I"⟩
abbrev cX4_change : ByteArray := prog_6_method_8_code
def yX4_change : MethodName := ⟨RX4, "change", "(II)I"⟩
abbrev cX4_letJoin : ByteArray := prog_6_method_9_code
def yX4_letJoin : MethodName := ⟨RX4, "letJoin", "(I)I"⟩
abbrev cX4_takeCall : ByteArray := prog_6_method_10_code
def yX4_takeCall : MethodName := ⟨RX4, "takeCall", "(II)I"⟩
abbrev cX4_letPass : ByteArray := prog_6_method_11_code
def yX4_letPass : MethodName := ⟨RX4, "letPass", "(I)I"⟩
abbrev cX4_find : ByteArray := prog_6_method_12_code
def yX4_find : MethodName := ⟨RX4, "find", "(I)LTaxiRank$Taxi;"⟩
abbrev cX4_placeOf : ByteArray := prog_6_method_13_code
def yX4_placeOf : MethodName := ⟨RX4, "placeOf", "(LTaxiRank$Taxi;)I"⟩
abbrev cX4_staysHomeToday : ByteArray := prog_6_method_14_code
def yX4_staysHomeToday : MethodName := ⟨RX4, "staysHomeToday", "(LTaxiRank$Taxi;)Z"⟩
abbrev cX4_wasLongAtWheel : ByteArray := prog_6_method_15_code
def yX4_wasLongAtWheel : MethodName := ⟨RX4, "wasLongAtWheel", "(LTaxiRank$Taxi;)Z"⟩
abbrev cX4_mayTakeFare : ByteArray := prog_6_method_16_code
def yX4_mayTakeFare : MethodName := ⟨RX4, "mayTakeFare", "(LTaxiRank$Taxi;)Z"⟩
abbrev cX4_isLong : ByteArray := prog_6_method_17_code
def yX4_isLong : MethodName := ⟨RX4, "isLong", "(II)Z"⟩
abbrev cX4_taxiForRide : ByteArray := prog_6_method_18_code
def yX4_taxiForRide : MethodName := ⟨RX4, "taxiForRide", "(I)LTaxiRank$Taxi;"⟩
abbrev cX4_taxiForCall : ByteArray := prog_6_method_19_code
def yX4_taxiForCall : MethodName := ⟨RX4, "taxiForCall", "(I)LTaxiRank$Taxi;"⟩
abbrev cX4_nearer : ByteArray := prog_6_method_20_code
def yX4_nearer : MethodName := ⟨RX4, "nearer", "(LTaxiRank$Taxi;LTaxiRank$Taxi;I)LTaxiRank$Taxi;"⟩
abbrev cX4_minutesTo : ByteArray := prog_6_method_21_code
def yX4_minutesTo : MethodName := ⟨RX4, "minutesTo", "(LTaxiRank$Taxi;I)I"⟩
abbrev cX4_minutesUntilRide : ByteArray := prog_6_method_22_code
def yX4_minutesUntilRide : MethodName := ⟨RX4, "minutesUntilRide", "(I)I"⟩
abbrev cX4_minutesUntilInLine : ByteArray := prog_6_method_23_code
def yX4_minutesUntilInLine : MethodName := ⟨RX4, "minutesUntilInLine", "(LTaxiRank$Taxi;)I"⟩
abbrev cX4_minute : ByteArray := prog_6_method_24_code
def yX4_minute : MethodName := ⟨RX4, "minute", "()V"⟩
abbrev cX4_goOn : ByteArray := prog_6_method_25_code
def yX4_goOn : MethodName := ⟨RX4, "goOn", "(LTaxiRank$Taxi;)V"⟩
abbrev cX4_dismissImpatient : ByteArray := prog_6_method_26_code
def yX4_dismissImpatient : MethodName := ⟨RX4, "dismissImpatient", "()V"⟩
abbrev cX4_seatPassengers : ByteArray := prog_6_method_27_code
def yX4_seatPassengers : MethodName := ⟨RX4, "seatPassengers", "()V"⟩
abbrev cX4_acceptFare : ByteArray := prog_6_method_28_code
def yX4_acceptFare : MethodName := ⟨RX4, "acceptFare", "(LTaxiRank$Taxi;II)V"⟩
abbrev cX4_startRide : ByteArray := prog_6_method_29_code
def yX4_startRide : MethodName := ⟨RX4, "startRide", "(LTaxiRank$Taxi;)V"⟩
abbrev cX4_payFare : ByteArray := prog_6_method_30_code
def yX4_payFare : MethodName := ⟨RX4, "payFare", "(LTaxiRank$Taxi;)V"⟩
abbrev cX4_comeBack : ByteArray := prog_6_method_31_code
def yX4_comeBack : MethodName := ⟨RX4, "comeBack", "(LTaxiRank$Taxi;)V"⟩
abbrev cX4_standLast : ByteArray := prog_6_method_32_code
def yX4_standLast : MethodName := ⟨RX4, "standLast", "(LTaxiRank$Taxi;)V"⟩
abbrev cX4_standQuickly : ByteArray := prog_6_method_33_code
def yX4_standQuickly : MethodName := ⟨RX4, "standQuickly", "(LTaxiRank$Taxi;)V"⟩
abbrev cX4_standAt : ByteArray := prog_6_method_34_code
def yX4_standAt : MethodName := ⟨RX4, "standAt", "(LTaxiRank$Taxi;IZ)V"⟩
abbrev cX4_leaveLine : ByteArray := prog_6_method_35_code
def yX4_leaveLine : MethodName := ⟨RX4, "leaveLine", "(LTaxiRank$Taxi;)V"⟩
abbrev cX4_register : ByteArray := prog_6_method_36_code
def yX4_register : MethodName := ⟨RX4, "register", "(I)LTaxiRank$Taxi;"⟩
def RX5 : String := "TaxiRank"
def TX5 : u_T := fun k => match k with
  | 0 => ("TaxiRank", "town", "LTaxiRank$Town;", true)
  | 1 => ("TaxiRank", "spare", "LTaxiRank$Town;", true)
  | 2 => ("TaxiRank", "snapshot", "LTaxiRank$Town;", true)
  | 3 => ("TaxiRank", "hasSnapshot", "Z", false)
  | 4 => ("TaxiRank", "history", "LTaxiRank$History;", true)
  | 5 => ("TaxiRank", "text", "[C", true)
  | 6 => ("TaxiRank", "textLength", "I", false)
  | 7 => ("TaxiRank", "orders", "LTaxiRank$Orders;", true)
  | 8 => ("TaxiRank", "stoppedOrder", "I", false)
  | _ => ("TaxiRank", "stoppedError", "I", false)
def tyX5 : Nat → FieldType := fun k => match k with
  | 0 => .object "TaxiRank$Town"
  | 1 => .object "TaxiRank$Town"
  | 2 => .object "TaxiRank$Town"
  | 3 => .boolean
  | 4 => .object "TaxiRank$History"
  | 5 => .array .char
  | 6 => .int
  | 7 => .object "TaxiRank$Orders"
  | 8 => .int
  | _ => .int
abbrev wsX50 : List Cond := u_ws RX5 TX5 10
theorem nmX5 : ∀ a, a < 10 → ∀ b, b < 10 → a ≠ b → (TX5 a).2.1 ≠ (TX5 b).2.1 := by decide +kernel
theorem tyX5_ok : ∀ k, k < 10 → parseFieldDescriptor (TX5 k).2.2.1 = some (tyX5 k) := by decide +kernel
abbrev cX5_init : ByteArray := prog_1_method_1_code
def yX5_init : MethodName := ⟨RX5, "<init>", "()V"⟩
abbrev cX5_come : ByteArray := prog_1_method_2_code
def yX5_come : MethodName := ⟨RX5, "come", "(I)I"⟩
abbrev cX5_goHome : ByteArray := prog_1_method_3_code
def yX5_goHome : MethodName := ⟨RX5, "goHome", "(I)I"⟩
abbrev cX5_set : ByteArray := prog_1_method_4_code
def yX5_set : MethodName := ⟨RX5, "set", "(II)I"⟩
abbrev cX5_arrive : ByteArray := prog_1_method_5_code
def yX5_arrive : MethodName := ⟨RX5, "arrive", "(I)I"⟩
abbrev cX5_call : ByteArray := prog_1_method_6_code
def yX5_call : MethodName := ⟨RX5, "call", "(II)I"⟩
abbrev cX5_pass : ByteArray := prog_1_method_7_code
def yX5_pass : MethodName := ⟨RX5, "pass", "(I)I"⟩
abbrev cX5_clearText : ByteArray := prog_1_method_9_code
def yX5_clearText : MethodName := ⟨RX5, "clearText", "()I"⟩
abbrev cX5_perform : ByteArray := prog_1_method_10_code
def yX5_perform : MethodName := ⟨RX5, "perform", "()I"⟩
abbrev cX5_stopped : ByteArray := prog_1_method_11_code
def yX5_stopped : MethodName := ⟨RX5, "stopped", "(I)I"⟩
abbrev cX5_undo : ByteArray := prog_1_method_12_code
def yX5_undo : MethodName := ⟨RX5, "undo", "()I"⟩
abbrev cX5_keep : ByteArray := prog_1_method_13_code
def yX5_keep : MethodName := ⟨RX5, "keep", "()I"⟩
abbrev cX5_restore : ByteArray := prog_1_method_14_code
def yX5_restore : MethodName := ⟨RX5, "restore", "()I"⟩
abbrev cX5_taxi : ByteArray := prog_1_method_15_code
def yX5_taxi : MethodName := ⟨RX5, "taxi", "(II)I"⟩
abbrev cX5_line : ByteArray := prog_1_method_16_code
def yX5_line : MethodName := ⟨RX5, "line", "(I)I"⟩
abbrev cX5_plate : ByteArray := prog_1_method_17_code
def yX5_plate : MethodName := ⟨RX5, "plate", "(I)I"⟩
abbrev cX5_waiting : ByteArray := prog_1_method_18_code
def yX5_waiting : MethodName := ⟨RX5, "waiting", "(II)I"⟩
abbrev cX5_rides : ByteArray := prog_1_method_19_code
def yX5_rides : MethodName := ⟨RX5, "rides", "(I)I"⟩
abbrev cX5_ifCalled : ByteArray := prog_1_method_20_code
def yX5_ifCalled : MethodName := ⟨RX5, "ifCalled", "(III)I"⟩
abbrev cX5_reason : ByteArray := prog_1_method_21_code
def yX5_reason : MethodName := ⟨RX5, "reason", "(II)I"⟩
abbrev cX5_ridesIn : ByteArray := prog_1_method_22_code
def yX5_ridesIn : MethodName := ⟨RX5, "ridesIn", "(I)I"⟩
abbrev cX5_inLineIn : ByteArray := prog_1_method_23_code
def yX5_inLineIn : MethodName := ⟨RX5, "inLineIn", "(I)I"⟩
abbrev cX5_shares : ByteArray := prog_1_method_24_code
def yX5_shares : MethodName := ⟨RX5, "shares", "(I)I"⟩
abbrev cX5_count : ByteArray := prog_1_method_25_code
def yX5_count : MethodName := ⟨RX5, "count", "(I)I"⟩
abbrev cX5_recorded : ByteArray := prog_1_method_26_code
def yX5_recorded : MethodName := ⟨RX5, "recorded", "(I)I"⟩
def RX6 : String := "TaxiRankModel"
def TX6 : u_T := fun k => match k with
  | _ => ("", "", "", false)
def tyX6 : Nat → FieldType := fun k => match k with
  | _ => .int
abbrev wsX60 : List Cond := u_ws RX6 TX6 0
theorem nmX6 : ∀ a, a < 0 → ∀ b, b < 0 → a ≠ b → (TX6 a).2.1 ≠ (TX6 b).2.1 := by decide +kernel
theorem tyX6_ok : ∀ k, k < 0 → parseFieldDescriptor (TX6 k).2.2.1 = some (tyX6 k) := by decide +kernel
def RJ9 : String := "java/lang/Math"
def TJ9 : u_T := fun k => match k with
  | _ => ("", "", "", false)
def tyJ9 : Nat → FieldType := fun k => match k with
  | _ => .int
abbrev wsJ90 : List Cond := u_ws RJ9 TJ9 0
theorem nmJ9 : ∀ a, a < 0 → ∀ b, b < 0 → a ≠ b → (TJ9 a).2.1 ≠ (TJ9 b).2.1 := by decide +kernel
theorem tyJ9_ok : ∀ k, k < 0 → parseFieldDescriptor (TJ9 k).2.2.1 = some (tyJ9 k) := by decide +kernel
abbrev cJ9_abs_0f7a4 : ByteArray := prog_9_method_59_code
def yJ9_abs_0f7a4 : MethodName := ⟨RJ9, "abs", "(I)I"⟩
def RJ10 : String := "java/lang/System"
def TJ10 : u_T := fun k => match k with
  | _ => ("", "", "", false)
def tyJ10 : Nat → FieldType := fun k => match k with
  | _ => .int
abbrev wsJ100 : List Cond := u_ws RJ10 TJ10 0
theorem nmJ10 : ∀ a, a < 0 → ∀ b, b < 0 → a ≠ b → (TJ10 a).2.1 ≠ (TJ10 b).2.1 := by decide +kernel
theorem tyJ10_ok : ∀ k, k < 0 → parseFieldDescriptor (TJ10 k).2.2.1 = some (tyJ10 k) := by decide +kernel
def RL : String := "TaxiRankLaw"
abbrev cL_cell : ByteArray := method_2_code
def yL_cell : MethodName := ⟨RL, "cell", "([II)I"⟩
abbrev cL_seen : ByteArray := method_3_code
def yL_seen : MethodName := ⟨RL, "seen", "(LTaxiRank;)J"⟩
abbrev cL_isWhole : ByteArray := method_4_code
def yL_isWhole : MethodName := ⟨RL, "isWhole", "(LTaxiRank;)Z"⟩
abbrev cL_refusesAny : ByteArray := method_5_code
def yL_refusesAny : MethodName := ⟨RL, "refusesAny", "(LTaxiRank;I)Z"⟩
abbrev cL_refuses : ByteArray := method_6_code
def yL_refuses : MethodName := ⟨RL, "refuses", "(LTaxiRank;I)Z"⟩
abbrev cL_come : ByteArray := method_7_code
def yL_come : MethodName := ⟨RL, "come", "(LTaxiRank;I)I"⟩
abbrev cL_goHome : ByteArray := method_8_code
def yL_goHome : MethodName := ⟨RL, "goHome", "(LTaxiRank;I)I"⟩
abbrev cL_call : ByteArray := method_9_code
def yL_call : MethodName := ⟨RL, "call", "(LTaxiRank;II)I"⟩
abbrev cL_minute : ByteArray := method_10_code
def yL_minute : MethodName := ⟨RL, "minute", "(LTaxiRank;)I"⟩
abbrev cL_act : ByteArray := method_11_code
def yL_act : MethodName := ⟨RL, "act", "(LTaxiRank;I)I"⟩
abbrev cL_law : ByteArray := code
def yL_law : MethodName := ⟨RL, "law", "([I)Z"⟩
abbrev vwCl : List vw_C := [(RX0, TX0, 2), (RX1, TX1, 7), (RX2, TX2, 5), (RX3, TX3, 12), (RX4, TX4, 12), (RX5, TX5, 10)]
