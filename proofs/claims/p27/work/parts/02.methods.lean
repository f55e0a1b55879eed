/-! the methods, by number: class, name, code, locals, answer, room, whether a constructor, arguments, class's number -/
abbrev MI : Type := String × MethodName × ByteArray × Nat × Option FieldType × Room × Bool × Nat × Nat
abbrev mI_0 : MI := (RX0, yX0_init, cX0_init, 2, none, { frames := 3, cells := 81, slots := 944, locals := 53 }, true, 0, 0)
abbrev mI_1 : MI := (RX0, yX0_store, cX0_store, 2, none, { frames := 3, cells := 0, slots := 0, locals := 75 }, false, 1, 0)
abbrev mI_2 : MI := (RX0, yX0_takeLatest, cX0_takeLatest, 2, none, { frames := 3, cells := 0, slots := 0, locals := 75 }, false, 1, 0)
abbrev mI_3 : MI := (RX0, yX0_dropOldest, cX0_dropOldest, 3, none, { frames := 0, cells := 0, slots := 0, locals := 0 }, false, 0, 0)
abbrev mI_4 : MI := (RX1, yX1_init, cX1_init, 1, none, { frames := 1, cells := 4, slots := 60, locals := 12 }, true, 0, 1)
abbrev mI_5 : MI := (RX1, yX1_read, cX1_read, 4, (some .int), { frames := 4, cells := 0, slots := 0, locals := 91 }, false, 2, 1)
abbrev mI_6 : MI := (RX1, yX1_readOrder, cX1_readOrder, 5, (some .boolean), { frames := 3, cells := 0, slots := 0, locals := 67 }, false, 0, 1)
abbrev mI_7 : MI := (RX1, yX1_readNumber, cX1_readNumber, 7, (some .int), { frames := 2, cells := 0, slots := 0, locals := 41 }, false, 2, 1)
abbrev mI_8 : MI := (RX1, yX1_digitHere, cX1_digitHere, 2, (some .int), { frames := 1, cells := 0, slots := 0, locals := 20 }, false, 0, 1)
abbrev mI_9 : MI := (RX1, yX1_here, cX1_here, 1, (some .char), { frames := 0, cells := 0, slots := 0, locals := 0 }, false, 0, 1)
abbrev mI_10 : MI := (RX1, yX1_note, cX1_note, 4, none, { frames := 0, cells := 0, slots := 0, locals := 0 }, false, 3, 1)
abbrev mI_11 : MI := (RX2, yX2_init, cX2_init, 1, none, { frames := 1, cells := 3, slots := 45, locals := 12 }, true, 0, 2)
abbrev mI_12 : MI := (RX2, yX2_copyFrom, cX2_copyFrom, 2, none, { frames := 1, cells := 0, slots := 0, locals := 32 }, false, 1, 2)
abbrev mI_13 : MI := (RX2, yX2_join, cX2_join, 3, none, { frames := 0, cells := 0, slots := 0, locals := 0 }, false, 2, 2)
abbrev mI_14 : MI := (RX2, yX2_removeAt, cX2_removeAt, 3, none, { frames := 0, cells := 0, slots := 0, locals := 0 }, false, 1, 2)
abbrev mI_15 : MI := (RX2, yX2_holds, cX2_holds, 3, (some .boolean), { frames := 0, cells := 0, slots := 0, locals := 0 }, false, 1, 2)
abbrev mI_16 : MI := (RX3, yX3_init, cX3_init, 1, none, { frames := 1, cells := 0, slots := 0, locals := 12 }, true, 0, 3)
abbrev mI_17 : MI := (RX3, yX3_copyFrom, cX3_copyFrom, 2, none, { frames := 0, cells := 0, slots := 0, locals := 0 }, false, 1, 3)
abbrev mI_18 : MI := (RX3, yX3_isAtWheel, cX3_isAtWheel, 1, (some .boolean), { frames := 0, cells := 0, slots := 0, locals := 0 }, false, 0, 3)
abbrev mI_19 : MI := (RX3, yX3_begin, cX3_begin, 3, none, { frames := 0, cells := 0, slots := 0, locals := 0 }, false, 2, 3)
abbrev mI_20 : MI := (RX4, yX4_init, cX4_init, 2, none, { frames := 2, cells := 19, slots := 223, locals := 32 }, true, 0, 4)
abbrev mI_21 : MI := (RX4, yX4_copyFrom, cX4_copyFrom, 3, none, { frames := 2, cells := 0, slots := 0, locals := 53 }, false, 1, 4)
abbrev mI_22 : MI := (RX4, yX4_isPlace, cX4_isPlace, 1, (some .boolean), { frames := 0, cells := 0, slots := 0, locals := 0 }, false, 1, 4)
abbrev mI_23 : MI := (RX4, yX4_isSetting, cX4_isSetting, 1, (some .boolean), { frames := 0, cells := 0, slots := 0, locals := 0 }, false, 1, 4)
abbrev mI_24 : MI := (RX4, yX4_fareFor, cX4_fareFor, 2, (some .int), { frames := 1, cells := 0, slots := 0, locals := 24 }, false, 2, 4)
abbrev mI_25 : MI := (RX4, yX4_welcome, cX4_welcome, 3, (some .int), { frames := 2, cells := 0, slots := 0, locals := 45 }, false, 1, 4)
abbrev mI_26 : MI := (RX4, yX4_sendHome, cX4_sendHome, 3, (some .int), { frames := 2, cells := 0, slots := 0, locals := 45 }, false, 1, 4)
abbrev mI_27 : MI := (RX4, yX4_change, cX4_change, 4, (some .int), { frames := 1, cells := 0, slots := 0, locals := 20 }, false, 2, 4)
abbrev mI_28 : MI := (RX4, yX4_letJoin, cX4_letJoin, 2, (some .int), { frames := 1, cells := 0, slots := 0, locals := 22 }, false, 1, 4)
abbrev mI_29 : MI := (RX4, yX4_takeCall, cX4_takeCall, 5, (some .int), { frames := 4, cells := 0, slots := 0, locals := 93 }, false, 2, 4)
abbrev mI_30 : MI := (RX4, yX4_letPass, cX4_letPass, 4, (some .int), { frames := 5, cells := 0, slots := 0, locals := 117 }, false, 1, 4)
abbrev mI_31 : MI := (RX4, yX4_find, cX4_find, 3, (some (.object "TaxiRank$Taxi")), { frames := 0, cells := 0, slots := 0, locals := 0 }, false, 1, 4)
abbrev mI_32 : MI := (RX4, yX4_placeOf, cX4_placeOf, 3, (some .int), { frames := 0, cells := 0, slots := 0, locals := 0 }, false, 1, 4)
abbrev mI_33 : MI := (RX4, yX4_staysHomeToday, cX4_staysHomeToday, 2, (some .boolean), { frames := 0, cells := 0, slots := 0, locals := 0 }, false, 1, 4)
abbrev mI_34 : MI := (RX4, yX4_wasLongAtWheel, cX4_wasLongAtWheel, 2, (some .boolean), { frames := 0, cells := 0, slots := 0, locals := 0 }, false, 1, 4)
abbrev mI_35 : MI := (RX4, yX4_mayTakeFare, cX4_mayTakeFare, 2, (some .boolean), { frames := 1, cells := 0, slots := 0, locals := 21 }, false, 1, 4)
abbrev mI_36 : MI := (RX4, yX4_isLong, cX4_isLong, 3, (some .boolean), { frames := 1, cells := 0, slots := 0, locals := 24 }, false, 2, 4)
abbrev mI_37 : MI := (RX4, yX4_taxiForRide, cX4_taxiForRide, 6, (some (.object "TaxiRank$Taxi")), { frames := 2, cells := 0, slots := 0, locals := 46 }, false, 1, 4)
abbrev mI_38 : MI := (RX4, yX4_taxiForCall, cX4_taxiForCall, 4, (some (.object "TaxiRank$Taxi")), { frames := 3, cells := 0, slots := 0, locals := 70 }, false, 1, 4)
abbrev mI_39 : MI := (RX4, yX4_nearer, cX4_nearer, 4, (some (.object "TaxiRank$Taxi")), { frames := 2, cells := 0, slots := 0, locals := 47 }, false, 3, 4)
abbrev mI_40 : MI := (RX4, yX4_minutesTo, cX4_minutesTo, 4, (some .int), { frames := 1, cells := 0, slots := 0, locals := 24 }, false, 2, 4)
abbrev mI_41 : MI := (RX4, yX4_minutesUntilRide, cX4_minutesUntilRide, 5, (some .int), { frames := 5, cells := 0, slots := 0, locals := 117 }, false, 1, 4)
abbrev mI_42 : MI := (RX4, yX4_minutesUntilInLine, cX4_minutesUntilInLine, 3, (some .int), { frames := 5, cells := 0, slots := 0, locals := 117 }, false, 1, 4)
abbrev mI_43 : MI := (RX4, yX4_minute, cX4_minute, 3, none, { frames := 4, cells := 0, slots := 0, locals := 95 }, false, 0, 4)
abbrev mI_44 : MI := (RX4, yX4_goOn, cX4_goOn, 2, none, { frames := 3, cells := 0, slots := 0, locals := 69 }, false, 1, 4)
abbrev mI_45 : MI := (RX4, yX4_dismissImpatient, cX4_dismissImpatient, 2, none, { frames := 1, cells := 0, slots := 0, locals := 22 }, false, 0, 4)
abbrev mI_46 : MI := (RX4, yX4_seatPassengers, cX4_seatPassengers, 5, none, { frames := 3, cells := 0, slots := 0, locals := 71 }, false, 0, 4)
abbrev mI_47 : MI := (RX4, yX4_acceptFare, cX4_acceptFare, 4, none, { frames := 2, cells := 0, slots := 0, locals := 46 }, false, 3, 4)
abbrev mI_48 : MI := (RX4, yX4_startRide, cX4_startRide, 2, none, { frames := 1, cells := 0, slots := 0, locals := 24 }, false, 1, 4)
abbrev mI_49 : MI := (RX4, yX4_payFare, cX4_payFare, 3, none, { frames := 2, cells := 0, slots := 0, locals := 45 }, false, 1, 4)
abbrev mI_50 : MI := (RX4, yX4_comeBack, cX4_comeBack, 2, none, { frames := 2, cells := 0, slots := 0, locals := 48 }, false, 1, 4)
abbrev mI_51 : MI := (RX4, yX4_standLast, cX4_standLast, 2, none, { frames := 1, cells := 0, slots := 0, locals := 24 }, false, 1, 4)
abbrev mI_52 : MI := (RX4, yX4_standQuickly, cX4_standQuickly, 5, none, { frames := 1, cells := 0, slots := 0, locals := 24 }, false, 1, 4)
abbrev mI_53 : MI := (RX4, yX4_standAt, cX4_standAt, 5, none, { frames := 0, cells := 0, slots := 0, locals := 0 }, false, 3, 4)
abbrev mI_54 : MI := (RX4, yX4_leaveLine, cX4_leaveLine, 4, none, { frames := 1, cells := 0, slots := 0, locals := 22 }, false, 1, 4)
abbrev mI_55 : MI := (RX4, yX4_register, cX4_register, 5, (some (.object "TaxiRank$Taxi")), { frames := 0, cells := 0, slots := 0, locals := 0 }, false, 1, 4)
abbrev mI_56 : MI := (RX5, yX5_init, cX5_init, 1, none, { frames := 4, cells := 148, slots := 1778, locals := 74 }, true, 0, 5)
abbrev mI_57 : MI := (RX5, yX5_come, cX5_come, 2, (some .int), { frames := 5, cells := 0, slots := 0, locals := 117 }, false, 1, 5)
abbrev mI_58 : MI := (RX5, yX5_goHome, cX5_goHome, 2, (some .int), { frames := 5, cells := 0, slots := 0, locals := 117 }, false, 1, 5)
abbrev mI_59 : MI := (RX5, yX5_set, cX5_set, 3, (some .int), { frames := 5, cells := 0, slots := 0, locals := 117 }, false, 2, 5)
abbrev mI_60 : MI := (RX5, yX5_arrive, cX5_arrive, 2, (some .int), { frames := 5, cells := 0, slots := 0, locals := 117 }, false, 1, 5)
abbrev mI_61 : MI := (RX5, yX5_call, cX5_call, 3, (some .int), { frames := 5, cells := 0, slots := 0, locals := 117 }, false, 2, 5)
abbrev mI_62 : MI := (RX5, yX5_pass, cX5_pass, 2, (some .int), { frames := 6, cells := 0, slots := 0, locals := 140 }, false, 1, 5)
abbrev mI_63 : MI := (RX5, yX5_clearText, cX5_clearText, 2, (some .int), { frames := 0, cells := 0, slots := 0, locals := 0 }, false, 0, 5)
abbrev mI_64 : MI := (RX5, yX5_perform, cX5_perform, 5, (some .int), { frames := 6, cells := 0, slots := 0, locals := 140 }, false, 0, 5)
abbrev mI_65 : MI := (RX5, yX5_stopped, cX5_stopped, 2, (some .int), { frames := 0, cells := 0, slots := 0, locals := 0 }, false, 1, 5)
abbrev mI_66 : MI := (RX5, yX5_undo, cX5_undo, 1, (some .int), { frames := 4, cells := 0, slots := 0, locals := 96 }, false, 0, 5)
abbrev mI_67 : MI := (RX5, yX5_keep, cX5_keep, 1, (some .int), { frames := 3, cells := 0, slots := 0, locals := 75 }, false, 0, 5)
abbrev mI_68 : MI := (RX5, yX5_restore, cX5_restore, 1, (some .int), { frames := 5, cells := 0, slots := 0, locals := 117 }, false, 0, 5)
abbrev mI_69 : MI := (RX5, yX5_taxi, cX5_taxi, 4, (some .int), { frames := 2, cells := 0, slots := 0, locals := 42 }, false, 2, 5)
abbrev mI_70 : MI := (RX5, yX5_line, cX5_line, 2, (some .int), { frames := 0, cells := 0, slots := 0, locals := 0 }, false, 1, 5)
abbrev mI_71 : MI := (RX5, yX5_plate, cX5_plate, 2, (some .int), { frames := 0, cells := 0, slots := 0, locals := 0 }, false, 1, 5)
abbrev mI_72 : MI := (RX5, yX5_waiting, cX5_waiting, 3, (some .int), { frames := 0, cells := 0, slots := 0, locals := 0 }, false, 2, 5)
abbrev mI_73 : MI := (RX5, yX5_rides, cX5_rides, 3, (some .int), { frames := 3, cells := 0, slots := 0, locals := 71 }, false, 1, 5)
abbrev mI_74 : MI := (RX5, yX5_ifCalled, cX5_ifCalled, 5, (some .int), { frames := 4, cells := 0, slots := 0, locals := 93 }, false, 3, 5)
abbrev mI_75 : MI := (RX5, yX5_reason, cX5_reason, 4, (some .int), { frames := 3, cells := 0, slots := 0, locals := 71 }, false, 2, 5)
abbrev mI_76 : MI := (RX5, yX5_ridesIn, cX5_ridesIn, 2, (some .int), { frames := 6, cells := 0, slots := 0, locals := 141 }, false, 1, 5)
abbrev mI_77 : MI := (RX5, yX5_inLineIn, cX5_inLineIn, 3, (some .int), { frames := 6, cells := 0, slots := 0, locals := 139 }, false, 1, 5)
abbrev mI_78 : MI := (RX5, yX5_shares, cX5_shares, 6, (some .int), { frames := 0, cells := 0, slots := 0, locals := 0 }, false, 1, 5)
abbrev mI_79 : MI := (RX5, yX5_count, cX5_count, 3, (some .int), { frames := 1, cells := 0, slots := 0, locals := 20 }, false, 1, 5)
abbrev mI_80 : MI := (RX5, yX5_recorded, cX5_recorded, 2, (some .int), { frames := 4, cells := 0, slots := 0, locals := 96 }, false, 1, 5)
abbrev mI_81 : MI := (RL, yL_cell, cL_cell, 2, (some .int), { frames := 0, cells := 0, slots := 0, locals := 0 }, false, 2, 98)
abbrev mI_82 : MI := (RL, yL_seen, cL_seen, 5, (some .long), { frames := 3, cells := 0, slots := 0, locals := 65 }, false, 1, 98)
abbrev mI_83 : MI := (RL, yL_isWhole, cL_isWhole, 13, (some .boolean), { frames := 7, cells := 0, slots := 0, locals := 161 }, false, 1, 98)
abbrev mI_84 : MI := (RL, yL_refusesAny, cL_refusesAny, 6, (some .boolean), { frames := 7, cells := 0, slots := 0, locals := 164 }, false, 2, 98)
abbrev mI_85 : MI := (RL, yL_refuses, cL_refuses, 5, (some .boolean), { frames := 8, cells := 0, slots := 0, locals := 189 }, false, 2, 98)
abbrev mI_86 : MI := (RL, yL_come, cL_come, 9, (some .int), { frames := 6, cells := 0, slots := 0, locals := 138 }, false, 2, 98)
abbrev mI_87 : MI := (RL, yL_goHome, cL_goHome, 6, (some .int), { frames := 7, cells := 0, slots := 0, locals := 161 }, false, 2, 98)
abbrev mI_88 : MI := (RL, yL_call, cL_call, 11, (some .int), { frames := 6, cells := 0, slots := 0, locals := 139 }, false, 3, 98)
abbrev mI_89 : MI := (RL, yL_minute, cL_minute, 15, (some .int), { frames := 7, cells := 0, slots := 0, locals := 161 }, false, 1, 98)
abbrev mI_90 : MI := (RL, yL_act, cL_act, 10, (some .int), { frames := 8, cells := 0, slots := 0, locals := 195 }, false, 2, 98)
abbrev mI_91 : MI := (RL, yL_law, cL_law, 16, (some .boolean), room_1, false, 1, 98)
def mtab_0 : List MI := [mI_0, mI_1, mI_2, mI_3, mI_4, mI_5, mI_6, mI_7, mI_8, mI_9, mI_10, mI_11, mI_12, mI_13, mI_14, mI_15, mI_16, mI_17, mI_18, mI_19, mI_20, mI_21, mI_22, mI_23, mI_24, mI_25, mI_26, mI_27, mI_28, mI_29, mI_30, mI_31, mI_32, mI_33, mI_34, mI_35, mI_36, mI_37, mI_38, mI_39]
def mtab_1 : List MI := [mI_40, mI_41, mI_42, mI_43, mI_44, mI_45, mI_46, mI_47, mI_48, mI_49, mI_50, mI_51, mI_52, mI_53, mI_54, mI_55, mI_56, mI_57, mI_58, mI_59, mI_60, mI_61, mI_62, mI_63, mI_64, mI_65, mI_66, mI_67, mI_68, mI_69, mI_70, mI_71, mI_72, mI_73, mI_74, mI_75, mI_76, mI_77, mI_78, mI_79]
def mtab_2 : List MI := [mI_80, mI_81, mI_82, mI_83, mI_84, mI_85, mI_86, mI_87, mI_88, mI_89, mI_90, mI_91]
def mth (id : Nat) : MI := if id < 40 then mtab_0.getD id mI_0 else if id < 80 then mtab_1.getD (id - 40) mI_0 else mtab_2.getD (id - 80) mI_0
def mown (id : Nat) : String := (mth id).1
def mnm (id : Nat) : MethodName := (mth id).2.1
def mcc (id : Nat) : ByteArray := (mth id).2.2.1
def mmx (id : Nat) : Nat := (mth id).2.2.2.1
def mret (id : Nat) : Option FieldType := (mth id).2.2.2.2.1
def mrm (id : Nat) : Room := (mth id).2.2.2.2.2.1
def mini (id : Nat) : Bool := (mth id).2.2.2.2.2.2.1
def mnp (id : Nat) : Nat := (mth id).2.2.2.2.2.2.2.1
def mkd (id : Nat) : Nat := (mth id).2.2.2.2.2.2.2.2
/-- the words of the tables that go along -/
def allW : List Cond := lw_tbl.filter goodWord
theorem allW_of {w : Cond} (h : w ∈ lw_tbl) (hg : goodWord w = true) : w ∈ allW := List.mem_filter.mpr ⟨h, hg⟩
theorem tm_s {w : Cond} (i : Nat) (h : (k2_sels lw_privs)[i]? = some w) (hg : goodWord w = true) : w ∈ allW := allW_of (List.mem_append_left _ (List.mem_of_getElem? h)) hg
theorem tm_1 {w : Cond} (i : Nat) (h : tables_1_1[i]? = some w) (hg : goodWord w = true) : w ∈ allW := allW_of (List.mem_append_right _ (List.mem_append_left _ (List.mem_of_getElem? h))) hg
theorem tm_2 {w : Cond} (i : Nat) (h : tables_1_2[i]? = some w) (hg : goodWord w = true) : w ∈ allW := allW_of (List.mem_append_right _ (List.mem_append_right _ (List.mem_append_left _ (List.mem_of_getElem? h)))) hg
theorem tm_3 {w : Cond} (i : Nat) (h : tables_1_3[i]? = some w) (hg : goodWord w = true) : w ∈ allW := allW_of (List.mem_append_right _ (List.mem_append_right _ (List.mem_append_right _ (List.mem_of_getElem? h)))) hg

/-- a code list's entry: pc, instruction, length, and what it is resolved to (a, b, v, rows of a switch) -/
abbrev CI : Type := Instr × Nat × Nat × Nat × Int32 × List (Int32 × Nat)
def cNm : Nat → String := fun k => match k with | 0 => RX0 | 1 => RX1 | 2 => RX2 | 3 => RX3 | 4 => RX4 | _ => RX5
def cT : Nat → u_T := fun k => match k with | 0 => TX0 | 1 => TX1 | 2 => TX2 | 3 => TX3 | 4 => TX4 | _ => TX5
def cTy : Nat → Nat → FieldType := fun k => match k with | 0 => tyX0 | 1 => tyX1 | 2 => tyX2 | 3 => tyX3 | 4 => tyX4 | _ => tyX5
def nFl : Nat → Nat := fun k => match k with | 0 => 2 | 1 => 7 | 2 => 5 | 3 => 12 | 4 => 12 | 5 => 10 | _ => 0
theorem cl_at {k : Nat} (h : k < 6) : vwCl[k]? = some (cNm k, cT k, nFl k) := by
  match k, h with
  | 0, _ => rfl
  | 1, _ => rfl
  | 2, _ => rfl
  | 3, _ => rfl
  | 4, _ => rfl
  | 5, _ => rfl
theorem cTy_ok {k : Nat} (h : k < 6) : ∀ j, j < nFl k → parseFieldDescriptor (cT k j).2.2.1 = some (cTy k j) := by
  match k, h with
  | 0, _ => exact tyX0_ok
  | 1, _ => exact tyX1_ok
  | 2, _ => exact tyX2_ok
  | 3, _ => exact tyX3_ok
  | 4, _ => exact tyX4_ok
  | 5, _ => exact tyX5_ok
theorem cNmx {k : Nat} (h : k < 6) : ∀ a, a < nFl k → ∀ b, b < nFl k → a ≠ b → (cT k a).2.1 ≠ (cT k b).2.1 := by
  match k, h with
  | 0, _ => exact nmX0
  | 1, _ => exact nmX1
  | 2, _ => exact nmX2
  | 3, _ => exact nmX3
  | 4, _ => exact nmX4
  | 5, _ => exact nmX5
theorem inW_0 : ∀ w ∈ u_ws (cNm 0) (cT 0) (nFl 0), w ∈ allW := show ∀ w ∈ [u_lay (cNm 0) (cT 0) 0, u_lay (cNm 0) (cT 0) 1], w ∈ allW from List.forall_mem_cons.mpr ⟨(tm_1 184 rfl rfl), List.forall_mem_cons.mpr ⟨(tm_1 186 rfl rfl), fun _ h => absurd h List.not_mem_nil⟩⟩
theorem inW_1 : ∀ w ∈ u_ws (cNm 1) (cT 1) (nFl 1), w ∈ allW := show ∀ w ∈ [u_lay (cNm 1) (cT 1) 0, u_lay (cNm 1) (cT 1) 1, u_lay (cNm 1) (cT 1) 2, u_lay (cNm 1) (cT 1) 3, u_lay (cNm 1) (cT 1) 4, u_lay (cNm 1) (cT 1) 5, u_lay (cNm 1) (cT 1) 6], w ∈ allW from List.forall_mem_cons.mpr ⟨(tm_1 206 rfl rfl), List.forall_mem_cons.mpr ⟨(tm_1 208 rfl rfl), List.forall_mem_cons.mpr ⟨(tm_1 210 rfl rfl), List.forall_mem_cons.mpr ⟨(tm_1 212 rfl rfl), List.forall_mem_cons.mpr ⟨(tm_1 214 rfl rfl), List.forall_mem_cons.mpr ⟨(tm_1 216 rfl rfl), List.forall_mem_cons.mpr ⟨(tm_1 218 rfl rfl), fun _ h => absurd h List.not_mem_nil⟩⟩⟩⟩⟩⟩⟩
theorem inW_2 : ∀ w ∈ u_ws (cNm 2) (cT 2) (nFl 2), w ∈ allW := show ∀ w ∈ [u_lay (cNm 2) (cT 2) 0, u_lay (cNm 2) (cT 2) 1, u_lay (cNm 2) (cT 2) 2, u_lay (cNm 2) (cT 2) 3, u_lay (cNm 2) (cT 2) 4], w ∈ allW from List.forall_mem_cons.mpr ⟨(tm_1 106 rfl rfl), List.forall_mem_cons.mpr ⟨(tm_1 108 rfl rfl), List.forall_mem_cons.mpr ⟨(tm_1 110 rfl rfl), List.forall_mem_cons.mpr ⟨(tm_1 112 rfl rfl), List.forall_mem_cons.mpr ⟨(tm_1 114 rfl rfl), fun _ h => absurd h List.not_mem_nil⟩⟩⟩⟩⟩
theorem inW_3 : ∀ w ∈ u_ws (cNm 3) (cT 3) (nFl 3), w ∈ allW := show ∀ w ∈ [u_lay (cNm 3) (cT 3) 0, u_lay (cNm 3) (cT 3) 1, u_lay (cNm 3) (cT 3) 2, u_lay (cNm 3) (cT 3) 3, u_lay (cNm 3) (cT 3) 4, u_lay (cNm 3) (cT 3) 5, u_lay (cNm 3) (cT 3) 6, u_lay (cNm 3) (cT 3) 7, u_lay (cNm 3) (cT 3) 8, u_lay (cNm 3) (cT 3) 9, u_lay (cNm 3) (cT 3) 10, u_lay (cNm 3) (cT 3) 11], w ∈ allW from List.forall_mem_cons.mpr ⟨(tm_1 63 rfl rfl), List.forall_mem_cons.mpr ⟨(tm_1 65 rfl rfl), List.forall_mem_cons.mpr ⟨(tm_1 67 rfl rfl), List.forall_mem_cons.mpr ⟨(tm_1 69 rfl rfl), List.forall_mem_cons.mpr ⟨(tm_1 71 rfl rfl), List.forall_mem_cons.mpr ⟨(tm_1 73 rfl rfl), List.forall_mem_cons.mpr ⟨(tm_1 75 rfl rfl), List.forall_mem_cons.mpr ⟨(tm_1 77 rfl rfl), List.forall_mem_cons.mpr ⟨(tm_1 79 rfl rfl), List.forall_mem_cons.mpr ⟨(tm_1 81 rfl rfl), List.forall_mem_cons.mpr ⟨(tm_1 83 rfl rfl), List.forall_mem_cons.mpr ⟨(tm_1 85 rfl rfl), fun _ h => absurd h List.not_mem_nil⟩⟩⟩⟩⟩⟩⟩⟩⟩⟩⟩⟩
theorem inW_4 : ∀ w ∈ u_ws (cNm 4) (cT 4) (nFl 4), w ∈ allW := show ∀ w ∈ [u_lay (cNm 4) (cT 4) 0, u_lay (cNm 4) (cT 4) 1, u_lay (cNm 4) (cT 4) 2, u_lay (cNm 4) (cT 4) 3, u_lay (cNm 4) (cT 4) 4, u_lay (cNm 4) (cT 4) 5, u_lay (cNm 4) (cT 4) 6, u_lay (cNm 4) (cT 4) 7, u_lay (cNm 4) (cT 4) 8, u_lay (cNm 4) (cT 4) 9, u_lay (cNm 4) (cT 4) 10, u_lay (cNm 4) (cT 4) 11], w ∈ allW from List.forall_mem_cons.mpr ⟨(tm_1 147 rfl rfl), List.forall_mem_cons.mpr ⟨(tm_1 149 rfl rfl), List.forall_mem_cons.mpr ⟨(tm_1 151 rfl rfl), List.forall_mem_cons.mpr ⟨(tm_1 153 rfl rfl), List.forall_mem_cons.mpr ⟨(tm_1 155 rfl rfl), List.forall_mem_cons.mpr ⟨(tm_1 157 rfl rfl), List.forall_mem_cons.mpr ⟨(tm_1 159 rfl rfl), List.forall_mem_cons.mpr ⟨(tm_1 161 rfl rfl), List.forall_mem_cons.mpr ⟨(tm_1 163 rfl rfl), List.forall_mem_cons.mpr ⟨(tm_1 165 rfl rfl), List.forall_mem_cons.mpr ⟨(tm_1 167 rfl rfl), List.forall_mem_cons.mpr ⟨(tm_1 169 rfl rfl), fun _ h => absurd h List.not_mem_nil⟩⟩⟩⟩⟩⟩⟩⟩⟩⟩⟩⟩
theorem inW_5 : ∀ w ∈ u_ws (cNm 5) (cT 5) (nFl 5), w ∈ allW := show ∀ w ∈ [u_lay (cNm 5) (cT 5) 0, u_lay (cNm 5) (cT 5) 1, u_lay (cNm 5) (cT 5) 2, u_lay (cNm 5) (cT 5) 3, u_lay (cNm 5) (cT 5) 4, u_lay (cNm 5) (cT 5) 5, u_lay (cNm 5) (cT 5) 6, u_lay (cNm 5) (cT 5) 7, u_lay (cNm 5) (cT 5) 8, u_lay (cNm 5) (cT 5) 9], w ∈ allW from List.forall_mem_cons.mpr ⟨(tm_1 232 rfl rfl), List.forall_mem_cons.mpr ⟨(tm_1 234 rfl rfl), List.forall_mem_cons.mpr ⟨(tm_1 236 rfl rfl), List.forall_mem_cons.mpr ⟨(tm_1 238 rfl rfl), List.forall_mem_cons.mpr ⟨(tm_2 0 rfl rfl), List.forall_mem_cons.mpr ⟨(tm_2 2 rfl rfl), List.forall_mem_cons.mpr ⟨(tm_2 4 rfl rfl), List.forall_mem_cons.mpr ⟨(tm_2 6 rfl rfl), List.forall_mem_cons.mpr ⟨(tm_2 8 rfl rfl), List.forall_mem_cons.mpr ⟨(tm_2 10 rfl rfl), fun _ h => absurd h List.not_mem_nil⟩⟩⟩⟩⟩⟩⟩⟩⟩⟩
theorem inW {k : Nat} (h : k < 6) : ∀ w ∈ u_ws (cNm k) (cT k) (nFl k), w ∈ allW := by
  match k, h with
  | 0, _ => exact inW_0
  | 1, _ => exact inW_1
  | 2, _ => exact inW_2
  | 3, _ => exact inW_3
  | 4, _ => exact inW_4
  | 5, _ => exact inW_5
