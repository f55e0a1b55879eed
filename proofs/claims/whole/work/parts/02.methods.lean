/-! the methods, by number: class, name, code, locals, answer, room, whether a constructor, arguments, class's number -/
abbrev MI : Type := String × MethodName × ByteArray × Nat × Option FieldType × Room × Bool × Nat × Nat
abbrev mI_0 : MI := (RX0, yX0_init, cX0_init, 2, none, { frames := 3, cells := 81, slots := 944, locals := 53 }, true, 0, 0)
abbrev mI_1 : MI := (RX0, yX0_store, cX0_store, 2, none, { frames := 3, cells := 0, slots := 0, locals := 75 }, false, 1, 0)
abbrev mI_2 : MI := (RX0, yX0_takeLatest, cX0_takeLatest, 2, none, { frames := 3, cells := 0, slots := 0, locals := 75 }, false, 1, 0)
abbrev mI_3 : MI := (RX0, yX0_dropOldest, cX0_dropOldest, 3, none, { frames := 0, cells := 0, slots := 0, locals := 0 }, false, 0, 0)
abbrev mI_4 : MI := (RX1, yX1_init, cX1_init, 1, none, { frames := 1, cells := 4, slots := 60, locals := 12 }, true, 0, 1)
abbrev mI_5 : MI := (RX1, yX1_read, cX1_read, 4, (some .int), { frames := 4, cells := 0, slots := 0, locals := 91 }, false, 2, 1)
abbrev mI_6 : MI := (RX1, yX1_readOrder, cX1_readOrder, 5, (some .boolean), { frames := 3, cells := 0, slots := 0, locals := 67 }, false, 0, 1)
abbrev mI_7 : MI := (RX1, yX1_readNumber, cX1_readNumber, 7, (some .int), { frames := 2, cells := 0, slots := 0, locals := 41 }, false, 2, 1)
abbrev mI_8 : MI := (RX1, yX1_digitHere, cX1_digitHere, 2, (some .int), { frames := 1, cells := 0, slots := 0, locals := 20 }, false, 0, 1)
abbrev mI_9 : MI := (RX1, yX1_here, cX1_here, 1, (some .char), { frames := 0, cells := 0, slots := 0, locals := 0 }, false, 0, 1)
abbrev mI_10 : MI := (RX1, yX1_note, cX1_note, 4, none, { frames := 0, cells := 0, slots := 0, locals := 0 }, false, 3, 1)
abbrev mI_11 : MI := (RX2, yX2_init, cX2_init, 1, none, { frames := 1, cells := 3, slots := 45, locals := 12 }, true, 0, 2)
abbrev mI_12 : MI := (RX2, yX2_copyFrom, cX2_copyFrom, 2, none, { frames := 1, cells := 0, slots := 0, locals := 32 }, false, 1, 2)
abbrev mI_13 : MI := (RX2, yX2_join, cX2_join, 3, none, { frames := 0, cells := 0, slots := 0, locals := 0 }, false, 2, 2)
abbrev mI_14 : MI := (RX2, yX2_removeAt, cX2_removeAt, 3, none, { frames := 0, cells := 0, slots := 0, locals := 0 }, false, 1, 2)
abbrev mI_15 : MI := (RX2, yX2_holds, cX2_holds, 3, (some .boolean), { frames := 0, cells := 0, slots := 0, locals := 0 }, false, 1, 2)
abbrev mI_16 : MI := (RX3, yX3_init, cX3_init, 1, none, { frames := 1, cells := 0, slots := 0, locals := 12 }, true, 0, 3)
abbrev mI_17 : MI := (RX3, yX3_copyFrom, cX3_copyFrom, 2, none, { frames := 0, cells := 0, slots := 0, locals := 0 }, false, 1, 3)
abbrev mI_18 : MI := (RX3, yX3_isAtWheel, cX3_isAtWheel, 1, (some .boolean), { frames := 0, cells := 0, slots := 0, locals := 0 }, false, 0, 3)
abbrev mI_19 : MI := (RX3, yX3_begin, cX3_begin, 3, none, { frames := 0, cells := 0, slots := 0, locals := 0 }, false, 2, 3)
abbrev mI_20 : MI := (RX4, yX4_init, cX4_init, 2, none, { frames := 2, cells := 19, slots := 223, locals := 32 }, true, 0, 4)
abbrev mI_21 : MI := (RX4, yX4_copyFrom, cX4_copyFrom, 3, none, { frames := 2, cells := 0, slots := 0, locals := 53 }, false, 1, 4)
abbrev mI_22 : MI := (RX4, yX4_isPlace, cX4_isPlace, 1, (some .boolean), { frames := 0, cells := 0, slots := 0, locals := 0 }, false, 1, 4)
abbrev mI_23 : MI := (RX4, yX4_isSetting, cX4_isSetting, 1, (some .boolean), { frames := 0, cells := 0, slots := 0, locals := 0 }, false, 1, 4)
abbrev mI_24 : MI := (RX4, yX4_fareFor, cX4_fareFor, 2, (some .int), { frames := 1, cells := 0, slots := 0, locals := 24 }, false, 2, 4)
abbrev mI_25 : MI := (RX4, yX4_welcome, cX4_welcome, 3, (some .int), { frames := 2, cells := 0, slots := 0, locals := 45 }, false, 1, 4)
abbrev mI_26 : MI := (RX4, yX4_sendHome, cX4_sendHome, 3, (some .int), { frames := 2, cells := 0, slots := 0, locals := 45 }, false, 1, 4)
abbrev mI_27 : MI := (RX4, yX4_change, cX4_change, 4, (some .int), { frames := 1, cells := 0, slots := 0, locals := 20 }, false, 2, 4)
abbrev mI_28 : MI := (RX4, yX4_letJoin, cX4_letJoin, 2, (some .int), { frames := 1, cells := 0, slots := 0, locals := 22 }, false, 1, 4)
abbrev mI_29 : MI := (RX4, yX4_takeCall, cX4_takeCall, 5, (some .int), { frames := 4, cells := 0, slots := 0, locals := 93 }, false, 2, 4)
abbrev mI_30 : MI := (RX4, yX4_letPass, cX4_letPass, 4, (some .int), { frames := 5, cells := 0, slots := 0, locals := 117 }, false, 1, 4)
abbrev mI_31 : MI := (RX4, yX4_find, cX4_find, 3, (some (.object "TaxiRank$Taxi")), { frames := 0, cells := 0, slots := 0, locals := 0 }, false, 1, 4)
abbrev mI_32 : MI := (RX4, yX4_placeOf, cX4_placeOf, 3, (some .int), { frames := 0, cells := 0, slots := 0, locals := 0 }, false, 1, 4)
abbrev mI_33 : MI := (RX4, yX4_staysHomeToday, cX4_staysHomeToday, 2, (some .boolean), { frames := 0, cells := 0, slots := 0, locals := 0 }, false, 1, 4)
abbrev mI_34 : MI := (RX4, yX4_wasLongAtWheel, cX4_wasLongAtWheel, 2, (some .boolean), { frames := 0, cells := 0, slots := 0, locals := 0 }, false, 1, 4)
abbrev mI_35 : MI := (RX4, yX4_mayTakeFare, cX4_mayTakeFare, 2, (some .boolean), { frames := 1, cells := 0, slots := 0, locals := 21 }, false, 1, 4)
abbrev mI_36 : MI := (RX4, yX4_isLong, cX4_isLong, 3, (some .boolean), { frames := 1, cells := 0, slots := 0, locals := 24 }, false, 2, 4)
abbrev mI_37 : MI := (RX4, yX4_taxiForRide, cX4_taxiForRide, 6, (some (.object "TaxiRank$Taxi")), { frames := 2, cells := 0, slots := 0, locals := 46 }, false, 1, 4)
abbrev mI_38 : MI := (RX4, yX4_taxiForCall, cX4_taxiForCall, 4, (some (.object "TaxiRank$Taxi")), { frames := 3, cells := 0, slots := 0, locals := 70 }, false, 1, 4)
abbrev mI_39 : MI := (RX4, yX4_nearer, cX4_nearer, 4, (some (.object "TaxiRank$Taxi")), { frames := 2, cells := 0, slots := 0, locals := 47 }, false, 3, 4)
abbrev mI_40 : MI := (RX4, yX4_minutesTo, cX4_minutesTo, 4, (some .int), { frames := 1, cells := 0, slots := 0, locals := 24 }, false, 2, 4)
abbrev mI_41 : MI := (RX4, yX4_minutesUntilRide, cX4_minutesUntilRide, 5, (some .int), { frames := 5, cells := 0, slots := 0, locals := 117 }, false, 1, 4)
abbrev mI_42 : MI := (RX4, yX4_minutesUntilInLine, cX4_minutesUntilInLine, 3, (some .int), { frames := 5, cells := 0, slots := 0, locals := 117 }, false, 1, 4)
abbrev mI_43 : MI := (RX4, yX4_minute, cX4_minute, 3, none, { frames := 4, cells := 0, slots := 0, locals := 95 }, false, 0, 4)
abbrev mI_44 : MI := (RX4, yX4_goOn, cX4_goOn, 2, none, { frames := 3, cells := 0, slots := 0, locals := 69 }, false, 1, 4)
abbrev mI_45 : MI := (RX4, yX4_dismissImpatient, cX4_dismissImpatient, 2, none, { frames := 1, cells := 0, slots := 0, locals := 22 }, false, 0, 4)
abbrev mI_46 : MI := (RX4, yX4_seatPassengers, cX4_seatPassengers, 5, none, { frames := 3, cells := 0, slots := 0, locals := 71 }, false, 0, 4)
abbrev mI_47 : MI := (RX4, yX4_acceptFare, cX4_acceptFare, 4, none, { frames := 2, cells := 0, slots := 0, locals := 46 }, false, 3, 4)
abbrev mI_48 : MI := (RX4, yX4_startRide, cX4_startRide, 2, none, { frames := 1, cells := 0, slots := 0, locals := 24 }, false, 1, 4)
abbrev mI_49 : MI := (RX4, yX4_payFare, cX4_payFare, 3, none, { frames := 2, cells := 0, slots := 0, locals := 45 }, false, 1, 4)
abbrev mI_50 : MI := (RX4, yX4_comeBack, cX4_comeBack, 2, none, { frames := 2, cells := 0, slots := 0, locals := 48 }, false, 1, 4)
abbrev mI_51 : MI := (RX4, yX4_standLast, cX4_standLast, 2, none, { frames := 1, cells := 0, slots := 0, locals := 24 }, false, 1, 4)
abbrev mI_52 : MI := (RX4, yX4_standQuickly, cX4_standQuickly, 5, none, { frames := 1, cells := 0, slots := 0, locals := 24 }, false, 1, 4)
abbrev mI_53 : MI := (RX4, yX4_standAt, cX4_standAt, 5, none, { frames := 0, cells := 0, slots := 0, locals := 0 }, false, 3, 4)
abbrev mI_54 : MI := (RX4, yX4_leaveLine, cX4_leaveLine, 4, none, { frames := 1, cells := 0, slots := 0, locals := 22 }, false, 1, 4)
abbrev mI_55 : MI := (RX4, yX4_register, cX4_register, 5, (some (.object "TaxiRank$Taxi")), { frames := 0, cells := 0, slots := 0, locals := 0 }, false, 1, 4)
abbrev mI_56 : MI := (RX5, yX5_init, cX5_init, 1, none, { frames := 4, cells := 148, slots := 1778, locals := 74 }, true, 0, 5)
abbrev mI_57 : MI := (RX5, yX5_come, cX5_come, 2, (some .int), { frames := 5, cells := 0, slots := 0, locals := 117 }, false, 1, 5)
abbrev mI_58 : MI := (RX5, yX5_goHome, cX5_goHome, 2, (some .int), { frames := 5, cells := 0, slots := 0, locals := 117 }, false, 1, 5)
abbrev mI_59 : MI := (RX5, yX5_set, cX5_set, 3, (some .int), { frames := 5, cells := 0, slots := 0, locals := 117 }, false, 2, 5)
abbrev mI_60 : MI := (RX5, yX5_arrive, cX5_arrive, 2, (some .int), { frames := 5, cells := 0, slots := 0, locals := 117 }, false, 1, 5)
abbrev mI_61 : MI := (RX5, yX5_call, cX5_call, 3, (some .int), { frames := 5, cells := 0, slots := 0, locals := 117 }, false, 2, 5)
abbrev mI_62 : MI := (RX5, yX5_pass, cX5_pass, 2, (some .int), { frames := 6, cells := 0, slots := 0, locals := 140 }, false, 1, 5)
abbrev mI_63 : MI := (RX5, yX5_type, cX5_type, 2, (some .int), { frames := 0, cells := 0, slots := 0, locals := 0 }, false, 1, 5)
abbrev mI_64 : MI := (RX5, yX5_clearText, cX5_clearText, 2, (some .int), { frames := 0, cells := 0, slots := 0, locals := 0 }, false, 0, 5)
abbrev mI_65 : MI := (RX5, yX5_perform, cX5_perform, 5, (some .int), { frames := 6, cells := 0, slots := 0, locals := 140 }, false, 0, 5)
abbrev mI_66 : MI := (RX5, yX5_stopped, cX5_stopped, 2, (some .int), { frames := 0, cells := 0, slots := 0, locals := 0 }, false, 1, 5)
abbrev mI_67 : MI := (RX5, yX5_undo, cX5_undo, 1, (some .int), { frames := 4, cells := 0, slots := 0, locals := 96 }, false, 0, 5)
abbrev mI_68 : MI := (RX5, yX5_keep, cX5_keep, 1, (some .int), { frames := 3, cells := 0, slots := 0, locals := 75 }, false, 0, 5)
abbrev mI_69 : MI := (RX5, yX5_restore, cX5_restore, 1, (some .int), { frames := 5, cells := 0, slots := 0, locals := 117 }, false, 0, 5)
abbrev mI_70 : MI := (RX5, yX5_taxi, cX5_taxi, 4, (some .int), { frames := 2, cells := 0, slots := 0, locals := 42 }, false, 2, 5)
abbrev mI_71 : MI := (RX5, yX5_line, cX5_line, 2, (some .int), { frames := 0, cells := 0, slots := 0, locals := 0 }, false, 1, 5)
abbrev mI_72 : MI := (RX5, yX5_plate, cX5_plate, 2, (some .int), { frames := 0, cells := 0, slots := 0, locals := 0 }, false, 1, 5)
abbrev mI_73 : MI := (RX5, yX5_waiting, cX5_waiting, 3, (some .int), { frames := 0, cells := 0, slots := 0, locals := 0 }, false, 2, 5)
abbrev mI_74 : MI := (RX5, yX5_rides, cX5_rides, 3, (some .int), { frames := 3, cells := 0, slots := 0, locals := 71 }, false, 1, 5)
abbrev mI_75 : MI := (RX5, yX5_ifCalled, cX5_ifCalled, 5, (some .int), { frames := 4, cells := 0, slots := 0, locals := 93 }, false, 3, 5)
abbrev mI_76 : MI := (RX5, yX5_reason, cX5_reason, 4, (some .int), { frames := 3, cells := 0, slots := 0, locals := 71 }, false, 2, 5)
abbrev mI_77 : MI := (RX5, yX5_ridesIn, cX5_ridesIn, 2, (some .int), { frames := 6, cells := 0, slots := 0, locals := 141 }, false, 1, 5)
abbrev mI_78 : MI := (RX5, yX5_inLineIn, cX5_inLineIn, 3, (some .int), { frames := 6, cells := 0, slots := 0, locals := 139 }, false, 1, 5)
abbrev mI_79 : MI := (RX5, yX5_shares, cX5_shares, 6, (some .int), { frames := 0, cells := 0, slots := 0, locals := 0 }, false, 1, 5)
abbrev mI_80 : MI := (RX5, yX5_count, cX5_count, 3, (some .int), { frames := 1, cells := 0, slots := 0, locals := 20 }, false, 1, 5)
abbrev mI_81 : MI := (RX5, yX5_recorded, cX5_recorded, 2, (some .int), { frames := 4, cells := 0, slots := 0, locals := 96 }, false, 1, 5)
abbrev mI_82 : MI := (RX6, yX6_init, cX6_init, 1, none, { frames := 1, cells := 6, slots := 1722, locals := 12 }, true, 0, 6)
abbrev mI_83 : MI := (RX6, yX6_in, cX6_in, 3, (some .boolean), { frames := 0, cells := 0, slots := 0, locals := 0 }, false, 3, 6)
abbrev mI_84 : MI := (RX6, yX6_size, cX6_size, 1, (some .int), { frames := 0, cells := 0, slots := 0, locals := 0 }, false, 1, 6)
abbrev mI_85 : MI := (RX6, yX6_isPlace, cX6_isPlace, 1, (some .boolean), { frames := 1, cells := 0, slots := 0, locals := 22 }, false, 1, 6)
abbrev mI_86 : MI := (RX6, yX6_of, cX6_of, 3, (some .int), { frames := 0, cells := 0, slots := 0, locals := 0 }, false, 2, 6)
abbrev mI_87 : MI := (RX6, yX6_lay, cX6_lay, 4, none, { frames := 0, cells := 0, slots := 0, locals := 0 }, false, 3, 6)
abbrev mI_88 : MI := (RX6, yX6_tally, cX6_tally, 3, none, { frames := 0, cells := 0, slots := 0, locals := 0 }, false, 2, 6)
abbrev mI_89 : MI := (RX6, yX6_taxiWith, cX6_taxiWith, 4, (some .int), { frames := 1, cells := 0, slots := 0, locals := 22 }, false, 1, 6)
abbrev mI_90 : MI := (RX6, yX6_copyState, cX6_copyState, 5, none, { frames := 0, cells := 0, slots := 0, locals := 0 }, false, 4, 6)
abbrev mI_91 : MI := (RX6, yX6_recordRow, cX6_recordRow, 3, none, { frames := 1, cells := 0, slots := 0, locals := 24 }, false, 1, 6)
abbrev mI_92 : MI := (RX6, yX6_record, cX6_record, 1, none, { frames := 2, cells := 0, slots := 0, locals := 46 }, false, 0, 6)
abbrev mI_93 : MI := (RX6, yX6_undo, cX6_undo, 1, (some .int), { frames := 1, cells := 0, slots := 0, locals := 24 }, false, 0, 6)
abbrev mI_94 : MI := (RX6, yX6_keep, cX6_keep, 1, (some .int), { frames := 1, cells := 0, slots := 0, locals := 24 }, false, 0, 6)
abbrev mI_95 : MI := (RX6, yX6_restore, cX6_restore, 1, (some .int), { frames := 3, cells := 0, slots := 0, locals := 66 }, false, 0, 6)
abbrev mI_96 : MI := (RX6, yX6_placeInLine, cX6_placeInLine, 4, (some .int), { frames := 0, cells := 0, slots := 0, locals := 0 }, false, 1, 6)
abbrev mI_97 : MI := (RX6, yX6_standAt, cX6_standAt, 4, none, { frames := 1, cells := 0, slots := 0, locals := 23 }, false, 2, 6)
abbrev mI_98 : MI := (RX6, yX6_leaveLine, cX6_leaveLine, 4, none, { frames := 1, cells := 0, slots := 0, locals := 23 }, false, 1, 6)
abbrev mI_99 : MI := (RX6, yX6_quickOnes, cX6_quickOnes, 2, (some .int), { frames := 2, cells := 0, slots := 0, locals := 45 }, false, 0, 6)
abbrev mI_100 : MI := (RX6, yX6_staysHome, cX6_staysHome, 2, (some .boolean), { frames := 1, cells := 0, slots := 0, locals := 22 }, false, 1, 6)
abbrev mI_101 : MI := (RX6, yX6_isTired, cX6_isTired, 2, (some .boolean), { frames := 1, cells := 0, slots := 0, locals := 22 }, false, 1, 6)
abbrev mI_102 : MI := (RX6, yX6_mayTake, cX6_mayTake, 2, (some .boolean), { frames := 2, cells := 0, slots := 0, locals := 43 }, false, 1, 6)
abbrev mI_103 : MI := (RX6, yX6_riderTo, cX6_riderTo, 7, (some .int), { frames := 3, cells := 0, slots := 0, locals := 64 }, false, 1, 6)
abbrev mI_104 : MI := (RX6, yX6_takeFare, cX6_takeFare, 6, none, { frames := 2, cells := 0, slots := 0, locals := 46 }, false, 4, 6)
abbrev mI_105 : MI := (RX6, yX6_begin, cX6_begin, 4, none, { frames := 1, cells := 0, slots := 0, locals := 23 }, false, 3, 6)
abbrev mI_106 : MI := (RX6, yX6_ride, cX6_ride, 2, none, { frames := 2, cells := 0, slots := 0, locals := 46 }, false, 1, 6)
abbrev mI_107 : MI := (RX6, yX6_fare, cX6_fare, 2, (some .int), { frames := 1, cells := 0, slots := 0, locals := 20 }, false, 2, 6)
abbrev mI_108 : MI := (RX6, yX6_comeBack, cX6_comeBack, 3, none, { frames := 3, cells := 0, slots := 0, locals := 66 }, false, 1, 6)
abbrev mI_109 : MI := (RX6, yX6_bePaid, cX6_bePaid, 4, none, { frames := 4, cells := 0, slots := 0, locals := 88 }, false, 1, 6)
abbrev mI_110 : MI := (RX6, yX6_end, cX6_end, 2, none, { frames := 5, cells := 0, slots := 0, locals := 111 }, false, 1, 6)
abbrev mI_111 : MI := (RX6, yX6_waits, cX6_waits, 3, (some .int), { frames := 0, cells := 0, slots := 0, locals := 0 }, false, 2, 6)
abbrev mI_112 : MI := (RX6, yX6_goes, cX6_goes, 3, none, { frames := 0, cells := 0, slots := 0, locals := 0 }, false, 1, 6)
abbrev mI_113 : MI := (RX6, yX6_minute, cX6_minute, 3, none, { frames := 6, cells := 0, slots := 0, locals := 132 }, false, 0, 6)
abbrev mI_114 : MI := (RX6, yX6_come, cX6_come, 4, (some .int), { frames := 3, cells := 0, slots := 0, locals := 66 }, false, 1, 6)
abbrev mI_115 : MI := (RX6, yX6_goHome, cX6_goHome, 3, (some .int), { frames := 3, cells := 0, slots := 0, locals := 66 }, false, 1, 6)
abbrev mI_116 : MI := (RX6, yX6_isValue, cX6_isValue, 2, (some .boolean), { frames := 1, cells := 0, slots := 0, locals := 22 }, false, 2, 6)
abbrev mI_117 : MI := (RX6, yX6_set, cX6_set, 4, (some .int), { frames := 3, cells := 0, slots := 0, locals := 66 }, false, 2, 6)
abbrev mI_118 : MI := (RX6, yX6_whyNotArrive, cX6_whyNotArrive, 2, (some .int), { frames := 2, cells := 0, slots := 0, locals := 42 }, false, 1, 6)
abbrev mI_119 : MI := (RX6, yX6_arriveNow, cX6_arriveNow, 3, (some .int), { frames := 0, cells := 0, slots := 0, locals := 0 }, false, 1, 6)
abbrev mI_120 : MI := (RX6, yX6_arrive, cX6_arrive, 3, (some .int), { frames := 3, cells := 0, slots := 0, locals := 66 }, false, 1, 6)
abbrev mI_121 : MI := (RX6, yX6_needs, cX6_needs, 5, (some .int), { frames := 3, cells := 0, slots := 0, locals := 64 }, false, 2, 6)
abbrev mI_122 : MI := (RX6, yX6_callee, cX6_callee, 6, (some .int), { frames := 4, cells := 0, slots := 0, locals := 88 }, false, 1, 6)
abbrev mI_123 : MI := (RX6, yX6_whyNotCall, cX6_whyNotCall, 3, (some .int), { frames := 5, cells := 0, slots := 0, locals := 113 }, false, 2, 6)
abbrev mI_124 : MI := (RX6, yX6_callNow, cX6_callNow, 5, (some .int), { frames := 5, cells := 0, slots := 0, locals := 113 }, false, 2, 6)
abbrev mI_125 : MI := (RX6, yX6_call, cX6_call, 4, (some .int), { frames := 6, cells := 0, slots := 0, locals := 137 }, false, 2, 6)
abbrev mI_126 : MI := (RX6, yX6_whyNotPass, cX6_whyNotPass, 2, (some .int), { frames := 1, cells := 0, slots := 0, locals := 22 }, false, 1, 6)
abbrev mI_127 : MI := (RX6, yX6_passNow, cX6_passNow, 4, (some .int), { frames := 7, cells := 0, slots := 0, locals := 154 }, false, 1, 6)
abbrev mI_128 : MI := (RX6, yX6_pass, cX6_pass, 3, (some .int), { frames := 8, cells := 0, slots := 0, locals := 177 }, false, 1, 6)
abbrev mI_129 : MI := (RX6, yX6_type, cX6_type, 2, (some .int), { frames := 0, cells := 0, slots := 0, locals := 0 }, false, 1, 6)
abbrev mI_130 : MI := (RX6, yX6_clearText, cX6_clearText, 2, (some .int), { frames := 0, cells := 0, slots := 0, locals := 0 }, false, 0, 6)
abbrev mI_131 : MI := (RX6, yX6_sees, cX6_sees, 3, (some .boolean), { frames := 1, cells := 0, slots := 0, locals := 22 }, false, 2, 6)
abbrev mI_132 : MI := (RX6, yX6_takes, cX6_takes, 3, (some .boolean), { frames := 2, cells := 0, slots := 0, locals := 44 }, false, 1, 6)
abbrev mI_133 : MI := (RX6, yX6_number, cX6_number, 4, (some .int), { frames := 2, cells := 0, slots := 0, locals := 44 }, false, 2, 6)
abbrev mI_134 : MI := (RX6, yX6_readOrder, cX6_readOrder, 3, (some .boolean), { frames := 3, cells := 0, slots := 0, locals := 67 }, false, 0, 6)
abbrev mI_135 : MI := (RX6, yX6_readText, cX6_readText, 2, (some .boolean), { frames := 4, cells := 0, slots := 0, locals := 89 }, false, 0, 6)
abbrev mI_136 : MI := (RX6, yX6_whyNotOrder, cX6_whyNotOrder, 4, (some .int), { frames := 6, cells := 0, slots := 0, locals := 135 }, false, 1, 6)
abbrev mI_137 : MI := (RX6, yX6_doOrder, cX6_doOrder, 3, none, { frames := 8, cells := 0, slots := 0, locals := 177 }, false, 1, 6)
abbrev mI_138 : MI := (RX6, yX6_perform, cX6_perform, 3, (some .int), { frames := 9, cells := 0, slots := 0, locals := 199 }, false, 0, 6)
abbrev mI_139 : MI := (RX6, yX6_stopped, cX6_stopped, 2, (some .int), { frames := 1, cells := 0, slots := 0, locals := 22 }, false, 1, 6)
abbrev mI_140 : MI := (RX6, yX6_taxi, cX6_taxi, 4, (some .int), { frames := 3, cells := 0, slots := 0, locals := 64 }, false, 2, 6)
abbrev mI_141 : MI := (RX6, yX6_line, cX6_line, 2, (some .int), { frames := 0, cells := 0, slots := 0, locals := 0 }, false, 1, 6)
abbrev mI_142 : MI := (RX6, yX6_plate, cX6_plate, 2, (some .int), { frames := 1, cells := 0, slots := 0, locals := 22 }, false, 1, 6)
abbrev mI_143 : MI := (RX6, yX6_waiting, cX6_waiting, 3, (some .int), { frames := 1, cells := 0, slots := 0, locals := 22 }, false, 2, 6)
abbrev mI_144 : MI := (RX6, yX6_rides, cX6_rides, 3, (some .int), { frames := 4, cells := 0, slots := 0, locals := 90 }, false, 1, 6)
abbrev mI_145 : MI := (RX6, yX6_ifCalled, cX6_ifCalled, 5, (some .int), { frames := 5, cells := 0, slots := 0, locals := 113 }, false, 3, 6)
abbrev mI_146 : MI := (RX6, yX6_reason, cX6_reason, 4, (some .int), { frames := 4, cells := 0, slots := 0, locals := 90 }, false, 2, 6)
abbrev mI_147 : MI := (RX6, yX6_ridesIn, cX6_ridesIn, 5, (some .int), { frames := 7, cells := 0, slots := 0, locals := 154 }, false, 1, 6)
abbrev mI_148 : MI := (RX6, yX6_inLineIn, cX6_inLineIn, 4, (some .int), { frames := 7, cells := 0, slots := 0, locals := 154 }, false, 1, 6)
abbrev mI_149 : MI := (RX6, yX6_shares, cX6_shares, 5, (some .int), { frames := 1, cells := 0, slots := 0, locals := 22 }, false, 1, 6)
abbrev mI_150 : MI := (RX6, yX6_count, cX6_count, 2, (some .int), { frames := 0, cells := 0, slots := 0, locals := 0 }, false, 1, 6)
abbrev mI_151 : MI := (RL, yL_law, cL_law, 4, (some .boolean), room_1, false, 1, 98)
def mtab_0 : List MI := [mI_0, mI_1, mI_2, mI_3, mI_4, mI_5, mI_6, mI_7, mI_8, mI_9, mI_10, mI_11, mI_12, mI_13, mI_14, mI_15, mI_16, mI_17, mI_18, mI_19, mI_20, mI_21, mI_22, mI_23, mI_24, mI_25, mI_26, mI_27, mI_28, mI_29, mI_30, mI_31, mI_32, mI_33, mI_34, mI_35, mI_36, mI_37, mI_38, mI_39]
def mtab_1 : List MI := [mI_40, mI_41, mI_42, mI_43, mI_44, mI_45, mI_46, mI_47, mI_48, mI_49, mI_50, mI_51, mI_52, mI_53, mI_54, mI_55, mI_56, mI_57, mI_58, mI_59, mI_60, mI_61, mI_62, mI_63, mI_64, mI_65, mI_66, mI_67, mI_68, mI_69, mI_70, mI_71, mI_72, mI_73, mI_74, mI_75, mI_76, mI_77, mI_78, mI_79]
def mtab_2 : List MI := [mI_80, mI_81, mI_82, mI_83, mI_84, mI_85, mI_86, mI_87, mI_88, mI_89, mI_90, mI_91, mI_92, mI_93, mI_94, mI_95, mI_96, mI_97, mI_98, mI_99, mI_100, mI_101, mI_102, mI_103, mI_104, mI_105, mI_106, mI_107, mI_108, mI_109, mI_110, mI_111, mI_112, mI_113, mI_114, mI_115, mI_116, mI_117, mI_118, mI_119]
def mtab_3 : List MI := [mI_120, mI_121, mI_122, mI_123, mI_124, mI_125, mI_126, mI_127, mI_128, mI_129, mI_130, mI_131, mI_132, mI_133, mI_134, mI_135, mI_136, mI_137, mI_138, mI_139, mI_140, mI_141, mI_142, mI_143, mI_144, mI_145, mI_146, mI_147, mI_148, mI_149, mI_150, mI_151]
def mth (id : Nat) : MI := if id < 40 then mtab_0.getD id mI_0 else if id < 80 then mtab_1.getD (id - 40) mI_0 else if id < 120 then mtab_2.getD (id - 80) mI_0 else mtab_3.getD (id - 120) mI_0
def mown (id : Nat) : String := (mth id).1
def mnm (id : Nat) : MethodName := (mth id).2.1
def mcc (id : Nat) : ByteArray := (mth id).2.2.1
def mmx (id : Nat) : Nat := (mth id).2.2.2.1
def mret (id : Nat) : Option FieldType := (mth id).2.2.2.2.1
def mrm (id : Nat) : Room := (mth id).2.2.2.2.2.1
def mini (id : Nat) : Bool := (mth id).2.2.2.2.2.2.1
def mnp (id : Nat) : Nat := (mth id).2.2.2.2.2.2.2.1
def mkd (id : Nat) : Nat := (mth id).2.2.2.2.2.2.2.2
/-- the words of the tables that go along -/
def allW : List Cond := lw_tbl.filter goodWord
theorem allW_of {w : Cond} (h : w ∈ lw_tbl) (hg : goodWord w = true) : w ∈ allW := List.mem_filter.mpr ⟨h, hg⟩
theorem tm_s {w : Cond} (i : Nat) (h : (k2_sels lw_privs)[i]? = some w) (hg : goodWord w = true) : w ∈ allW := allW_of (List.mem_append_left _ (List.mem_of_getElem? h)) hg
theorem tm_1 {w : Cond} (i : Nat) (h : tables_1_1[i]? = some w) (hg : goodWord w = true) : w ∈ allW := allW_of (List.mem_append_right _ (List.mem_append_left _ (List.mem_of_getElem? h))) hg
theorem tm_2 {w : Cond} (i : Nat) (h : tables_1_2[i]? = some w) (hg : goodWord w = true) : w ∈ allW := allW_of (List.mem_append_right _ (List.mem_append_right _ (List.mem_append_left _ (List.mem_of_getElem? h)))) hg
theorem tm_3 {w : Cond} (i : Nat) (h : tables_1_3[i]? = some w) (hg : goodWord w = true) : w ∈ allW := allW_of (List.mem_append_right _ (List.mem_append_right _ (List.mem_append_right _ (List.mem_append_left _ (List.mem_of_getElem? h))))) hg
theorem tm_4 {w : Cond} (i : Nat) (h : tables_1_4[i]? = some w) (hg : goodWord w = true) : w ∈ allW := allW_of (List.mem_append_right _ (List.mem_append_right _ (List.mem_append_right _ (List.mem_append_right _ (List.mem_of_getElem? h))))) hg
/-- a code list's entry: pc, instruction, length, and what it is resolved to (a, b, v, rows of a switch) -/
abbrev CI : Type := Instr × Nat × Nat × Nat × Int32 × List (Int32 × Nat)
def cNm : Nat → String := fun k => match k with | 0 => RX0 | 1 => RX1 | 2 => RX2 | 3 => RX3 | 4 => RX4 | 5 => RX5 | _ => RX6
def cT : Nat → u_T := fun k => match k with | 0 => TX0 | 1 => TX1 | 2 => TX2 | 3 => TX3 | 4 => TX4 | 5 => TX5 | _ => TX6
def cTy : Nat → Nat → FieldType := fun k => match k with | 0 => tyX0 | 1 => tyX1 | 2 => tyX2 | 3 => tyX3 | 4 => tyX4 | 5 => tyX5 | _ => tyX6
def nFl : Nat → Nat := fun k => match k with | 0 => 2 | 1 => 7 | 2 => 5 | 3 => 12 | 4 => 12 | 5 => 10 | 6 => 15 | _ => 0
theorem cl_at {k : Nat} (h : k < 7) : vwCl[k]? = some (cNm k, cT k, nFl k) := by
  match k, h with
  | 0, _ => rfl
  | 1, _ => rfl
  | 2, _ => rfl
  | 3, _ => rfl
  | 4, _ => rfl
  | 5, _ => rfl
  | 6, _ => rfl
theorem cTy_ok {k : Nat} (h : k < 7) : ∀ j, j < nFl k → parseFieldDescriptor (cT k j).2.2.1 = some (cTy k j) := by
  match k, h with
  | 0, _ => exact tyX0_ok
  | 1, _ => exact tyX1_ok
  | 2, _ => exact tyX2_ok
  | 3, _ => exact tyX3_ok
  | 4, _ => exact tyX4_ok
  | 5, _ => exact tyX5_ok
  | 6, _ => exact tyX6_ok
theorem cNmx {k : Nat} (h : k < 7) : ∀ a, a < nFl k → ∀ b, b < nFl k → a ≠ b → (cT k a).2.1 ≠ (cT k b).2.1 := by
  match k, h with
  | 0, _ => exact nmX0
  | 1, _ => exact nmX1
  | 2, _ => exact nmX2
  | 3, _ => exact nmX3
  | 4, _ => exact nmX4
  | 5, _ => exact nmX5
  | 6, _ => exact nmX6
theorem inW_0 : ∀ w ∈ u_ws (cNm 0) (cT 0) (nFl 0), w ∈ allW := show ∀ w ∈ [u_lay (cNm 0) (cT 0) 0, u_lay (cNm 0) (cT 0) 1], w ∈ allW from List.forall_mem_cons.mpr ⟨(tm_1 185 rfl rfl), List.forall_mem_cons.mpr ⟨(tm_1 187 rfl rfl), fun _ h => absurd h List.not_mem_nil⟩⟩
theorem inW_1 : ∀ w ∈ u_ws (cNm 1) (cT 1) (nFl 1), w ∈ allW := show ∀ w ∈ [u_lay (cNm 1) (cT 1) 0, u_lay (cNm 1) (cT 1) 1, u_lay (cNm 1) (cT 1) 2, u_lay (cNm 1) (cT 1) 3, u_lay (cNm 1) (cT 1) 4, u_lay (cNm 1) (cT 1) 5, u_lay (cNm 1) (cT 1) 6], w ∈ allW from List.forall_mem_cons.mpr ⟨(tm_1 207 rfl rfl), List.forall_mem_cons.mpr ⟨(tm_1 209 rfl rfl), List.forall_mem_cons.mpr ⟨(tm_1 211 rfl rfl), List.forall_mem_cons.mpr ⟨(tm_1 213 rfl rfl), List.forall_mem_cons.mpr ⟨(tm_1 215 rfl rfl), List.forall_mem_cons.mpr ⟨(tm_1 217 rfl rfl), List.forall_mem_cons.mpr ⟨(tm_1 219 rfl rfl), fun _ h => absurd h List.not_mem_nil⟩⟩⟩⟩⟩⟩⟩
theorem inW_2 : ∀ w ∈ u_ws (cNm 2) (cT 2) (nFl 2), w ∈ allW := show ∀ w ∈ [u_lay (cNm 2) (cT 2) 0, u_lay (cNm 2) (cT 2) 1, u_lay (cNm 2) (cT 2) 2, u_lay (cNm 2) (cT 2) 3, u_lay (cNm 2) (cT 2) 4], w ∈ allW from List.forall_mem_cons.mpr ⟨(tm_1 107 rfl rfl), List.forall_mem_cons.mpr ⟨(tm_1 109 rfl rfl), List.forall_mem_cons.mpr ⟨(tm_1 111 rfl rfl), List.forall_mem_cons.mpr ⟨(tm_1 113 rfl rfl), List.forall_mem_cons.mpr ⟨(tm_1 115 rfl rfl), fun _ h => absurd h List.not_mem_nil⟩⟩⟩⟩⟩
theorem inW_3 : ∀ w ∈ u_ws (cNm 3) (cT 3) (nFl 3), w ∈ allW := show ∀ w ∈ [u_lay (cNm 3) (cT 3) 0, u_lay (cNm 3) (cT 3) 1, u_lay (cNm 3) (cT 3) 2, u_lay (cNm 3) (cT 3) 3, u_lay (cNm 3) (cT 3) 4, u_lay (cNm 3) (cT 3) 5, u_lay (cNm 3) (cT 3) 6, u_lay (cNm 3) (cT 3) 7, u_lay (cNm 3) (cT 3) 8, u_lay (cNm 3) (cT 3) 9, u_lay (cNm 3) (cT 3) 10, u_lay (cNm 3) (cT 3) 11], w ∈ allW from List.forall_mem_cons.mpr ⟨(tm_1 64 rfl rfl), List.forall_mem_cons.mpr ⟨(tm_1 66 rfl rfl), List.forall_mem_cons.mpr ⟨(tm_1 68 rfl rfl), List.forall_mem_cons.mpr ⟨(tm_1 70 rfl rfl), List.forall_mem_cons.mpr ⟨(tm_1 72 rfl rfl), List.forall_mem_cons.mpr ⟨(tm_1 74 rfl rfl), List.forall_mem_cons.mpr ⟨(tm_1 76 rfl rfl), List.forall_mem_cons.mpr ⟨(tm_1 78 rfl rfl), List.forall_mem_cons.mpr ⟨(tm_1 80 rfl rfl), List.forall_mem_cons.mpr ⟨(tm_1 82 rfl rfl), List.forall_mem_cons.mpr ⟨(tm_1 84 rfl rfl), List.forall_mem_cons.mpr ⟨(tm_1 86 rfl rfl), fun _ h => absurd h List.not_mem_nil⟩⟩⟩⟩⟩⟩⟩⟩⟩⟩⟩⟩
theorem inW_4 : ∀ w ∈ u_ws (cNm 4) (cT 4) (nFl 4), w ∈ allW := show ∀ w ∈ [u_lay (cNm 4) (cT 4) 0, u_lay (cNm 4) (cT 4) 1, u_lay (cNm 4) (cT 4) 2, u_lay (cNm 4) (cT 4) 3, u_lay (cNm 4) (cT 4) 4, u_lay (cNm 4) (cT 4) 5, u_lay (cNm 4) (cT 4) 6, u_lay (cNm 4) (cT 4) 7, u_lay (cNm 4) (cT 4) 8, u_lay (cNm 4) (cT 4) 9, u_lay (cNm 4) (cT 4) 10, u_lay (cNm 4) (cT 4) 11], w ∈ allW from List.forall_mem_cons.mpr ⟨(tm_1 148 rfl rfl), List.forall_mem_cons.mpr ⟨(tm_1 150 rfl rfl), List.forall_mem_cons.mpr ⟨(tm_1 152 rfl rfl), List.forall_mem_cons.mpr ⟨(tm_1 154 rfl rfl), List.forall_mem_cons.mpr ⟨(tm_1 156 rfl rfl), List.forall_mem_cons.mpr ⟨(tm_1 158 rfl rfl), List.forall_mem_cons.mpr ⟨(tm_1 160 rfl rfl), List.forall_mem_cons.mpr ⟨(tm_1 162 rfl rfl), List.forall_mem_cons.mpr ⟨(tm_1 164 rfl rfl), List.forall_mem_cons.mpr ⟨(tm_1 166 rfl rfl), List.forall_mem_cons.mpr ⟨(tm_1 168 rfl rfl), List.forall_mem_cons.mpr ⟨(tm_1 170 rfl rfl), fun _ h => absurd h List.not_mem_nil⟩⟩⟩⟩⟩⟩⟩⟩⟩⟩⟩⟩
theorem inW_5 : ∀ w ∈ u_ws (cNm 5) (cT 5) (nFl 5), w ∈ allW := show ∀ w ∈ [u_lay (cNm 5) (cT 5) 0, u_lay (cNm 5) (cT 5) 1, u_lay (cNm 5) (cT 5) 2, u_lay (cNm 5) (cT 5) 3, u_lay (cNm 5) (cT 5) 4, u_lay (cNm 5) (cT 5) 5, u_lay (cNm 5) (cT 5) 6, u_lay (cNm 5) (cT 5) 7, u_lay (cNm 5) (cT 5) 8, u_lay (cNm 5) (cT 5) 9], w ∈ allW from List.forall_mem_cons.mpr ⟨(tm_1 233 rfl rfl), List.forall_mem_cons.mpr ⟨(tm_1 235 rfl rfl), List.forall_mem_cons.mpr ⟨(tm_1 237 rfl rfl), List.forall_mem_cons.mpr ⟨(tm_1 239 rfl rfl), List.forall_mem_cons.mpr ⟨(tm_2 1 rfl rfl), List.forall_mem_cons.mpr ⟨(tm_2 3 rfl rfl), List.forall_mem_cons.mpr ⟨(tm_2 5 rfl rfl), List.forall_mem_cons.mpr ⟨(tm_2 7 rfl rfl), List.forall_mem_cons.mpr ⟨(tm_2 9 rfl rfl), List.forall_mem_cons.mpr ⟨(tm_2 11 rfl rfl), fun _ h => absurd h List.not_mem_nil⟩⟩⟩⟩⟩⟩⟩⟩⟩⟩
theorem inW_6 : ∀ w ∈ u_ws (cNm 6) (cT 6) (nFl 6), w ∈ allW := show ∀ w ∈ [u_lay (cNm 6) (cT 6) 0, u_lay (cNm 6) (cT 6) 1, u_lay (cNm 6) (cT 6) 2, u_lay (cNm 6) (cT 6) 3, u_lay (cNm 6) (cT 6) 4, u_lay (cNm 6) (cT 6) 5, u_lay (cNm 6) (cT 6) 6, u_lay (cNm 6) (cT 6) 7, u_lay (cNm 6) (cT 6) 8, u_lay (cNm 6) (cT 6) 9, u_lay (cNm 6) (cT 6) 10, u_lay (cNm 6) (cT 6) 11, u_lay (cNm 6) (cT 6) 12, u_lay (cNm 6) (cT 6) 13, u_lay (cNm 6) (cT 6) 14], w ∈ allW from List.forall_mem_cons.mpr ⟨(tm_3 117 rfl rfl), List.forall_mem_cons.mpr ⟨(tm_3 119 rfl rfl), List.forall_mem_cons.mpr ⟨(tm_3 121 rfl rfl), List.forall_mem_cons.mpr ⟨(tm_3 123 rfl rfl), List.forall_mem_cons.mpr ⟨(tm_3 125 rfl rfl), List.forall_mem_cons.mpr ⟨(tm_3 127 rfl rfl), List.forall_mem_cons.mpr ⟨(tm_3 129 rfl rfl), List.forall_mem_cons.mpr ⟨(tm_3 131 rfl rfl), List.forall_mem_cons.mpr ⟨(tm_3 133 rfl rfl), List.forall_mem_cons.mpr ⟨(tm_3 135 rfl rfl), List.forall_mem_cons.mpr ⟨(tm_3 137 rfl rfl), List.forall_mem_cons.mpr ⟨(tm_3 139 rfl rfl), List.forall_mem_cons.mpr ⟨(tm_3 141 rfl rfl), List.forall_mem_cons.mpr ⟨(tm_3 143 rfl rfl), List.forall_mem_cons.mpr ⟨(tm_3 145 rfl rfl), fun _ h => absurd h List.not_mem_nil⟩⟩⟩⟩⟩⟩⟩⟩⟩⟩⟩⟩⟩⟩⟩
theorem inW {k : Nat} (h : k < 7) : ∀ w ∈ u_ws (cNm k) (cT k) (nFl k), w ∈ allW := by
  match k, h with
  | 0, _ => exact inW_0
  | 1, _ => exact inW_1
  | 2, _ => exact inW_2
  | 3, _ => exact inW_3
  | 4, _ => exact inW_4
  | 5, _ => exact inW_5
  | 6, _ => exact inW_6
