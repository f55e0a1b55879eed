section
-- begun from the kit's printed starting texts (SKELETON part A, NAMES)
-- ===== PART A: goes FIRST, ahead of the names: the tables' words, and 'selects' of the private methods out of them =====
/-- a private method of a class that the tables say can be made, by its rows of tables_1 -/
def lw_okq (q : MethodName × Nat) : Prop := (q.1.cls ≠ "java/lang/invoke/MethodHandle" ∧ q.1.cls ≠ "java/lang/invoke/VarHandle") ∧ Cond.instantiable q.1.cls q.2 ∈ tables_1 ∧ Cond.privateMethod q.1 ∈ tables_1 ∧ Cond.instanceMethod q.1 ∈ tables_1
theorem lw_p0 : lw_okq (⟨"TaxiRank$Town", "register", "(I)LTaxiRank$Taxi;"⟩, 12) := ⟨⟨by decide +kernel, by decide +kernel⟩, List.mem_of_getElem? (i := 19) (by decide +kernel), List.mem_of_getElem? (i := 280) (by decide +kernel), List.mem_of_getElem? (i := 281) (by decide +kernel)⟩
theorem lw_p1 : lw_okq (⟨"TaxiRank$Town", "standLast", "(LTaxiRank$Taxi;)V"⟩, 12) := ⟨⟨by decide +kernel, by decide +kernel⟩, List.mem_of_getElem? (i := 19) (by decide +kernel), List.mem_of_getElem? (i := 284) (by decide +kernel), List.mem_of_getElem? (i := 285) (by decide +kernel)⟩
theorem lw_p2 : lw_okq (⟨"TaxiRank$Town", "standAt", "(LTaxiRank$Taxi;IZ)V"⟩, 12) := ⟨⟨by decide +kernel, by decide +kernel⟩, List.mem_of_getElem? (i := 19) (by decide +kernel), List.mem_of_getElem? (i := 288) (by decide +kernel), List.mem_of_getElem? (i := 289) (by decide +kernel)⟩
theorem lw_p3 : lw_okq (⟨"TaxiRank", "recorded", "(I)I"⟩, 10) := ⟨⟨by decide +kernel, by decide +kernel⟩, List.mem_of_getElem? (i := 11) (by decide +kernel), List.mem_of_getElem? (i := 292) (by decide +kernel), List.mem_of_getElem? (i := 293) (by decide +kernel)⟩
theorem lw_p4 : lw_okq (⟨"TaxiRank$History", "dropOldest", "()V"⟩, 2) := ⟨⟨by decide +kernel, by decide +kernel⟩, List.mem_of_getElem? (i := 174) (by decide +kernel), List.mem_of_getElem? (i := 300) (by decide +kernel), List.mem_of_getElem? (i := 301) (by decide +kernel)⟩
theorem lw_p5 : lw_okq (⟨"TaxiRank$Town", "leaveLine", "(LTaxiRank$Taxi;)V"⟩, 12) := ⟨⟨by decide +kernel, by decide +kernel⟩, List.mem_of_getElem? (i := 19) (by decide +kernel), List.mem_of_getElem? (i := 317) (by decide +kernel), List.mem_of_getElem? (i := 318) (by decide +kernel)⟩
theorem lw_p6 : lw_okq (⟨"TaxiRank$Town", "nearer", "(LTaxiRank$Taxi;LTaxiRank$Taxi;I)LTaxiRank$Taxi;"⟩, 12) := ⟨⟨by decide +kernel, by decide +kernel⟩, List.mem_of_getElem? (i := 19) (by decide +kernel), List.mem_of_getElem? (i := 371) (by decide +kernel), List.mem_of_getElem? (i := 372) (by decide +kernel)⟩
theorem lw_p7 : lw_okq (⟨"TaxiRank$Town", "acceptFare", "(LTaxiRank$Taxi;II)V"⟩, 12) := ⟨⟨by decide +kernel, by decide +kernel⟩, List.mem_of_getElem? (i := 19) (by decide +kernel), List.mem_of_getElem? (i := 394) (by decide +kernel), List.mem_of_getElem? (i := 395) (by decide +kernel)⟩
theorem lw_p8 : lw_okq (⟨"TaxiRank$Town", "startRide", "(LTaxiRank$Taxi;)V"⟩, 12) := ⟨⟨by decide +kernel, by decide +kernel⟩, List.mem_of_getElem? (i := 19) (by decide +kernel), List.mem_of_getElem? (i := 402) (by decide +kernel), List.mem_of_getElem? (i := 403) (by decide +kernel)⟩
theorem lw_p9 : lw_okq (⟨"TaxiRank$Town", "minute", "()V"⟩, 12) := ⟨⟨by decide +kernel, by decide +kernel⟩, List.mem_of_getElem? (i := 19) (by decide +kernel), List.mem_of_getElem? (i := 415) (by decide +kernel), List.mem_of_getElem? (i := 416) (by decide +kernel)⟩
theorem lw_p10 : lw_okq (⟨"TaxiRank$Town", "goOn", "(LTaxiRank$Taxi;)V"⟩, 12) := ⟨⟨by decide +kernel, by decide +kernel⟩, List.mem_of_getElem? (i := 19) (by decide +kernel), List.mem_of_getElem? (i := 419) (by decide +kernel), List.mem_of_getElem? (i := 420) (by decide +kernel)⟩
theorem lw_p11 : lw_okq (⟨"TaxiRank$Town", "payFare", "(LTaxiRank$Taxi;)V"⟩, 12) := ⟨⟨by decide +kernel, by decide +kernel⟩, List.mem_of_getElem? (i := 19) (by decide +kernel), List.mem_of_getElem? (i := 423) (by decide +kernel), List.mem_of_getElem? (i := 424) (by decide +kernel)⟩
theorem lw_p12 : lw_okq (⟨"TaxiRank$Town", "comeBack", "(LTaxiRank$Taxi;)V"⟩, 12) := ⟨⟨by decide +kernel, by decide +kernel⟩, List.mem_of_getElem? (i := 19) (by decide +kernel), List.mem_of_getElem? (i := 430) (by decide +kernel), List.mem_of_getElem? (i := 431) (by decide +kernel)⟩
theorem lw_p13 : lw_okq (⟨"TaxiRank$Town", "standQuickly", "(LTaxiRank$Taxi;)V"⟩, 12) := ⟨⟨by decide +kernel, by decide +kernel⟩, List.mem_of_getElem? (i := 19) (by decide +kernel), List.mem_of_getElem? (i := 434) (by decide +kernel), List.mem_of_getElem? (i := 435) (by decide +kernel)⟩
theorem lw_p14 : lw_okq (⟨"TaxiRank$Town", "dismissImpatient", "()V"⟩, 12) := ⟨⟨by decide +kernel, by decide +kernel⟩, List.mem_of_getElem? (i := 19) (by decide +kernel), List.mem_of_getElem? (i := 438) (by decide +kernel), List.mem_of_getElem? (i := 439) (by decide +kernel)⟩
theorem lw_p15 : lw_okq (⟨"TaxiRank$Town", "seatPassengers", "()V"⟩, 12) := ⟨⟨by decide +kernel, by decide +kernel⟩, List.mem_of_getElem? (i := 19) (by decide +kernel), List.mem_of_getElem? (i := 446) (by decide +kernel), List.mem_of_getElem? (i := 447) (by decide +kernel)⟩
def lw_privs_1 : List (MethodName × Nat) := [(⟨"TaxiRank$Town", "register", "(I)LTaxiRank$Taxi;"⟩, 12), (⟨"TaxiRank$Town", "standLast", "(LTaxiRank$Taxi;)V"⟩, 12), (⟨"TaxiRank$Town", "standAt", "(LTaxiRank$Taxi;IZ)V"⟩, 12), (⟨"TaxiRank", "recorded", "(I)I"⟩, 10), (⟨"TaxiRank$History", "dropOldest", "()V"⟩, 2), (⟨"TaxiRank$Town", "leaveLine", "(LTaxiRank$Taxi;)V"⟩, 12), (⟨"TaxiRank$Town", "nearer", "(LTaxiRank$Taxi;LTaxiRank$Taxi;I)LTaxiRank$Taxi;"⟩, 12), (⟨"TaxiRank$Town", "acceptFare", "(LTaxiRank$Taxi;II)V"⟩, 12), (⟨"TaxiRank$Town", "startRide", "(LTaxiRank$Taxi;)V"⟩, 12), (⟨"TaxiRank$Town", "minute", "()V"⟩, 12), (⟨"TaxiRank$Town", "goOn", "(LTaxiRank$Taxi;)V"⟩, 12), (⟨"TaxiRank$Town", "payFare", "(LTaxiRank$Taxi;)V"⟩, 12), (⟨"TaxiRank$Town", "comeBack", "(LTaxiRank$Taxi;)V"⟩, 12), (⟨"TaxiRank$Town", "standQuickly", "(LTaxiRank$Taxi;)V"⟩, 12), (⟨"TaxiRank$Town", "dismissImpatient", "()V"⟩, 12), (⟨"TaxiRank$Town", "seatPassengers", "()V"⟩, 12)]
theorem lw_r1 : ∀ q ∈ lw_privs_1, lw_okq q := List.forall_mem_cons.mpr ⟨lw_p0, List.forall_mem_cons.mpr ⟨lw_p1, List.forall_mem_cons.mpr ⟨lw_p2, List.forall_mem_cons.mpr ⟨lw_p3, List.forall_mem_cons.mpr ⟨lw_p4, List.forall_mem_cons.mpr ⟨lw_p5, List.forall_mem_cons.mpr ⟨lw_p6, List.forall_mem_cons.mpr ⟨lw_p7, List.forall_mem_cons.mpr ⟨lw_p8, List.forall_mem_cons.mpr ⟨lw_p9, List.forall_mem_cons.mpr ⟨lw_p10, List.forall_mem_cons.mpr ⟨lw_p11, List.forall_mem_cons.mpr ⟨lw_p12, List.forall_mem_cons.mpr ⟨lw_p13, List.forall_mem_cons.mpr ⟨lw_p14, List.forall_mem_cons.mpr ⟨lw_p15, fun _ h => absurd h List.not_mem_nil⟩⟩⟩⟩⟩⟩⟩⟩⟩⟩⟩⟩⟩⟩⟩⟩
theorem lw_p16 : lw_okq (⟨"TaxiRank$Orders", "readOrder", "()Z"⟩, 7) := ⟨⟨by decide +kernel, by decide +kernel⟩, List.mem_of_getElem? (i := 191) (by decide +kernel), List.mem_of_getElem? (i := 470) (by decide +kernel), List.mem_of_getElem? (i := 471) (by decide +kernel)⟩
theorem lw_p17 : lw_okq (⟨"TaxiRank$Orders", "here", "()C"⟩, 7) := ⟨⟨by decide +kernel, by decide +kernel⟩, List.mem_of_getElem? (i := 191) (by decide +kernel), List.mem_of_getElem? (i := 474) (by decide +kernel), List.mem_of_getElem? (i := 475) (by decide +kernel)⟩
theorem lw_p18 : lw_okq (⟨"TaxiRank$Orders", "readNumber", "(II)I"⟩, 7) := ⟨⟨by decide +kernel, by decide +kernel⟩, List.mem_of_getElem? (i := 191) (by decide +kernel), List.mem_of_getElem? (i := 478) (by decide +kernel), List.mem_of_getElem? (i := 479) (by decide +kernel)⟩
theorem lw_p19 : lw_okq (⟨"TaxiRank$Orders", "digitHere", "()I"⟩, 7) := ⟨⟨by decide +kernel, by decide +kernel⟩, List.mem_of_getElem? (i := 191) (by decide +kernel), List.mem_of_getElem? (i := 482) (by decide +kernel), List.mem_of_getElem? (i := 483) (by decide +kernel)⟩
theorem lw_p20 : lw_okq (⟨"TaxiRank$Orders", "note", "(CII)V"⟩, 7) := ⟨⟨by decide +kernel, by decide +kernel⟩, List.mem_of_getElem? (i := 191) (by decide +kernel), List.mem_of_getElem? (i := 486) (by decide +kernel), List.mem_of_getElem? (i := 487) (by decide +kernel)⟩
theorem lw_p21 : lw_okq (⟨"TaxiRankModel", "record", "()V"⟩, 15) := ⟨⟨by decide +kernel, by decide +kernel⟩, List.mem_of_getElem? (i := 577) (by decide +kernel), List.mem_of_getElem? (i := 644) (by decide +kernel), List.mem_of_getElem? (i := 645) (by decide +kernel)⟩
theorem lw_p22 : lw_okq (⟨"TaxiRankModel", "recordRow", "([I)V"⟩, 15) := ⟨⟨by decide +kernel, by decide +kernel⟩, List.mem_of_getElem? (i := 577) (by decide +kernel), List.mem_of_getElem? (i := 648) (by decide +kernel), List.mem_of_getElem? (i := 649) (by decide +kernel)⟩
theorem lw_p23 : lw_okq (⟨"TaxiRankModel", "taxiWith", "(I)I"⟩, 15) := ⟨⟨by decide +kernel, by decide +kernel⟩, List.mem_of_getElem? (i := 577) (by decide +kernel), List.mem_of_getElem? (i := 659) (by decide +kernel), List.mem_of_getElem? (i := 660) (by decide +kernel)⟩
theorem lw_p24 : lw_okq (⟨"TaxiRankModel", "of", "(II)I"⟩, 15) := ⟨⟨by decide +kernel, by decide +kernel⟩, List.mem_of_getElem? (i := 577) (by decide +kernel), List.mem_of_getElem? (i := 663) (by decide +kernel), List.mem_of_getElem? (i := 664) (by decide +kernel)⟩
theorem lw_p25 : lw_okq (⟨"TaxiRankModel", "lay", "(III)V"⟩, 15) := ⟨⟨by decide +kernel, by decide +kernel⟩, List.mem_of_getElem? (i := 577) (by decide +kernel), List.mem_of_getElem? (i := 667) (by decide +kernel), List.mem_of_getElem? (i := 668) (by decide +kernel)⟩
theorem lw_p26 : lw_okq (⟨"TaxiRankModel", "standAt", "(II)V"⟩, 15) := ⟨⟨by decide +kernel, by decide +kernel⟩, List.mem_of_getElem? (i := 577) (by decide +kernel), List.mem_of_getElem? (i := 671) (by decide +kernel), List.mem_of_getElem? (i := 672) (by decide +kernel)⟩
theorem lw_p27 : lw_okq (⟨"TaxiRankModel", "leaveLine", "(I)V"⟩, 15) := ⟨⟨by decide +kernel, by decide +kernel⟩, List.mem_of_getElem? (i := 577) (by decide +kernel), List.mem_of_getElem? (i := 679) (by decide +kernel), List.mem_of_getElem? (i := 680) (by decide +kernel)⟩
theorem lw_p28 : lw_okq (⟨"TaxiRankModel", "placeInLine", "(I)I"⟩, 15) := ⟨⟨by decide +kernel, by decide +kernel⟩, List.mem_of_getElem? (i := 577) (by decide +kernel), List.mem_of_getElem? (i := 683) (by decide +kernel), List.mem_of_getElem? (i := 684) (by decide +kernel)⟩
theorem lw_p29 : lw_okq (⟨"TaxiRankModel", "begin", "(III)V"⟩, 15) := ⟨⟨by decide +kernel, by decide +kernel⟩, List.mem_of_getElem? (i := 577) (by decide +kernel), List.mem_of_getElem? (i := 687) (by decide +kernel), List.mem_of_getElem? (i := 688) (by decide +kernel)⟩
theorem lw_p30 : lw_okq (⟨"TaxiRankModel", "whyNotArrive", "(I)I"⟩, 15) := ⟨⟨by decide +kernel, by decide +kernel⟩, List.mem_of_getElem? (i := 577) (by decide +kernel), List.mem_of_getElem? (i := 702) (by decide +kernel), List.mem_of_getElem? (i := 703) (by decide +kernel)⟩
theorem lw_p31 : lw_okq (⟨"TaxiRankModel", "arriveNow", "(I)I"⟩, 15) := ⟨⟨by decide +kernel, by decide +kernel⟩, List.mem_of_getElem? (i := 577) (by decide +kernel), List.mem_of_getElem? (i := 709) (by decide +kernel), List.mem_of_getElem? (i := 710) (by decide +kernel)⟩
def lw_privs_2 : List (MethodName × Nat) := [(⟨"TaxiRank$Orders", "readOrder", "()Z"⟩, 7), (⟨"TaxiRank$Orders", "here", "()C"⟩, 7), (⟨"TaxiRank$Orders", "readNumber", "(II)I"⟩, 7), (⟨"TaxiRank$Orders", "digitHere", "()I"⟩, 7), (⟨"TaxiRank$Orders", "note", "(CII)V"⟩, 7), (⟨"TaxiRankModel", "record", "()V"⟩, 15), (⟨"TaxiRankModel", "recordRow", "([I)V"⟩, 15), (⟨"TaxiRankModel", "taxiWith", "(I)I"⟩, 15), (⟨"TaxiRankModel", "of", "(II)I"⟩, 15), (⟨"TaxiRankModel", "lay", "(III)V"⟩, 15), (⟨"TaxiRankModel", "standAt", "(II)V"⟩, 15), (⟨"TaxiRankModel", "leaveLine", "(I)V"⟩, 15), (⟨"TaxiRankModel", "placeInLine", "(I)I"⟩, 15), (⟨"TaxiRankModel", "begin", "(III)V"⟩, 15), (⟨"TaxiRankModel", "whyNotArrive", "(I)I"⟩, 15), (⟨"TaxiRankModel", "arriveNow", "(I)I"⟩, 15)]
theorem lw_r2 : ∀ q ∈ lw_privs_2, lw_okq q := List.forall_mem_cons.mpr ⟨lw_p16, List.forall_mem_cons.mpr ⟨lw_p17, List.forall_mem_cons.mpr ⟨lw_p18, List.forall_mem_cons.mpr ⟨lw_p19, List.forall_mem_cons.mpr ⟨lw_p20, List.forall_mem_cons.mpr ⟨lw_p21, List.forall_mem_cons.mpr ⟨lw_p22, List.forall_mem_cons.mpr ⟨lw_p23, List.forall_mem_cons.mpr ⟨lw_p24, List.forall_mem_cons.mpr ⟨lw_p25, List.forall_mem_cons.mpr ⟨lw_p26, List.forall_mem_cons.mpr ⟨lw_p27, List.forall_mem_cons.mpr ⟨lw_p28, List.forall_mem_cons.mpr ⟨lw_p29, List.forall_mem_cons.mpr ⟨lw_p30, List.forall_mem_cons.mpr ⟨lw_p31, fun _ h => absurd h List.not_mem_nil⟩⟩⟩⟩⟩⟩⟩⟩⟩⟩⟩⟩⟩⟩⟩⟩
theorem lw_p32 : lw_okq (⟨"TaxiRankModel", "whyNotCall", "(II)I"⟩, 15) := ⟨⟨by decide +kernel, by decide +kernel⟩, List.mem_of_getElem? (i := 577) (by decide +kernel), List.mem_of_getElem? (i := 717) (by decide +kernel), List.mem_of_getElem? (i := 718) (by decide +kernel)⟩
theorem lw_p33 : lw_okq (⟨"TaxiRankModel", "callee", "(I)I"⟩, 15) := ⟨⟨by decide +kernel, by decide +kernel⟩, List.mem_of_getElem? (i := 577) (by decide +kernel), List.mem_of_getElem? (i := 721) (by decide +kernel), List.mem_of_getElem? (i := 722) (by decide +kernel)⟩
theorem lw_p34 : lw_okq (⟨"TaxiRankModel", "needs", "(II)I"⟩, 15) := ⟨⟨by decide +kernel, by decide +kernel⟩, List.mem_of_getElem? (i := 577) (by decide +kernel), List.mem_of_getElem? (i := 725) (by decide +kernel), List.mem_of_getElem? (i := 726) (by decide +kernel)⟩
theorem lw_p35 : lw_okq (⟨"TaxiRankModel", "mayTake", "(I)Z"⟩, 15) := ⟨⟨by decide +kernel, by decide +kernel⟩, List.mem_of_getElem? (i := 577) (by decide +kernel), List.mem_of_getElem? (i := 729) (by decide +kernel), List.mem_of_getElem? (i := 730) (by decide +kernel)⟩
theorem lw_p36 : lw_okq (⟨"TaxiRankModel", "staysHome", "(I)Z"⟩, 15) := ⟨⟨by decide +kernel, by decide +kernel⟩, List.mem_of_getElem? (i := 577) (by decide +kernel), List.mem_of_getElem? (i := 733) (by decide +kernel), List.mem_of_getElem? (i := 734) (by decide +kernel)⟩
theorem lw_p37 : lw_okq (⟨"TaxiRankModel", "isTired", "(I)Z"⟩, 15) := ⟨⟨by decide +kernel, by decide +kernel⟩, List.mem_of_getElem? (i := 577) (by decide +kernel), List.mem_of_getElem? (i := 737) (by decide +kernel), List.mem_of_getElem? (i := 738) (by decide +kernel)⟩
theorem lw_p38 : lw_okq (⟨"TaxiRankModel", "callNow", "(II)I"⟩, 15) := ⟨⟨by decide +kernel, by decide +kernel⟩, List.mem_of_getElem? (i := 577) (by decide +kernel), List.mem_of_getElem? (i := 744) (by decide +kernel), List.mem_of_getElem? (i := 745) (by decide +kernel)⟩
theorem lw_p39 : lw_okq (⟨"TaxiRankModel", "takeFare", "(IIIZ)V"⟩, 15) := ⟨⟨by decide +kernel, by decide +kernel⟩, List.mem_of_getElem? (i := 577) (by decide +kernel), List.mem_of_getElem? (i := 748) (by decide +kernel), List.mem_of_getElem? (i := 749) (by decide +kernel)⟩
theorem lw_p40 : lw_okq (⟨"TaxiRankModel", "tally", "(II)V"⟩, 15) := ⟨⟨by decide +kernel, by decide +kernel⟩, List.mem_of_getElem? (i := 577) (by decide +kernel), List.mem_of_getElem? (i := 752) (by decide +kernel), List.mem_of_getElem? (i := 753) (by decide +kernel)⟩
theorem lw_p41 : lw_okq (⟨"TaxiRankModel", "ride", "(I)V"⟩, 15) := ⟨⟨by decide +kernel, by decide +kernel⟩, List.mem_of_getElem? (i := 577) (by decide +kernel), List.mem_of_getElem? (i := 756) (by decide +kernel), List.mem_of_getElem? (i := 757) (by decide +kernel)⟩
theorem lw_p42 : lw_okq (⟨"TaxiRankModel", "whyNotPass", "(I)I"⟩, 15) := ⟨⟨by decide +kernel, by decide +kernel⟩, List.mem_of_getElem? (i := 577) (by decide +kernel), List.mem_of_getElem? (i := 764) (by decide +kernel), List.mem_of_getElem? (i := 765) (by decide +kernel)⟩
theorem lw_p43 : lw_okq (⟨"TaxiRankModel", "passNow", "(I)I"⟩, 15) := ⟨⟨by decide +kernel, by decide +kernel⟩, List.mem_of_getElem? (i := 577) (by decide +kernel), List.mem_of_getElem? (i := 769) (by decide +kernel), List.mem_of_getElem? (i := 770) (by decide +kernel)⟩
theorem lw_p44 : lw_okq (⟨"TaxiRankModel", "minute", "()V"⟩, 15) := ⟨⟨by decide +kernel, by decide +kernel⟩, List.mem_of_getElem? (i := 577) (by decide +kernel), List.mem_of_getElem? (i := 773) (by decide +kernel), List.mem_of_getElem? (i := 774) (by decide +kernel)⟩
theorem lw_p45 : lw_okq (⟨"TaxiRankModel", "end", "(I)V"⟩, 15) := ⟨⟨by decide +kernel, by decide +kernel⟩, List.mem_of_getElem? (i := 577) (by decide +kernel), List.mem_of_getElem? (i := 777) (by decide +kernel), List.mem_of_getElem? (i := 778) (by decide +kernel)⟩
theorem lw_p46 : lw_okq (⟨"TaxiRankModel", "bePaid", "(I)V"⟩, 15) := ⟨⟨by decide +kernel, by decide +kernel⟩, List.mem_of_getElem? (i := 577) (by decide +kernel), List.mem_of_getElem? (i := 781) (by decide +kernel), List.mem_of_getElem? (i := 782) (by decide +kernel)⟩
theorem lw_p47 : lw_okq (⟨"TaxiRankModel", "comeBack", "(I)V"⟩, 15) := ⟨⟨by decide +kernel, by decide +kernel⟩, List.mem_of_getElem? (i := 577) (by decide +kernel), List.mem_of_getElem? (i := 788) (by decide +kernel), List.mem_of_getElem? (i := 789) (by decide +kernel)⟩
def lw_privs_3 : List (MethodName × Nat) := [(⟨"TaxiRankModel", "whyNotCall", "(II)I"⟩, 15), (⟨"TaxiRankModel", "callee", "(I)I"⟩, 15), (⟨"TaxiRankModel", "needs", "(II)I"⟩, 15), (⟨"TaxiRankModel", "mayTake", "(I)Z"⟩, 15), (⟨"TaxiRankModel", "staysHome", "(I)Z"⟩, 15), (⟨"TaxiRankModel", "isTired", "(I)Z"⟩, 15), (⟨"TaxiRankModel", "callNow", "(II)I"⟩, 15), (⟨"TaxiRankModel", "takeFare", "(IIIZ)V"⟩, 15), (⟨"TaxiRankModel", "tally", "(II)V"⟩, 15), (⟨"TaxiRankModel", "ride", "(I)V"⟩, 15), (⟨"TaxiRankModel", "whyNotPass", "(I)I"⟩, 15), (⟨"TaxiRankModel", "passNow", "(I)I"⟩, 15), (⟨"TaxiRankModel", "minute", "()V"⟩, 15), (⟨"TaxiRankModel", "end", "(I)V"⟩, 15), (⟨"TaxiRankModel", "bePaid", "(I)V"⟩, 15), (⟨"TaxiRankModel", "comeBack", "(I)V"⟩, 15)]
theorem lw_r3 : ∀ q ∈ lw_privs_3, lw_okq q := List.forall_mem_cons.mpr ⟨lw_p32, List.forall_mem_cons.mpr ⟨lw_p33, List.forall_mem_cons.mpr ⟨lw_p34, List.forall_mem_cons.mpr ⟨lw_p35, List.forall_mem_cons.mpr ⟨lw_p36, List.forall_mem_cons.mpr ⟨lw_p37, List.forall_mem_cons.mpr ⟨lw_p38, List.forall_mem_cons.mpr ⟨lw_p39, List.forall_mem_cons.mpr ⟨lw_p40, List.forall_mem_cons.mpr ⟨lw_p41, List.forall_mem_cons.mpr ⟨lw_p42, List.forall_mem_cons.mpr ⟨lw_p43, List.forall_mem_cons.mpr ⟨lw_p44, List.forall_mem_cons.mpr ⟨lw_p45, List.forall_mem_cons.mpr ⟨lw_p46, List.forall_mem_cons.mpr ⟨lw_p47, fun _ h => absurd h List.not_mem_nil⟩⟩⟩⟩⟩⟩⟩⟩⟩⟩⟩⟩⟩⟩⟩⟩
theorem lw_p48 : lw_okq (⟨"TaxiRankModel", "quickOnes", "()I"⟩, 15) := ⟨⟨by decide +kernel, by decide +kernel⟩, List.mem_of_getElem? (i := 577) (by decide +kernel), List.mem_of_getElem? (i := 792) (by decide +kernel), List.mem_of_getElem? (i := 793) (by decide +kernel)⟩
theorem lw_p49 : lw_okq (⟨"TaxiRankModel", "waits", "(II)I"⟩, 15) := ⟨⟨by decide +kernel, by decide +kernel⟩, List.mem_of_getElem? (i := 577) (by decide +kernel), List.mem_of_getElem? (i := 796) (by decide +kernel), List.mem_of_getElem? (i := 797) (by decide +kernel)⟩
theorem lw_p50 : lw_okq (⟨"TaxiRankModel", "goes", "(I)V"⟩, 15) := ⟨⟨by decide +kernel, by decide +kernel⟩, List.mem_of_getElem? (i := 577) (by decide +kernel), List.mem_of_getElem? (i := 800) (by decide +kernel), List.mem_of_getElem? (i := 801) (by decide +kernel)⟩
theorem lw_p51 : lw_okq (⟨"TaxiRankModel", "riderTo", "(I)I"⟩, 15) := ⟨⟨by decide +kernel, by decide +kernel⟩, List.mem_of_getElem? (i := 577) (by decide +kernel), List.mem_of_getElem? (i := 804) (by decide +kernel), List.mem_of_getElem? (i := 805) (by decide +kernel)⟩
theorem lw_p52 : lw_okq (⟨"TaxiRankModel", "readText", "()Z"⟩, 15) := ⟨⟨by decide +kernel, by decide +kernel⟩, List.mem_of_getElem? (i := 577) (by decide +kernel), List.mem_of_getElem? (i := 820) (by decide +kernel), List.mem_of_getElem? (i := 821) (by decide +kernel)⟩
theorem lw_p53 : lw_okq (⟨"TaxiRankModel", "readOrder", "()Z"⟩, 15) := ⟨⟨by decide +kernel, by decide +kernel⟩, List.mem_of_getElem? (i := 577) (by decide +kernel), List.mem_of_getElem? (i := 824) (by decide +kernel), List.mem_of_getElem? (i := 825) (by decide +kernel)⟩
theorem lw_p54 : lw_okq (⟨"TaxiRankModel", "takes", "(I)Z"⟩, 15) := ⟨⟨by decide +kernel, by decide +kernel⟩, List.mem_of_getElem? (i := 577) (by decide +kernel), List.mem_of_getElem? (i := 828) (by decide +kernel), List.mem_of_getElem? (i := 829) (by decide +kernel)⟩
theorem lw_p55 : lw_okq (⟨"TaxiRankModel", "sees", "(II)Z"⟩, 15) := ⟨⟨by decide +kernel, by decide +kernel⟩, List.mem_of_getElem? (i := 577) (by decide +kernel), List.mem_of_getElem? (i := 832) (by decide +kernel), List.mem_of_getElem? (i := 833) (by decide +kernel)⟩
theorem lw_p56 : lw_okq (⟨"TaxiRankModel", "number", "(II)I"⟩, 15) := ⟨⟨by decide +kernel, by decide +kernel⟩, List.mem_of_getElem? (i := 577) (by decide +kernel), List.mem_of_getElem? (i := 836) (by decide +kernel), List.mem_of_getElem? (i := 837) (by decide +kernel)⟩
theorem lw_p57 : lw_okq (⟨"TaxiRankModel", "whyNotOrder", "(I)I"⟩, 15) := ⟨⟨by decide +kernel, by decide +kernel⟩, List.mem_of_getElem? (i := 577) (by decide +kernel), List.mem_of_getElem? (i := 840) (by decide +kernel), List.mem_of_getElem? (i := 841) (by decide +kernel)⟩
theorem lw_p58 : lw_okq (⟨"TaxiRankModel", "doOrder", "(I)V"⟩, 15) := ⟨⟨by decide +kernel, by decide +kernel⟩, List.mem_of_getElem? (i := 577) (by decide +kernel), List.mem_of_getElem? (i := 844) (by decide +kernel), List.mem_of_getElem? (i := 845) (by decide +kernel)⟩
def lw_privs_4 : List (MethodName × Nat) := [(⟨"TaxiRankModel", "quickOnes", "()I"⟩, 15), (⟨"TaxiRankModel", "waits", "(II)I"⟩, 15), (⟨"TaxiRankModel", "goes", "(I)V"⟩, 15), (⟨"TaxiRankModel", "riderTo", "(I)I"⟩, 15), (⟨"TaxiRankModel", "readText", "()Z"⟩, 15), (⟨"TaxiRankModel", "readOrder", "()Z"⟩, 15), (⟨"TaxiRankModel", "takes", "(I)Z"⟩, 15), (⟨"TaxiRankModel", "sees", "(II)Z"⟩, 15), (⟨"TaxiRankModel", "number", "(II)I"⟩, 15), (⟨"TaxiRankModel", "whyNotOrder", "(I)I"⟩, 15), (⟨"TaxiRankModel", "doOrder", "(I)V"⟩, 15)]
theorem lw_r4 : ∀ q ∈ lw_privs_4, lw_okq q := List.forall_mem_cons.mpr ⟨lw_p48, List.forall_mem_cons.mpr ⟨lw_p49, List.forall_mem_cons.mpr ⟨lw_p50, List.forall_mem_cons.mpr ⟨lw_p51, List.forall_mem_cons.mpr ⟨lw_p52, List.forall_mem_cons.mpr ⟨lw_p53, List.forall_mem_cons.mpr ⟨lw_p54, List.forall_mem_cons.mpr ⟨lw_p55, List.forall_mem_cons.mpr ⟨lw_p56, List.forall_mem_cons.mpr ⟨lw_p57, List.forall_mem_cons.mpr ⟨lw_p58, fun _ h => absurd h List.not_mem_nil⟩⟩⟩⟩⟩⟩⟩⟩⟩⟩⟩
def lw_privs : List (MethodName × Nat) := lw_privs_1 ++ (lw_privs_2 ++ (lw_privs_3 ++ (lw_privs_4)))
def lw_tbl : List Cond := k2_sels lw_privs ++ tables_1
theorem lw_privs_ok : ∀ q ∈ lw_privs, lw_okq q := by
  show ∀ q ∈ lw_privs_1 ++ (lw_privs_2 ++ (lw_privs_3 ++ (lw_privs_4))), lw_okq q
  exact List.forall_mem_append.mpr ⟨lw_r1, List.forall_mem_append.mpr ⟨lw_r2, List.forall_mem_append.mpr ⟨lw_r3, lw_r4⟩⟩⟩

def RX0 : String := "TaxiRank$History"
def TX0 : u_T := fun k => match k with
  | 0 => ("TaxiRank$History", "states", "[LTaxiRank$Town;", true)
  | _ => ("TaxiRank$History", "amount", "I", false)
def tyX0 : Nat → FieldType := fun k => match k with
  | 0 => .array (.object "TaxiRank$Town")
  | _ => .int
abbrev wsX00 : List Cond := u_ws RX0 TX0 2
theorem nmX0 : ∀ a, a < 2 → ∀ b, b < 2 → a ≠ b → (TX0 a).2.1 ≠ (TX0 b).2.1 := by decide +kernel
theorem tyX0_ok : ∀ k, k < 2 → parseFieldDescriptor (TX0 k).2.2.1 = some (tyX0 k) := by decide +kernel
abbrev cX0_init : ByteArray := prog_2_method_1_code
def yX0_init : MethodName := ⟨RX0, "<init>", "()V"⟩
abbrev cX0_store : ByteArray := prog_2_method_2_code
def yX0_store : MethodName := ⟨RX0, "store", "(LTaxiRank$Town;)V"⟩
abbrev cX0_takeLatest : ByteArray := prog_2_method_3_code
def yX0_takeLatest : MethodName := ⟨RX0, "takeLatest", "(LTaxiRank$Town;)V"⟩
abbrev cX0_dropOldest : ByteArray := prog_2_method_4_code
def yX0_dropOldest : MethodName := ⟨RX0, "dropOldest", "()V"⟩
def RX1 : String := "TaxiRank$Orders"
def TX1 : u_T := fun k => match k with
  | 0 => ("TaxiRank$Orders", "amount", "I", false)
  | 1 => ("TaxiRank$Orders", "signs", "[C", true)
  | 2 => ("TaxiRank$Orders", "firsts", "[I", true)
  | 3 => ("TaxiRank$Orders", "seconds", "[I", true)
  | 4 => ("TaxiRank$Orders", "characters", "[C", false)
  | 5 => ("TaxiRank$Orders", "length", "I", false)
  | _ => ("TaxiRank$Orders", "at", "I", false)
def tyX1 : Nat → FieldType := fun k => match k with
  | 0 => .int
  | 1 => .array .char
  | 2 => .array .int
  | 3 => .array .int
  | 4 => .array .char
  | 5 => .int
  | _ => .int
abbrev wsX10 : List Cond := u_ws RX1 TX1 7
theorem nmX1 : ∀ a, a < 7 → ∀ b, b < 7 → a ≠ b → (TX1 a).2.1 ≠ (TX1 b).2.1 := by decide +kernel
theorem tyX1_ok : ∀ k, k < 7 → parseFieldDescriptor (TX1 k).2.2.1 = some (tyX1 k) := by decide +kernel
abbrev cX1_init : ByteArray := prog_3_method_1_code
def yX1_init : MethodName := ⟨RX1, "<init>", "()V"⟩
abbrev cX1_read : ByteArray := prog_3_method_2_code
def yX1_read : MethodName := ⟨RX1, "read", "([CI)I"⟩
abbrev cX1_readOrder : ByteArray := prog_3_method_3_code
def yX1_readOrder : MethodName := ⟨RX1, "readOrder", "()Z"⟩
abbrev cX1_readNumber : ByteArray := prog_3_method_4_code
def yX1_readNumber : MethodName := ⟨RX1, "readNumber", "(II)I"⟩
abbrev cX1_digitHere : ByteArray := prog_3_method_5_code
def yX1_digitHere : MethodName := ⟨RX1, "digitHere", "()I"⟩
abbrev cX1_here : ByteArray := prog_3_method_6_code
def yX1_here : MethodName := ⟨RX1, "here", "()C"⟩
abbrev cX1_note : ByteArray := prog_3_method_7_code
def yX1_note : MethodName := ⟨RX1, "note", "(CII)V"⟩
def RX2 : String := "TaxiRank$Queue"
def TX2 : u_T := fun k => match k with
  | 0 => ("TaxiRank$Queue", "length", "I", false)
  | 1 => ("TaxiRank$Queue", "wants", "[I", true)
  | 2 => ("TaxiRank$Queue", "came", "[I", true)
  | 3 => ("TaxiRank$Queue", "numbers", "[I", true)
  | _ => ("TaxiRank$Queue", "nextNumber", "I", false)
def tyX2 : Nat → FieldType := fun k => match k with
  | 0 => .int
  | 1 => .array .int
  | 2 => .array .int
  | 3 => .array .int
  | _ => .int
abbrev wsX20 : List Cond := u_ws RX2 TX2 5
theorem nmX2 : ∀ a, a < 5 → ∀ b, b < 5 → a ≠ b → (TX2 a).2.1 ≠ (TX2 b).2.1 := by decide +kernel
theorem tyX2_ok : ∀ k, k < 5 → parseFieldDescriptor (TX2 k).2.2.1 = some (tyX2 k) := by decide +kernel
abbrev cX2_init : ByteArray := prog_4_method_1_code
def yX2_init : MethodName := ⟨RX2, "<init>", "()V"⟩
abbrev cX2_copyFrom : ByteArray := prog_4_method_2_code
def yX2_copyFrom : MethodName := ⟨RX2, "copyFrom", "(LTaxiRank$Queue;)V"⟩
abbrev cX2_join : ByteArray := prog_4_method_3_code
def yX2_join : MethodName := ⟨RX2, "join", "(II)V"⟩
abbrev cX2_removeAt : ByteArray := prog_4_method_4_code
def yX2_removeAt : MethodName := ⟨RX2, "removeAt", "(I)V"⟩
abbrev cX2_holds : ByteArray := prog_4_method_5_code
def yX2_holds : MethodName := ⟨RX2, "holds", "(I)Z"⟩
def RX3 : String := "TaxiRank$Taxi"
def TX3 : u_T := fun k => match k with
  | 0 => ("TaxiRank$Taxi", "plate", "I", false)
  | 1 => ("TaxiRank$Taxi", "doing", "I", false)
  | 2 => ("TaxiRank$Taxi", "left", "I", false)
  | 3 => ("TaxiRank$Taxi", "atWheel", "I", false)
  | 4 => ("TaxiRank$Taxi", "fares", "I", false)
  | 5 => ("TaxiRank$Taxi", "longFares", "I", false)
  | 6 => ("TaxiRank$Taxi", "coins", "I", false)
  | 7 => ("TaxiRank$Taxi", "quickReturns", "I", false)
  | 8 => ("TaxiRank$Taxi", "quick", "Z", false)
  | 9 => ("TaxiRank$Taxi", "shortOfRank", "Z", false)
  | 10 => ("TaxiRank$Taxi", "from", "I", false)
  | _ => ("TaxiRank$Taxi", "to", "I", false)
def tyX3 : Nat → FieldType := fun k => match k with
  | 0 => .int
  | 1 => .int
  | 2 => .int
  | 3 => .int
  | 4 => .int
  | 5 => .int
  | 6 => .int
  | 7 => .int
  | 8 => .boolean
  | 9 => .boolean
  | 10 => .int
  | _ => .int
abbrev wsX30 : List Cond := u_ws RX3 TX3 12
theorem nmX3 : ∀ a, a < 12 → ∀ b, b < 12 → a ≠ b → (TX3 a).2.1 ≠ (TX3 b).2.1 := by decide +kernel
theorem tyX3_ok : ∀ k, k < 12 → parseFieldDescriptor (TX3 k).2.2.1 = some (tyX3 k) := by decide +kernel
abbrev cX3_init : ByteArray := prog_5_method_1_code
def yX3_init : MethodName := ⟨RX3, "<init>", "()V"⟩
abbrev cX3_copyFrom : ByteArray := prog_5_method_2_code
def yX3_copyFrom : MethodName := ⟨RX3, "copyFrom", "(LTaxiRank$Taxi;)V"⟩
abbrev cX3_isAtWheel : ByteArray := prog_5_method_3_code
def yX3_isAtWheel : MethodName := ⟨RX3, "isAtWheel", "()Z"⟩
abbrev cX3_begin : ByteArray := prog_5_method_4_code
def yX3_begin : MethodName := ⟨RX3, "begin", "(II)V"⟩
def RX4 : String := "TaxiRank$Town"
def TX4 : u_T := fun k => match k with
  | 0 => ("TaxiRank$Town", "taxis", "[LTaxiRank$Taxi;", true)
  | 1 => ("TaxiRank$Town", "taxiCount", "I", false)
  | 2 => ("TaxiRank$Town", "inLine", "[I", true)
  | 3 => ("TaxiRank$Town", "lineLength", "I", false)
  | 4 => ("TaxiRank$Town", "queue", "LTaxiRank$Queue;", true)
  | 5 => ("TaxiRank$Town", "settings", "[I", true)
  | 6 => ("TaxiRank$Town", "clock", "I", false)
  | 7 => ("TaxiRank$Town", "taken", "I", false)
  | 8 => ("TaxiRank$Town", "gone", "I", false)
  | 9 => ("TaxiRank$Town", "calls", "I", false)
  | 10 => ("TaxiRank$Town", "paid", "I", false)
  | _ => ("TaxiRank$Town", "minutesAtWheel", "I", false)
def tyX4 : Nat → FieldType := fun k => match k with
  | 0 => .array (.object "TaxiRank$Taxi")
  | 1 => .int
  | 2 => .array .int
  | 3 => .int
  | 4 => .object "TaxiRank$Queue"
  | 5 => .array .int
  | 6 => .int
  | 7 => .int
  | 8 => .int
  | 9 => .int
  | 10 => .int
  | _ => .int
abbrev wsX40 : List Cond := u_ws RX4 TX4 12
theorem nmX4 : ∀ a, a < 12 → ∀ b, b < 12 → a ≠ b → (TX4 a).2.1 ≠ (TX4 b).2.1 := by decide +kernel
theorem tyX4_ok : ∀ k, k < 12 → parseFieldDescriptor (TX4 k).2.2.1 = some (tyX4 k) := by decide +kernel
abbrev cX4_init : ByteArray := prog_6_method_1_code
def yX4_init : MethodName := ⟨RX4, "<init>", "()V"⟩
abbrev cX4_copyFrom : ByteArray := prog_6_method_2_code
def yX4_copyFrom : MethodName := ⟨RX4, "copyFrom", "(LTaxiRank$Town;)V"⟩
abbrev cX4_isPlace : ByteArray := prog_6_method_3_code
def yX4_isPlace : MethodName := ⟨RX4, "isPlace", "(I)Z"⟩
abbrev cX4_isSetting : ByteArray := prog_6_method_4_code
def yX4_isSetting : MethodName := ⟨RX4, "isSetting", "(I)Z"⟩
abbrev cX4_fareFor : ByteArray := prog_6_method_5_code
def yX4_fareFor : MethodName := ⟨RX4, "fareFor", "(II)I"⟩
abbrev cX4_welcome : ByteArray := prog_6_method_6_code
def yX4_welcome : MethodName := ⟨RX4, "welcome", "(I)I"⟩
abbrev cX4_sendHome : ByteArray := prog_6_method_7_code
def yX4_sendHome : MethodName := ⟨RX4, "sendHome", "(I)I"⟩
abbrev cX4_change : ByteArray := prog_6_method_8_code
def yX4_change : MethodName := ⟨RX4, "change", "(II)I"⟩
abbrev cX4_letJoin : ByteArray := prog_6_method_9_code
def yX4_letJoin : MethodName := ⟨RX4, "letJoin", "(I)I"⟩
abbrev cX4_takeCall : ByteArray := prog_6_method_10_code
def yX4_takeCall : MethodName := ⟨RX4, "takeCall", "(II)I"⟩
abbrev cX4_letPass : ByteArray := prog_6_method_11_code
def yX4_letPass : MethodName := ⟨RX4, "letPass", "(I)I"⟩
abbrev cX4_find : ByteArray := prog_6_method_12_code
def yX4_find : MethodName := ⟨RX4, "find", "(I)LTaxiRank$Taxi;"⟩
abbrev cX4_placeOf : ByteArray := prog_6_method_13_code
def yX4_placeOf : MethodName := ⟨RX4, "placeOf", "(LTaxiRank$Taxi;)I"⟩
abbrev cX4_staysHomeToday : ByteArray := prog_6_method_14_code
def yX4_staysHomeToday : MethodName := ⟨RX4, "staysHomeToday", "(LTaxiRank$Taxi;)Z"⟩
abbrev cX4_wasLongAtWheel : ByteArray := prog_6_method_15_code
def yX4_wasLongAtWheel : MethodName := ⟨RX4, "wasLongAtWheel", "(LTaxiRank$Taxi;)Z"⟩
abbrev cX4_mayTakeFare : ByteArray := prog_6_method_16_code
def yX4_mayTakeFare : MethodName := ⟨RX4, "mayTakeFare", "(LTaxiRank$Taxi;)Z"⟩
abbrev cX4_isLong : ByteArray := prog_6_method_17_code
def yX4_isLong : MethodName := ⟨RX4, "isLong", "(II)Z"⟩
abbrev cX4_taxiForRide : ByteArray := prog_6_method_18_code
def yX4_taxiForRide : MethodName := ⟨RX4, "taxiForRide", "(I)LTaxiRank$Taxi;"⟩
abbrev cX4_taxiForCall : ByteArray := prog_6_method_19_code
def yX4_taxiForCall : MethodName := ⟨RX4, "taxiForCall", "(I)LTaxiRank$Taxi;"⟩
abbrev cX4_nearer : ByteArray := prog_6_method_20_code
def yX4_nearer : MethodName := ⟨RX4, "nearer", "(LTaxiRank$Taxi;LTaxiRank$Taxi;I)LTaxiRank$Taxi;"⟩
abbrev cX4_minutesTo : ByteArray := prog_6_method_21_code
def yX4_minutesTo : MethodName := ⟨RX4, "minutesTo", "(LTaxiRank$Taxi;I)I"⟩
abbrev cX4_minutesUntilRide : ByteArray := prog_6_method_22_code
def yX4_minutesUntilRide : MethodName := ⟨RX4, "minutesUntilRide", "(I)I"⟩
abbrev cX4_minutesUntilInLine : ByteArray := prog_6_method_23_code
def yX4_minutesUntilInLine : MethodName := ⟨RX4, "minutesUntilInLine", "(LTaxiRank$Taxi;)I"⟩
abbrev cX4_minute : ByteArray := prog_6_method_24_code
def yX4_minute : MethodName := ⟨RX4, "minute", "()V"⟩
abbrev cX4_goOn : ByteArray := prog_6_method_25_code
def yX4_goOn : MethodName := ⟨RX4, "goOn", "(LTaxiRank$Taxi;)V"⟩
abbrev cX4_dismissImpatient : ByteArray := prog_6_method_26_code
def yX4_dismissImpatient : MethodName := ⟨RX4, "dismissImpatient", "()V"⟩
abbrev cX4_seatPassengers : ByteArray := prog_6_method_27_code
def yX4_seatPassengers : MethodName := ⟨RX4, "seatPassengers", "()V"⟩
abbrev cX4_acceptFare : ByteArray := prog_6_method_28_code
def yX4_acceptFare : MethodName := ⟨RX4, "acceptFare", "(LTaxiRank$Taxi;II)V"⟩
abbrev cX4_startRide : ByteArray := prog_6_method_29_code
def yX4_startRide : MethodName := ⟨RX4, "startRide", "(LTaxiRank$Taxi;)V"⟩
abbrev cX4_payFare : ByteArray := prog_6_method_30_code
def yX4_payFare : MethodName := ⟨RX4, "payFare", "(LTaxiRank$Taxi;)V"⟩
abbrev cX4_comeBack : ByteArray := prog_6_method_31_code
def yX4_comeBack : MethodName := ⟨RX4, "comeBack", "(LTaxiRank$Taxi;)V"⟩
abbrev cX4_standLast : ByteArray := prog_6_method_32_code
def yX4_standLast : MethodName := ⟨RX4, "standLast", "(LTaxiRank$Taxi;)V"⟩
abbrev cX4_standQuickly : ByteArray := prog_6_method_33_code
def yX4_standQuickly : MethodName := ⟨RX4, "standQuickly", "(LTaxiRank$Taxi;)V"⟩
abbrev cX4_standAt : ByteArray := prog_6_method_34_code
def yX4_standAt : MethodName := ⟨RX4, "standAt", "(LTaxiRank$Taxi;IZ)V"⟩
abbrev cX4_leaveLine : ByteArray := prog_6_method_35_code
def yX4_leaveLine : MethodName := ⟨RX4, "leaveLine", "(LTaxiRank$Taxi;)V"⟩
abbrev cX4_register : ByteArray := prog_6_method_36_code
def yX4_register : MethodName := ⟨RX4, "register", "(I)LTaxiRank$Taxi;"⟩
def RX5 : String := "TaxiRank"
def TX5 : u_T := fun k => match k with
  | 0 => ("TaxiRank", "town", "LTaxiRank$Town;", true)
  | 1 => ("TaxiRank", "spare", "LTaxiRank$Town;", true)
  | 2 => ("TaxiRank", "snapshot", "LTaxiRank$Town;", true)
  | 3 => ("TaxiRank", "hasSnapshot", "Z", false)
  | 4 => ("TaxiRank", "history", "LTaxiRank$History;", true)
  | 5 => ("TaxiRank", "text", "[C", true)
  | 6 => ("TaxiRank", "textLength", "I", false)
  | 7 => ("TaxiRank", "orders", "LTaxiRank$Orders;", true)
  | 8 => ("TaxiRank", "stoppedOrder", "I", false)
  | _ => ("TaxiRank", "stoppedError", "I", false)
def tyX5 : Nat → FieldType := fun k => match k with
  | 0 => .object "TaxiRank$Town"
  | 1 => .object "TaxiRank$Town"
  | 2 => .object "TaxiRank$Town"
  | 3 => .boolean
  | 4 => .object "TaxiRank$History"
  | 5 => .array .char
  | 6 => .int
  | 7 => .object "TaxiRank$Orders"
  | 8 => .int
  | _ => .int
abbrev wsX50 : List Cond := u_ws RX5 TX5 10
theorem nmX5 : ∀ a, a < 10 → ∀ b, b < 10 → a ≠ b → (TX5 a).2.1 ≠ (TX5 b).2.1 := by decide +kernel
theorem tyX5_ok : ∀ k, k < 10 → parseFieldDescriptor (TX5 k).2.2.1 = some (tyX5 k) := by decide +kernel
abbrev cX5_init : ByteArray := prog_1_method_1_code
def yX5_init : MethodName := ⟨RX5, "<init>", "()V"⟩
abbrev cX5_come : ByteArray := prog_1_method_2_code
def yX5_come : MethodName := ⟨RX5, "come", "(I)I"⟩
abbrev cX5_goHome : ByteArray := prog_1_method_3_code
def yX5_goHome : MethodName := ⟨RX5, "goHome", "(I)I"⟩
abbrev cX5_set : ByteArray := prog_1_method_4_code
def yX5_set : MethodName := ⟨RX5, "set", "(II)I"⟩
abbrev cX5_arrive : ByteArray := prog_1_method_5_code
def yX5_arrive : MethodName := ⟨RX5, "arrive", "(I)I"⟩
abbrev cX5_call : ByteArray := prog_1_method_6_code
def yX5_call : MethodName := ⟨RX5, "call", "(II)I"⟩
abbrev cX5_pass : ByteArray := prog_1_method_7_code
def yX5_pass : MethodName := ⟨RX5, "pass", "(I)I"⟩
abbrev cX5_type : ByteArray := prog_1_method_8_code
def yX5_type : MethodName := ⟨RX5, "type", "(C)I"⟩
abbrev cX5_clearText : ByteArray := prog_1_method_9_code
def yX5_clearText : MethodName := ⟨RX5, "clearText", "()I"⟩
abbrev cX5_perform : ByteArray := prog_1_method_10_code
def yX5_perform : MethodName := ⟨RX5, "perform", "()I"⟩
abbrev cX5_stopped : ByteArray := prog_1_method_11_code
def yX5_stopped : MethodName := ⟨RX5, "stopped", "(I)I"⟩
abbrev cX5_undo : ByteArray := prog_1_method_12_code
def yX5_undo : MethodName := ⟨RX5, "undo", "()I"⟩
abbrev cX5_keep : ByteArray := prog_1_method_13_code
def yX5_keep : MethodName := ⟨RX5, "keep", "()I"⟩
abbrev cX5_restore : ByteArray := prog_1_method_14_code
def yX5_restore : MethodName := ⟨RX5, "restore", "()I"⟩
abbrev cX5_taxi : ByteArray := prog_1_method_15_code
def yX5_taxi : MethodName := ⟨RX5, "taxi", "(II)I"⟩
abbrev cX5_line : ByteArray := prog_1_method_16_code
def yX5_line : MethodName := ⟨RX5, "line", "(I)I"⟩
abbrev cX5_plate : ByteArray := prog_1_method_17_code
def yX5_plate : MethodName := ⟨RX5, "plate", "(I)I"⟩
abbrev cX5_waiting : ByteArray := prog_1_method_18_code
def yX5_waiting : MethodName := ⟨RX5, "waiting", "(II)I"⟩
abbrev cX5_rides : ByteArray := prog_1_method_19_code
def yX5_rides : MethodName := ⟨RX5, "rides", "(I)I"⟩
abbrev cX5_ifCalled : ByteArray := prog_1_method_20_code
def yX5_ifCalled : MethodName := ⟨RX5, "ifCalled", "(III)I"⟩
abbrev cX5_reason : ByteArray := prog_1_method_21_code
def yX5_reason : MethodName := ⟨RX5, "reason", "(II)I"⟩
abbrev cX5_ridesIn : ByteArray := prog_1_method_22_code
def yX5_ridesIn : MethodName := ⟨RX5, "ridesIn", "(I)I"⟩
abbrev cX5_inLineIn : ByteArray := prog_1_method_23_code
def yX5_inLineIn : MethodName := ⟨RX5, "inLineIn", "(I)I"⟩
abbrev cX5_shares : ByteArray := prog_1_method_24_code
def yX5_shares : MethodName := ⟨RX5, "shares", "(I)I"⟩
abbrev cX5_count : ByteArray := prog_1_method_25_code
def yX5_count : MethodName := ⟨RX5, "count", "(I)I"⟩
abbrev cX5_recorded : ByteArray := prog_1_method_26_code
def yX5_recorded : MethodName := ⟨RX5, "recorded", "(I)I"⟩
def RX6 : String := "TaxiRankModel"
def TX6 : u_T := fun k => match k with
  | 0 => ("TaxiRankModel", "z", "[I", true)
  | 1 => ("TaxiRankModel", "spare", "[I", true)
  | 2 => ("TaxiRankModel", "past", "[I", true)
  | 3 => ("TaxiRankModel", "states", "I", false)
  | 4 => ("TaxiRankModel", "kept", "[I", true)
  | 5 => ("TaxiRankModel", "isKept", "Z", false)
  | 6 => ("TaxiRankModel", "text", "[I", true)
  | 7 => ("TaxiRankModel", "length", "I", false)
  | 8 => ("TaxiRankModel", "stopNumber", "I", false)
  | 9 => ("TaxiRankModel", "stopError", "I", false)
  | 10 => ("TaxiRankModel", "sought", "I", false)
  | 11 => ("TaxiRankModel", "hasRidden", "Z", false)
  | 12 => ("TaxiRankModel", "told", "[I", true)
  | 13 => ("TaxiRankModel", "toldMany", "I", false)
  | _ => ("TaxiRankModel", "spot", "I", false)
def tyX6 : Nat → FieldType := fun k => match k with
  | 0 => .array .int
  | 1 => .array .int
  | 2 => .array .int
  | 3 => .int
  | 4 => .array .int
  | 5 => .boolean
  | 6 => .array .int
  | 7 => .int
  | 8 => .int
  | 9 => .int
  | 10 => .int
  | 11 => .boolean
  | 12 => .array .int
  | 13 => .int
  | _ => .int
abbrev wsX60 : List Cond := u_ws RX6 TX6 15
theorem nmX6 : ∀ a, a < 15 → ∀ b, b < 15 → a ≠ b → (TX6 a).2.1 ≠ (TX6 b).2.1 := by decide +kernel
theorem tyX6_ok : ∀ k, k < 15 → parseFieldDescriptor (TX6 k).2.2.1 = some (tyX6 k) := by decide +kernel
abbrev cX6_init : ByteArray := prog_8_method_1_code
def yX6_init : MethodName := ⟨RX6, "<init>", "()V"⟩
abbrev cX6_in : ByteArray := prog_8_method_2_code
def yX6_in : MethodName := ⟨RX6, "in", "(III)Z"⟩
abbrev cX6_size : ByteArray := prog_8_method_3_code
def yX6_size : MethodName := ⟨RX6, "size", "(I)I"⟩
abbrev cX6_isPlace : ByteArray := prog_8_method_4_code
def yX6_isPlace : MethodName := ⟨RX6, "isPlace", "(I)Z"⟩
abbrev cX6_of : ByteArray := prog_8_method_5_code
def yX6_of : MethodName := ⟨RX6, "of", "(II)I"⟩
abbrev cX6_lay : ByteArray := prog_8_method_6_code
def yX6_lay : MethodName := ⟨RX6, "lay", "(III)V"⟩
abbrev cX6_tally : ByteArray := prog_8_method_7_code
def yX6_tally : MethodName := ⟨RX6, "tally", "(II)V"⟩
abbrev cX6_taxiWith : ByteArray := prog_8_method_8_code
def yX6_taxiWith : MethodName := ⟨RX6, "taxiWith", "(I)I"⟩
abbrev cX6_copyState : ByteArray := prog_8_method_9_code
def yX6_copyState : MethodName := ⟨RX6, "copyState", "([II[II)V"⟩
abbrev cX6_recordRow : ByteArray := prog_8_method_10_code
def yX6_recordRow : MethodName := ⟨RX6, "recordRow", "([I)V"⟩
abbrev cX6_record : ByteArray := prog_8_method_11_code
def yX6_record : MethodName := ⟨RX6, "record", "()V"⟩
abbrev cX6_undo : ByteArray := prog_8_method_12_code
def yX6_undo : MethodName := ⟨RX6, "undo", "()I"⟩
abbrev cX6_keep : ByteArray := prog_8_method_13_code
def yX6_keep : MethodName := ⟨RX6, "keep", "()I"⟩
abbrev cX6_restore : ByteArray := prog_8_method_14_code
def yX6_restore : MethodName := ⟨RX6, "restore", "()I"⟩
abbrev cX6_placeInLine : ByteArray := prog_8_method_15_code
def yX6_placeInLine : MethodName := ⟨RX6, "placeInLine", "(I)I"⟩
abbrev cX6_standAt : ByteArray := prog_8_method_16_code
def yX6_standAt : MethodName := ⟨RX6, "standAt", "(II)V"⟩
abbrev cX6_leaveLine : ByteArray := prog_8_method_17_code
def yX6_leaveLine : MethodName := ⟨RX6, "leaveLine", "(I)V"⟩
abbrev cX6_quickOnes : ByteArray := prog_8_method_18_code
def yX6_quickOnes : MethodName := ⟨RX6, "quickOnes", "()I"⟩
abbrev cX6_staysHome : ByteArray := prog_8_method_19_code
def yX6_staysHome : MethodName := ⟨RX6, "staysHome", "(I)Z"⟩
abbrev cX6_isTired : ByteArray := prog_8_method_20_code
def yX6_isTired : MethodName := ⟨RX6, "isTired", "(I)Z"⟩
abbrev cX6_mayTake : ByteArray := prog_8_method_21_code
def yX6_mayTake : MethodName := ⟨RX6, "mayTake", "(I)Z"⟩
abbrev cX6_riderTo : ByteArray := prog_8_method_22_code
def yX6_riderTo : MethodName := ⟨RX6, "riderTo", "(I)I"⟩
abbrev cX6_takeFare : ByteArray := prog_8_method_23_code
def yX6_takeFare : MethodName := ⟨RX6, "takeFare", "(IIIZ)V"⟩
abbrev cX6_begin : ByteArray := prog_8_method_24_code
def yX6_begin : MethodName := ⟨RX6, "begin", "(III)V"⟩
abbrev cX6_ride : ByteArray := prog_8_method_25_code
def yX6_ride : MethodName := ⟨RX6, "ride", "(I)V"⟩
abbrev cX6_fare : ByteArray := prog_8_method_26_code
def yX6_fare : MethodName := ⟨RX6, "fare", "(II)I"⟩
abbrev cX6_comeBack : ByteArray := prog_8_method_27_code
def yX6_comeBack : MethodName := ⟨RX6, "comeBack", "(I)V"⟩
abbrev cX6_bePaid : ByteArray := prog_8_method_28_code
def yX6_bePaid : MethodName := ⟨RX6, "bePaid", "(I)V"⟩
abbrev cX6_end : ByteArray := prog_8_method_29_code
def yX6_end : MethodName := ⟨RX6, "end", "(I)V"⟩
abbrev cX6_waits : ByteArray := prog_8_method_30_code
def yX6_waits : MethodName := ⟨RX6, "waits", "(II)I"⟩
abbrev cX6_goes : ByteArray := prog_8_method_31_code
def yX6_goes : MethodName := ⟨RX6, "goes", "(I)V"⟩
abbrev cX6_minute : ByteArray := prog_8_method_32_code
def yX6_minute : MethodName := ⟨RX6, "minute", "()V"⟩
abbrev cX6_come : ByteArray := prog_8_method_33_code
def yX6_come : MethodName := ⟨RX6, "come", "(I)I"⟩
abbrev cX6_goHome : ByteArray := prog_8_method_34_code
def yX6_goHome : MethodName := ⟨RX6, "goHome", "(I)I"⟩
abbrev cX6_isValue : ByteArray := prog_8_method_35_code
def yX6_isValue : MethodName := ⟨RX6, "isValue", "(II)Z"⟩
abbrev cX6_set : ByteArray := prog_8_method_36_code
def yX6_set : MethodName := ⟨RX6, "set", "(II)I"⟩
abbrev cX6_whyNotArrive : ByteArray := prog_8_method_37_code
def yX6_whyNotArrive : MethodName := ⟨RX6, "whyNotArrive", "(I)I"⟩
abbrev cX6_arriveNow : ByteArray := prog_8_method_38_code
def yX6_arriveNow : MethodName := ⟨RX6, "arriveNow", "(I)I"⟩
abbrev cX6_arrive : ByteArray := prog_8_method_39_code
def yX6_arrive : MethodName := ⟨RX6, "arrive", "(I)I"⟩
abbrev cX6_needs : ByteArray := prog_8_method_40_code
def yX6_needs : MethodName := ⟨RX6, "needs", "(II)I"⟩
abbrev cX6_callee : ByteArray := prog_8_method_41_code
def yX6_callee : MethodName := ⟨RX6, "callee", "(I)I"⟩
abbrev cX6_whyNotCall : ByteArray := prog_8_method_42_code
def yX6_whyNotCall : MethodName := ⟨RX6, "whyNotCall", "(II)I"⟩
abbrev cX6_callNow : ByteArray := prog_8_method_43_code
def yX6_callNow : MethodName := ⟨RX6, "callNow", "(II)I"⟩
abbrev cX6_call : ByteArray := prog_8_method_44_code
def yX6_call : MethodName := ⟨RX6, "call", "(II)I"⟩
abbrev cX6_whyNotPass : ByteArray := prog_8_method_45_code
def yX6_whyNotPass : MethodName := ⟨RX6, "whyNotPass", "(I)I"⟩
abbrev cX6_passNow : ByteArray := prog_8_method_46_code
def yX6_passNow : MethodName := ⟨RX6, "passNow", "(I)I"⟩
abbrev cX6_pass : ByteArray := prog_8_method_47_code
def yX6_pass : MethodName := ⟨RX6, "pass", "(I)I"⟩
abbrev cX6_type : ByteArray := prog_8_method_48_code
def yX6_type : MethodName := ⟨RX6, "type", "(C)I"⟩
abbrev cX6_clearText : ByteArray := prog_8_method_49_code
def yX6_clearText : MethodName := ⟨RX6, "clearText", "()I"⟩
abbrev cX6_sees : ByteArray := prog_8_method_50_code
def yX6_sees : MethodName := ⟨RX6, "sees", "(II)Z"⟩
abbrev cX6_takes : ByteArray := prog_8_method_51_code
def yX6_takes : MethodName := ⟨RX6, "takes", "(I)Z"⟩
abbrev cX6_number : ByteArray := prog_8_method_52_code
def yX6_number : MethodName := ⟨RX6, "number", "(II)I"⟩
abbrev cX6_readOrder : ByteArray := prog_8_method_53_code
def yX6_readOrder : MethodName := ⟨RX6, "readOrder", "()Z"⟩
abbrev cX6_readText : ByteArray := prog_8_method_54_code
def yX6_readText : MethodName := ⟨RX6, "readText", "()Z"⟩
abbrev cX6_whyNotOrder : ByteArray := prog_8_method_55_code
def yX6_whyNotOrder : MethodName := ⟨RX6, "whyNotOrder", "(I)I"⟩
abbrev cX6_doOrder : ByteArray := prog_8_method_56_code
def yX6_doOrder : MethodName := ⟨RX6, "doOrder", "(I)V"⟩
abbrev cX6_perform : ByteArray := prog_8_method_57_code
def yX6_perform : MethodName := ⟨RX6, "perform", "()I"⟩
abbrev cX6_stopped : ByteArray := prog_8_method_58_code
def yX6_stopped : MethodName := ⟨RX6, "stopped", "(I)I"⟩
abbrev cX6_taxi : ByteArray := prog_8_method_59_code
def yX6_taxi : MethodName := ⟨RX6, "taxi", "(II)I"⟩
abbrev cX6_line : ByteArray := prog_8_method_60_code
def yX6_line : MethodName := ⟨RX6, "line", "(I)I"⟩
abbrev cX6_plate : ByteArray := prog_8_method_61_code
def yX6_plate : MethodName := ⟨RX6, "plate", "(I)I"⟩
abbrev cX6_waiting : ByteArray := prog_8_method_62_code
def yX6_waiting : MethodName := ⟨RX6, "waiting", "(II)I"⟩
abbrev cX6_rides : ByteArray := prog_8_method_63_code
def yX6_rides : MethodName := ⟨RX6, "rides", "(I)I"⟩
abbrev cX6_ifCalled : ByteArray := prog_8_method_64_code
def yX6_ifCalled : MethodName := ⟨RX6, "ifCalled", "(III)I"⟩
abbrev cX6_reason : ByteArray := prog_8_method_65_code
def yX6_reason : MethodName := ⟨RX6, "reason", "(II)I"⟩
abbrev cX6_ridesIn : ByteArray := prog_8_method_66_code
def yX6_ridesIn : MethodName := ⟨RX6, "ridesIn", "(I)I"⟩
abbrev cX6_inLineIn : ByteArray := prog_8_method_67_code
def yX6_inLineIn : MethodName := ⟨RX6, "inLineIn", "(I)I"⟩
abbrev cX6_shares : ByteArray := prog_8_method_68_code
def yX6_shares : MethodName := ⟨RX6, "shares", "(I)I"⟩
abbrev cX6_count : ByteArray := prog_8_method_69_code
def yX6_count : MethodName := ⟨RX6, "count", "(I)I"⟩
def RJ9 : String := "java/lang/Math"
def TJ9 : u_T := fun k => match k with
  | _ => ("", "", "", false)
def tyJ9 : Nat → FieldType := fun k => match k with
  | _ => .int
abbrev wsJ90 : List Cond := u_ws RJ9 TJ9 0
theorem nmJ9 : ∀ a, a < 0 → ∀ b, b < 0 → a ≠ b → (TJ9 a).2.1 ≠ (TJ9 b).2.1 := by decide +kernel
theorem tyJ9_ok : ∀ k, k < 0 → parseFieldDescriptor (TJ9 k).2.2.1 = some (tyJ9 k) := by decide +kernel
abbrev cJ9_abs_0f7a4 : ByteArray := prog_9_method_59_code
def yJ9_abs_0f7a4 : MethodName := ⟨RJ9, "abs", "(I)I"⟩
def RJ10 : String := "java/lang/System"
def TJ10 : u_T := fun k => match k with
  | _ => ("", "", "", false)
def tyJ10 : Nat → FieldType := fun k => match k with
  | _ => .int
abbrev wsJ100 : List Cond := u_ws RJ10 TJ10 0
theorem nmJ10 : ∀ a, a < 0 → ∀ b, b < 0 → a ≠ b → (TJ10 a).2.1 ≠ (TJ10 b).2.1 := by decide +kernel
theorem tyJ10_ok : ∀ k, k < 0 → parseFieldDescriptor (TJ10 k).2.2.1 = some (tyJ10 k) := by decide +kernel
def RL : String := "TaxiRankLaw"
abbrev cL_law : ByteArray := code
def yL_law : MethodName := ⟨RL, "law", "([I)Z"⟩
abbrev vwCl : List vw_C := [(RX0, TX0, 2), (RX1, TX1, 7), (RX2, TX2, 5), (RX3, TX3, 12), (RX4, TX4, 12), (RX5, TX5, 10), (RX6, TX6, 15)]
end
section
/-! the methods, by number: class, name, code, locals, answer, room, whether a constructor, arguments, class's number -/
abbrev MI : Type := String × MethodName × ByteArray × Nat × Option FieldType × Room × Bool × Nat × Nat
abbrev mI_0 : MI := (RX0, yX0_init, cX0_init, 2, none, { frames := 3, cells := 81, slots := 944, locals := 53 }, true, 0, 0)
abbrev mI_1 : MI := (RX0, yX0_store, cX0_store, 2, none, { frames := 3, cells := 0, slots := 0, locals := 75 }, false, 1, 0)
abbrev mI_2 : MI := (RX0, yX0_takeLatest, cX0_takeLatest, 2, none, { frames := 3, cells := 0, slots := 0, locals := 75 }, false, 1, 0)
abbrev mI_3 : MI := (RX0, yX0_dropOldest, cX0_dropOldest, 3, none, { frames := 0, cells := 0, slots := 0, locals := 0 }, false, 0, 0)
abbrev mI_4 : MI := (RX1, yX1_init, cX1_init, 1, none, { frames := 1, cells := 4, slots := 60, locals := 12 }, true, 0, 1)
abbrev mI_5 : MI := (RX1, yX1_read, cX1_read, 4, (some .int), { frames := 4, cells := 0, slots := 0, locals := 91 }, false, 2, 1)
abbrev mI_6 : MI := (RX1, yX1_readOrder, cX1_readOrder, 5, (some .boolean), { frames := 3, cells := 0, slots := 0, locals := 67 }, false, 0, 1)
abbrev mI_7 : MI := (RX1, yX1_readNumber, cX1_readNumber, 7, (some .int), { frames := 2, cells := 0, slots := 0, locals := 41 }, false, 2, 1)
abbrev mI_8 : MI := (RX1, yX1_digitHere, cX1_digitHere, 2, (some .int), { frames := 1, cells := 0, slots := 0, locals := 20 }, false, 0, 1)
abbrev mI_9 : MI := (RX1, yX1_here, cX1_here, 1, (some .char), { frames := 0, cells := 0, slots := 0, locals := 0 }, false, 0, 1)
abbrev mI_10 : MI := (RX1, yX1_note, cX1_note, 4, none, { frames := 0, cells := 0, slots := 0, locals := 0 }, false, 3, 1)
abbrev mI_11 : MI := (RX2, yX2_init, cX2_init, 1, none, { frames := 1, cells := 3, slots := 45, locals := 12 }, true, 0, 2)
abbrev mI_12 : MI := (RX2, yX2_copyFrom, cX2_copyFrom, 2, none, { frames := 1, cells := 0, slots := 0, locals := 32 }, false, 1, 2)
abbrev mI_13 : MI := (RX2, yX2_join, cX2_join, 3, none, { frames := 0, cells := 0, slots := 0, locals := 0 }, false, 2, 2)
abbrev mI_14 : MI := (RX2, yX2_removeAt, cX2_removeAt, 3, none, { frames := 0, cells := 0, slots := 0, locals := 0 }, false, 1, 2)
abbrev mI_15 : MI := (RX2, yX2_holds, cX2_holds, 3, (some .boolean), { frames := 0, cells := 0, slots := 0, locals := 0 }, false, 1, 2)
abbrev mI_16 : MI := (RX3, yX3_init, cX3_init, 1, none, { frames := 1, cells := 0, slots := 0, locals := 12 }, true, 0, 3)
abbrev mI_17 : MI := (RX3, yX3_copyFrom, cX3_copyFrom, 2, none, { frames := 0, cells := 0, slots := 0, locals := 0 }, false, 1, 3)
abbrev mI_18 : MI := (RX3, yX3_isAtWheel, cX3_isAtWheel, 1, (some .boolean), { frames := 0, cells := 0, slots := 0, locals := 0 }, false, 0, 3)
abbrev mI_19 : MI := (RX3, yX3_begin, cX3_begin, 3, none, { frames := 0, cells := 0, slots := 0, locals := 0 }, false, 2, 3)
abbrev mI_20 : MI := (RX4, yX4_init, cX4_init, 2, none, { frames := 2, cells := 19, slots := 223, locals := 32 }, true, 0, 4)
abbrev mI_21 : MI := (RX4, yX4_copyFrom, cX4_copyFrom, 3, none, { frames := 2, cells := 0, slots := 0, locals := 53 }, false, 1, 4)
abbrev mI_22 : MI := (RX4, yX4_isPlace, cX4_isPlace, 1, (some .boolean), { frames := 0, cells := 0, slots := 0, locals := 0 }, false, 1, 4)
abbrev mI_23 : MI := (RX4, yX4_isSetting, cX4_isSetting, 1, (some .boolean), { frames := 0, cells := 0, slots := 0, locals := 0 }, false, 1, 4)
abbrev mI_24 : MI := (RX4, yX4_fareFor, cX4_fareFor, 2, (some .int), { frames := 1, cells := 0, slots := 0, locals := 20 }, false, 2, 4)
abbrev mI_25 : MI := (RX4, yX4_welcome, cX4_welcome, 3, (some .int), { frames := 2, cells := 0, slots := 0, locals := 45 }, false, 1, 4)
abbrev mI_26 : MI := (RX4, yX4_sendHome, cX4_sendHome, 3, (some .int), { frames := 2, cells := 0, slots := 0, locals := 45 }, false, 1, 4)
abbrev mI_27 : MI := (RX4, yX4_change, cX4_change, 4, (some .int), { frames := 1, cells := 0, slots := 0, locals := 20 }, false, 2, 4)
abbrev mI_28 : MI := (RX4, yX4_letJoin, cX4_letJoin, 2, (some .int), { frames := 1, cells := 0, slots := 0, locals := 22 }, false, 1, 4)
abbrev mI_29 : MI := (RX4, yX4_takeCall, cX4_takeCall, 5, (some .int), { frames := 4, cells := 0, slots := 0, locals := 89 }, false, 2, 4)
abbrev mI_30 : MI := (RX4, yX4_letPass, cX4_letPass, 4, (some .int), { frames := 5, cells := 0, slots := 0, locals := 114 }, false, 1, 4)
abbrev mI_31 : MI := (RX4, yX4_find, cX4_find, 3, (some (.object "TaxiRank$Taxi")), { frames := 0, cells := 0, slots := 0, locals := 0 }, false, 1, 4)
abbrev mI_32 : MI := (RX4, yX4_placeOf, cX4_placeOf, 3, (some .int), { frames := 0, cells := 0, slots := 0, locals := 0 }, false, 1, 4)
abbrev mI_33 : MI := (RX4, yX4_staysHomeToday, cX4_staysHomeToday, 2, (some .boolean), { frames := 0, cells := 0, slots := 0, locals := 0 }, false, 1, 4)
abbrev mI_34 : MI := (RX4, yX4_wasLongAtWheel, cX4_wasLongAtWheel, 2, (some .boolean), { frames := 0, cells := 0, slots := 0, locals := 0 }, false, 1, 4)
abbrev mI_35 : MI := (RX4, yX4_mayTakeFare, cX4_mayTakeFare, 2, (some .boolean), { frames := 1, cells := 0, slots := 0, locals := 21 }, false, 1, 4)
abbrev mI_36 : MI := (RX4, yX4_isLong, cX4_isLong, 3, (some .boolean), { frames := 1, cells := 0, slots := 0, locals := 20 }, false, 2, 4)
abbrev mI_37 : MI := (RX4, yX4_taxiForRide, cX4_taxiForRide, 6, (some (.object "TaxiRank$Taxi")), { frames := 2, cells := 0, slots := 0, locals := 42 }, false, 1, 4)
abbrev mI_38 : MI := (RX4, yX4_taxiForCall, cX4_taxiForCall, 4, (some (.object "TaxiRank$Taxi")), { frames := 3, cells := 0, slots := 0, locals := 66 }, false, 1, 4)
abbrev mI_39 : MI := (RX4, yX4_nearer, cX4_nearer, 4, (some (.object "TaxiRank$Taxi")), { frames := 2, cells := 0, slots := 0, locals := 43 }, false, 3, 4)
abbrev mI_40 : MI := (RX4, yX4_minutesTo, cX4_minutesTo, 4, (some .int), { frames := 1, cells := 0, slots := 0, locals := 20 }, false, 2, 4)
abbrev mI_41 : MI := (RX4, yX4_minutesUntilRide, cX4_minutesUntilRide, 5, (some .int), { frames := 5, cells := 0, slots := 0, locals := 114 }, false, 1, 4)
abbrev mI_42 : MI := (RX4, yX4_minutesUntilInLine, cX4_minutesUntilInLine, 3, (some .int), { frames := 5, cells := 0, slots := 0, locals := 114 }, false, 1, 4)
abbrev mI_43 : MI := (RX4, yX4_minute, cX4_minute, 3, none, { frames := 4, cells := 0, slots := 0, locals := 92 }, false, 0, 4)
abbrev mI_44 : MI := (RX4, yX4_goOn, cX4_goOn, 2, none, { frames := 3, cells := 0, slots := 0, locals := 69 }, false, 1, 4)
abbrev mI_45 : MI := (RX4, yX4_dismissImpatient, cX4_dismissImpatient, 2, none, { frames := 1, cells := 0, slots := 0, locals := 22 }, false, 0, 4)
abbrev mI_46 : MI := (RX4, yX4_seatPassengers, cX4_seatPassengers, 5, none, { frames := 3, cells := 0, slots := 0, locals := 68 }, false, 0, 4)
abbrev mI_47 : MI := (RX4, yX4_acceptFare, cX4_acceptFare, 4, none, { frames := 2, cells := 0, slots := 0, locals := 45 }, false, 3, 4)
abbrev mI_48 : MI := (RX4, yX4_startRide, cX4_startRide, 2, none, { frames := 1, cells := 0, slots := 0, locals := 22 }, false, 1, 4)
abbrev mI_49 : MI := (RX4, yX4_payFare, cX4_payFare, 3, none, { frames := 2, cells := 0, slots := 0, locals := 41 }, false, 1, 4)
abbrev mI_50 : MI := (RX4, yX4_comeBack, cX4_comeBack, 2, none, { frames := 2, cells := 0, slots := 0, locals := 48 }, false, 1, 4)
abbrev mI_51 : MI := (RX4, yX4_standLast, cX4_standLast, 2, none, { frames := 1, cells := 0, slots := 0, locals := 24 }, false, 1, 4)
abbrev mI_52 : MI := (RX4, yX4_standQuickly, cX4_standQuickly, 5, none, { frames := 1, cells := 0, slots := 0, locals := 24 }, false, 1, 4)
abbrev mI_53 : MI := (RX4, yX4_standAt, cX4_standAt, 5, none, { frames := 0, cells := 0, slots := 0, locals := 0 }, false, 3, 4)
abbrev mI_54 : MI := (RX4, yX4_leaveLine, cX4_leaveLine, 4, none, { frames := 1, cells := 0, slots := 0, locals := 22 }, false, 1, 4)
abbrev mI_55 : MI := (RX4, yX4_register, cX4_register, 5, (some (.object "TaxiRank$Taxi")), { frames := 0, cells := 0, slots := 0, locals := 0 }, false, 1, 4)
abbrev mI_56 : MI := (RX5, yX5_init, cX5_init, 1, none, { frames := 4, cells := 148, slots := 1778, locals := 74 }, true, 0, 5)
abbrev mI_57 : MI := (RX5, yX5_come, cX5_come, 2, (some .int), { frames := 5, cells := 0, slots := 0, locals := 117 }, false, 1, 5)
abbrev mI_58 : MI := (RX5, yX5_goHome, cX5_goHome, 2, (some .int), { frames := 5, cells := 0, slots := 0, locals := 117 }, false, 1, 5)
abbrev mI_59 : MI := (RX5, yX5_set, cX5_set, 3, (some .int), { frames := 5, cells := 0, slots := 0, locals := 117 }, false, 2, 5)
abbrev mI_60 : MI := (RX5, yX5_arrive, cX5_arrive, 2, (some .int), { frames := 5, cells := 0, slots := 0, locals := 117 }, false, 1, 5)
abbrev mI_61 : MI := (RX5, yX5_call, cX5_call, 3, (some .int), { frames := 5, cells := 0, slots := 0, locals := 117 }, false, 2, 5)
abbrev mI_62 : MI := (RX5, yX5_pass, cX5_pass, 2, (some .int), { frames := 6, cells := 0, slots := 0, locals := 137 }, false, 1, 5)
abbrev mI_63 : MI := (RX5, yX5_type, cX5_type, 2, (some .int), { frames := 0, cells := 0, slots := 0, locals := 0 }, false, 1, 5)
abbrev mI_64 : MI := (RX5, yX5_clearText, cX5_clearText, 2, (some .int), { frames := 0, cells := 0, slots := 0, locals := 0 }, false, 0, 5)
abbrev mI_65 : MI := (RX5, yX5_perform, cX5_perform, 5, (some .int), { frames := 6, cells := 0, slots := 0, locals := 137 }, false, 0, 5)
abbrev mI_66 : MI := (RX5, yX5_stopped, cX5_stopped, 2, (some .int), { frames := 0, cells := 0, slots := 0, locals := 0 }, false, 1, 5)
abbrev mI_67 : MI := (RX5, yX5_undo, cX5_undo, 1, (some .int), { frames := 4, cells := 0, slots := 0, locals := 96 }, false, 0, 5)
abbrev mI_68 : MI := (RX5, yX5_keep, cX5_keep, 1, (some .int), { frames := 3, cells := 0, slots := 0, locals := 75 }, false, 0, 5)
abbrev mI_69 : MI := (RX5, yX5_restore, cX5_restore, 1, (some .int), { frames := 5, cells := 0, slots := 0, locals := 117 }, false, 0, 5)
abbrev mI_70 : MI := (RX5, yX5_taxi, cX5_taxi, 4, (some .int), { frames := 2, cells := 0, slots := 0, locals := 42 }, false, 2, 5)
abbrev mI_71 : MI := (RX5, yX5_line, cX5_line, 2, (some .int), { frames := 0, cells := 0, slots := 0, locals := 0 }, false, 1, 5)
abbrev mI_72 : MI := (RX5, yX5_plate, cX5_plate, 2, (some .int), { frames := 0, cells := 0, slots := 0, locals := 0 }, false, 1, 5)
abbrev mI_73 : MI := (RX5, yX5_waiting, cX5_waiting, 3, (some .int), { frames := 0, cells := 0, slots := 0, locals := 0 }, false, 2, 5)
abbrev mI_74 : MI := (RX5, yX5_rides, cX5_rides, 3, (some .int), { frames := 3, cells := 0, slots := 0, locals := 67 }, false, 1, 5)
abbrev mI_75 : MI := (RX5, yX5_ifCalled, cX5_ifCalled, 5, (some .int), { frames := 4, cells := 0, slots := 0, locals := 89 }, false, 3, 5)
abbrev mI_76 : MI := (RX5, yX5_reason, cX5_reason, 4, (some .int), { frames := 3, cells := 0, slots := 0, locals := 67 }, false, 2, 5)
abbrev mI_77 : MI := (RX5, yX5_ridesIn, cX5_ridesIn, 2, (some .int), { frames := 6, cells := 0, slots := 0, locals := 138 }, false, 1, 5)
abbrev mI_78 : MI := (RX5, yX5_inLineIn, cX5_inLineIn, 3, (some .int), { frames := 6, cells := 0, slots := 0, locals := 136 }, false, 1, 5)
abbrev mI_79 : MI := (RX5, yX5_shares, cX5_shares, 6, (some .int), { frames := 0, cells := 0, slots := 0, locals := 0 }, false, 1, 5)
abbrev mI_80 : MI := (RX5, yX5_count, cX5_count, 3, (some .int), { frames := 1, cells := 0, slots := 0, locals := 20 }, false, 1, 5)
abbrev mI_81 : MI := (RX5, yX5_recorded, cX5_recorded, 2, (some .int), { frames := 4, cells := 0, slots := 0, locals := 96 }, false, 1, 5)
abbrev mI_82 : MI := (RX6, yX6_init, cX6_init, 1, none, { frames := 1, cells := 6, slots := 1722, locals := 12 }, true, 0, 6)
abbrev mI_83 : MI := (RX6, yX6_in, cX6_in, 3, (some .boolean), { frames := 0, cells := 0, slots := 0, locals := 0 }, false, 3, 6)
abbrev mI_84 : MI := (RX6, yX6_size, cX6_size, 1, (some .int), { frames := 0, cells := 0, slots := 0, locals := 0 }, false, 1, 6)
abbrev mI_85 : MI := (RX6, yX6_isPlace, cX6_isPlace, 1, (some .boolean), { frames := 1, cells := 0, slots := 0, locals := 22 }, false, 1, 6)
abbrev mI_86 : MI := (RX6, yX6_of, cX6_of, 3, (some .int), { frames := 0, cells := 0, slots := 0, locals := 0 }, false, 2, 6)
abbrev mI_87 : MI := (RX6, yX6_lay, cX6_lay, 4, none, { frames := 0, cells := 0, slots := 0, locals := 0 }, false, 3, 6)
abbrev mI_88 : MI := (RX6, yX6_tally, cX6_tally, 3, none, { frames := 0, cells := 0, slots := 0, locals := 0 }, false, 2, 6)
abbrev mI_89 : MI := (RX6, yX6_taxiWith, cX6_taxiWith, 4, (some .int), { frames := 1, cells := 0, slots := 0, locals := 22 }, false, 1, 6)
abbrev mI_90 : MI := (RX6, yX6_copyState, cX6_copyState, 5, none, { frames := 0, cells := 0, slots := 0, locals := 0 }, false, 4, 6)
abbrev mI_91 : MI := (RX6, yX6_recordRow, cX6_recordRow, 3, none, { frames := 1, cells := 0, slots := 0, locals := 24 }, false, 1, 6)
abbrev mI_92 : MI := (RX6, yX6_record, cX6_record, 1, none, { frames := 2, cells := 0, slots := 0, locals := 46 }, false, 0, 6)
abbrev mI_93 : MI := (RX6, yX6_undo, cX6_undo, 1, (some .int), { frames := 1, cells := 0, slots := 0, locals := 24 }, false, 0, 6)
abbrev mI_94 : MI := (RX6, yX6_keep, cX6_keep, 1, (some .int), { frames := 1, cells := 0, slots := 0, locals := 24 }, false, 0, 6)
abbrev mI_95 : MI := (RX6, yX6_restore, cX6_restore, 1, (some .int), { frames := 3, cells := 0, slots := 0, locals := 66 }, false, 0, 6)
abbrev mI_96 : MI := (RX6, yX6_placeInLine, cX6_placeInLine, 4, (some .int), { frames := 0, cells := 0, slots := 0, locals := 0 }, false, 1, 6)
abbrev mI_97 : MI := (RX6, yX6_standAt, cX6_standAt, 4, none, { frames := 1, cells := 0, slots := 0, locals := 23 }, false, 2, 6)
abbrev mI_98 : MI := (RX6, yX6_leaveLine, cX6_leaveLine, 4, none, { frames := 1, cells := 0, slots := 0, locals := 23 }, false, 1, 6)
abbrev mI_99 : MI := (RX6, yX6_quickOnes, cX6_quickOnes, 2, (some .int), { frames := 2, cells := 0, slots := 0, locals := 45 }, false, 0, 6)
abbrev mI_100 : MI := (RX6, yX6_staysHome, cX6_staysHome, 2, (some .boolean), { frames := 1, cells := 0, slots := 0, locals := 22 }, false, 1, 6)
abbrev mI_101 : MI := (RX6, yX6_isTired, cX6_isTired, 2, (some .boolean), { frames := 1, cells := 0, slots := 0, locals := 22 }, false, 1, 6)
abbrev mI_102 : MI := (RX6, yX6_mayTake, cX6_mayTake, 2, (some .boolean), { frames := 2, cells := 0, slots := 0, locals := 43 }, false, 1, 6)
abbrev mI_103 : MI := (RX6, yX6_riderTo, cX6_riderTo, 7, (some .int), { frames := 3, cells := 0, slots := 0, locals := 64 }, false, 1, 6)
abbrev mI_104 : MI := (RX6, yX6_takeFare, cX6_takeFare, 6, none, { frames := 2, cells := 0, slots := 0, locals := 46 }, false, 4, 6)
abbrev mI_105 : MI := (RX6, yX6_begin, cX6_begin, 4, none, { frames := 1, cells := 0, slots := 0, locals := 23 }, false, 3, 6)
abbrev mI_106 : MI := (RX6, yX6_ride, cX6_ride, 2, none, { frames := 2, cells := 0, slots := 0, locals := 46 }, false, 1, 6)
abbrev mI_107 : MI := (RX6, yX6_fare, cX6_fare, 2, (some .int), { frames := 1, cells := 0, slots := 0, locals := 20 }, false, 2, 6)
abbrev mI_108 : MI := (RX6, yX6_comeBack, cX6_comeBack, 3, none, { frames := 3, cells := 0, slots := 0, locals := 66 }, false, 1, 6)
abbrev mI_109 : MI := (RX6, yX6_bePaid, cX6_bePaid, 4, none, { frames := 4, cells := 0, slots := 0, locals := 88 }, false, 1, 6)
abbrev mI_110 : MI := (RX6, yX6_end, cX6_end, 2, none, { frames := 5, cells := 0, slots := 0, locals := 111 }, false, 1, 6)
abbrev mI_111 : MI := (RX6, yX6_waits, cX6_waits, 3, (some .int), { frames := 0, cells := 0, slots := 0, locals := 0 }, false, 2, 6)
abbrev mI_112 : MI := (RX6, yX6_goes, cX6_goes, 3, none, { frames := 0, cells := 0, slots := 0, locals := 0 }, false, 1, 6)
abbrev mI_113 : MI := (RX6, yX6_minute, cX6_minute, 3, none, { frames := 6, cells := 0, slots := 0, locals := 132 }, false, 0, 6)
abbrev mI_114 : MI := (RX6, yX6_come, cX6_come, 4, (some .int), { frames := 3, cells := 0, slots := 0, locals := 66 }, false, 1, 6)
abbrev mI_115 : MI := (RX6, yX6_goHome, cX6_goHome, 3, (some .int), { frames := 3, cells := 0, slots := 0, locals := 66 }, false, 1, 6)
abbrev mI_116 : MI := (RX6, yX6_isValue, cX6_isValue, 2, (some .boolean), { frames := 1, cells := 0, slots := 0, locals := 22 }, false, 2, 6)
abbrev mI_117 : MI := (RX6, yX6_set, cX6_set, 4, (some .int), { frames := 3, cells := 0, slots := 0, locals := 66 }, false, 2, 6)
abbrev mI_118 : MI := (RX6, yX6_whyNotArrive, cX6_whyNotArrive, 2, (some .int), { frames := 2, cells := 0, slots := 0, locals := 42 }, false, 1, 6)
abbrev mI_119 : MI := (RX6, yX6_arriveNow, cX6_arriveNow, 3, (some .int), { frames := 0, cells := 0, slots := 0, locals := 0 }, false, 1, 6)
abbrev mI_120 : MI := (RX6, yX6_arrive, cX6_arrive, 3, (some .int), { frames := 3, cells := 0, slots := 0, locals := 66 }, false, 1, 6)
abbrev mI_121 : MI := (RX6, yX6_needs, cX6_needs, 5, (some .int), { frames := 3, cells := 0, slots := 0, locals := 64 }, false, 2, 6)
abbrev mI_122 : MI := (RX6, yX6_callee, cX6_callee, 6, (some .int), { frames := 4, cells := 0, slots := 0, locals := 88 }, false, 1, 6)
abbrev mI_123 : MI := (RX6, yX6_whyNotCall, cX6_whyNotCall, 3, (some .int), { frames := 5, cells := 0, slots := 0, locals := 113 }, false, 2, 6)
abbrev mI_124 : MI := (RX6, yX6_callNow, cX6_callNow, 5, (some .int), { frames := 5, cells := 0, slots := 0, locals := 113 }, false, 2, 6)
abbrev mI_125 : MI := (RX6, yX6_call, cX6_call, 4, (some .int), { frames := 6, cells := 0, slots := 0, locals := 137 }, false, 2, 6)
abbrev mI_126 : MI := (RX6, yX6_whyNotPass, cX6_whyNotPass, 2, (some .int), { frames := 1, cells := 0, slots := 0, locals := 22 }, false, 1, 6)
abbrev mI_127 : MI := (RX6, yX6_passNow, cX6_passNow, 4, (some .int), { frames := 7, cells := 0, slots := 0, locals := 154 }, false, 1, 6)
abbrev mI_128 : MI := (RX6, yX6_pass, cX6_pass, 3, (some .int), { frames := 8, cells := 0, slots := 0, locals := 177 }, false, 1, 6)
abbrev mI_129 : MI := (RX6, yX6_type, cX6_type, 2, (some .int), { frames := 0, cells := 0, slots := 0, locals := 0 }, false, 1, 6)
abbrev mI_130 : MI := (RX6, yX6_clearText, cX6_clearText, 2, (some .int), { frames := 0, cells := 0, slots := 0, locals := 0 }, false, 0, 6)
abbrev mI_131 : MI := (RX6, yX6_sees, cX6_sees, 3, (some .boolean), { frames := 1, cells := 0, slots := 0, locals := 22 }, false, 2, 6)
abbrev mI_132 : MI := (RX6, yX6_takes, cX6_takes, 3, (some .boolean), { frames := 2, cells := 0, slots := 0, locals := 44 }, false, 1, 6)
abbrev mI_133 : MI := (RX6, yX6_number, cX6_number, 4, (some .int), { frames := 2, cells := 0, slots := 0, locals := 44 }, false, 2, 6)
abbrev mI_134 : MI := (RX6, yX6_readOrder, cX6_readOrder, 3, (some .boolean), { frames := 3, cells := 0, slots := 0, locals := 67 }, false, 0, 6)
abbrev mI_135 : MI := (RX6, yX6_readText, cX6_readText, 2, (some .boolean), { frames := 4, cells := 0, slots := 0, locals := 89 }, false, 0, 6)
abbrev mI_136 : MI := (RX6, yX6_whyNotOrder, cX6_whyNotOrder, 4, (some .int), { frames := 6, cells := 0, slots := 0, locals := 135 }, false, 1, 6)
abbrev mI_137 : MI := (RX6, yX6_doOrder, cX6_doOrder, 3, none, { frames := 8, cells := 0, slots := 0, locals := 177 }, false, 1, 6)
abbrev mI_138 : MI := (RX6, yX6_perform, cX6_perform, 3, (some .int), { frames := 9, cells := 0, slots := 0, locals := 199 }, false, 0, 6)
abbrev mI_139 : MI := (RX6, yX6_stopped, cX6_stopped, 2, (some .int), { frames := 1, cells := 0, slots := 0, locals := 22 }, false, 1, 6)
abbrev mI_140 : MI := (RX6, yX6_taxi, cX6_taxi, 4, (some .int), { frames := 3, cells := 0, slots := 0, locals := 64 }, false, 2, 6)
abbrev mI_141 : MI := (RX6, yX6_line, cX6_line, 2, (some .int), { frames := 0, cells := 0, slots := 0, locals := 0 }, false, 1, 6)
abbrev mI_142 : MI := (RX6, yX6_plate, cX6_plate, 2, (some .int), { frames := 1, cells := 0, slots := 0, locals := 22 }, false, 1, 6)
abbrev mI_143 : MI := (RX6, yX6_waiting, cX6_waiting, 3, (some .int), { frames := 1, cells := 0, slots := 0, locals := 22 }, false, 2, 6)
abbrev mI_144 : MI := (RX6, yX6_rides, cX6_rides, 3, (some .int), { frames := 4, cells := 0, slots := 0, locals := 90 }, false, 1, 6)
abbrev mI_145 : MI := (RX6, yX6_ifCalled, cX6_ifCalled, 5, (some .int), { frames := 5, cells := 0, slots := 0, locals := 113 }, false, 3, 6)
abbrev mI_146 : MI := (RX6, yX6_reason, cX6_reason, 4, (some .int), { frames := 4, cells := 0, slots := 0, locals := 90 }, false, 2, 6)
abbrev mI_147 : MI := (RX6, yX6_ridesIn, cX6_ridesIn, 5, (some .int), { frames := 7, cells := 0, slots := 0, locals := 154 }, false, 1, 6)
abbrev mI_148 : MI := (RX6, yX6_inLineIn, cX6_inLineIn, 4, (some .int), { frames := 7, cells := 0, slots := 0, locals := 154 }, false, 1, 6)
abbrev mI_149 : MI := (RX6, yX6_shares, cX6_shares, 5, (some .int), { frames := 1, cells := 0, slots := 0, locals := 22 }, false, 1, 6)
abbrev mI_150 : MI := (RX6, yX6_count, cX6_count, 2, (some .int), { frames := 0, cells := 0, slots := 0, locals := 0 }, false, 1, 6)
abbrev mI_151 : MI := (RJ9, yJ9_abs_0f7a4, cJ9_abs_0f7a4, 1, (some .int), { frames := 0, cells := 0, slots := 0, locals := 0 }, false, 1, 99)
abbrev mI_152 : MI := (RL, yL_law, cL_law, 4, (some .boolean), room_1, false, 1, 98)
def mtab_0 : List MI := [mI_0, mI_1, mI_2, mI_3, mI_4, mI_5, mI_6, mI_7, mI_8, mI_9, mI_10, mI_11, mI_12, mI_13, mI_14, mI_15, mI_16, mI_17, mI_18, mI_19, mI_20, mI_21, mI_22, mI_23, mI_24, mI_25, mI_26, mI_27, mI_28, mI_29, mI_30, mI_31, mI_32, mI_33, mI_34, mI_35, mI_36, mI_37, mI_38, mI_39]
def mtab_1 : List MI := [mI_40, mI_41, mI_42, mI_43, mI_44, mI_45, mI_46, mI_47, mI_48, mI_49, mI_50, mI_51, mI_52, mI_53, mI_54, mI_55, mI_56, mI_57, mI_58, mI_59, mI_60, mI_61, mI_62, mI_63, mI_64, mI_65, mI_66, mI_67, mI_68, mI_69, mI_70, mI_71, mI_72, mI_73, mI_74, mI_75, mI_76, mI_77, mI_78, mI_79]
def mtab_2 : List MI := [mI_80, mI_81, mI_82, mI_83, mI_84, mI_85, mI_86, mI_87, mI_88, mI_89, mI_90, mI_91, mI_92, mI_93, mI_94, mI_95, mI_96, mI_97, mI_98, mI_99, mI_100, mI_101, mI_102, mI_103, mI_104, mI_105, mI_106, mI_107, mI_108, mI_109, mI_110, mI_111, mI_112, mI_113, mI_114, mI_115, mI_116, mI_117, mI_118, mI_119]
def mtab_3 : List MI := [mI_120, mI_121, mI_122, mI_123, mI_124, mI_125, mI_126, mI_127, mI_128, mI_129, mI_130, mI_131, mI_132, mI_133, mI_134, mI_135, mI_136, mI_137, mI_138, mI_139, mI_140, mI_141, mI_142, mI_143, mI_144, mI_145, mI_146, mI_147, mI_148, mI_149, mI_150, mI_151, mI_152]
def mth (id : Nat) : MI := if id < 40 then mtab_0.getD id mI_0 else if id < 80 then mtab_1.getD (id - 40) mI_0 else if id < 120 then mtab_2.getD (id - 80) mI_0 else mtab_3.getD (id - 120) mI_0
def mown (id : Nat) : String := (mth id).1
def mnm (id : Nat) : MethodName := (mth id).2.1
def mcc (id : Nat) : ByteArray := (mth id).2.2.1
def mmx (id : Nat) : Nat := (mth id).2.2.2.1
def mret (id : Nat) : Option FieldType := (mth id).2.2.2.2.1
def mrm (id : Nat) : Room := (mth id).2.2.2.2.2.1
def mini (id : Nat) : Bool := (mth id).2.2.2.2.2.2.1
def mnp (id : Nat) : Nat := (mth id).2.2.2.2.2.2.2.1
def mkd (id : Nat) : Nat := (mth id).2.2.2.2.2.2.2.2
/-- the words of the tables that go along -/
def allW : List Cond := lw_tbl.filter goodWord
theorem allW_of {w : Cond} (h : w ∈ lw_tbl) (hg : goodWord w = true) : w ∈ allW := List.mem_filter.mpr ⟨h, hg⟩
theorem tm_s {w : Cond} (i : Nat) (h : (k2_sels lw_privs)[i]? = some w) (hg : goodWord w = true) : w ∈ allW := allW_of (List.mem_append_left _ (List.mem_of_getElem? h)) hg
theorem tm_1 {w : Cond} (i : Nat) (h : tables_1_1[i]? = some w) (hg : goodWord w = true) : w ∈ allW := allW_of (List.mem_append_right _ (List.mem_append_left _ (List.mem_of_getElem? h))) hg
theorem tm_2 {w : Cond} (i : Nat) (h : tables_1_2[i]? = some w) (hg : goodWord w = true) : w ∈ allW := allW_of (List.mem_append_right _ (List.mem_append_right _ (List.mem_append_left _ (List.mem_of_getElem? h)))) hg
theorem tm_3 {w : Cond} (i : Nat) (h : tables_1_3[i]? = some w) (hg : goodWord w = true) : w ∈ allW := allW_of (List.mem_append_right _ (List.mem_append_right _ (List.mem_append_right _ (List.mem_append_left _ (List.mem_of_getElem? h))))) hg
theorem tm_4 {w : Cond} (i : Nat) (h : tables_1_4[i]? = some w) (hg : goodWord w = true) : w ∈ allW := allW_of (List.mem_append_right _ (List.mem_append_right _ (List.mem_append_right _ (List.mem_append_right _ (List.mem_of_getElem? h))))) hg
/-- a code list's entry: pc, instruction, length, and what it is resolved to (a, b, v, rows of a switch) -/
abbrev CI : Type := Instr × Nat × Nat × Nat × Int32 × List (Int32 × Nat)
def cNm : Nat → String := fun k => match k with | 0 => RX0 | 1 => RX1 | 2 => RX2 | 3 => RX3 | 4 => RX4 | 5 => RX5 | _ => RX6
def cT : Nat → u_T := fun k => match k with | 0 => TX0 | 1 => TX1 | 2 => TX2 | 3 => TX3 | 4 => TX4 | 5 => TX5 | _ => TX6
def cTy : Nat → Nat → FieldType := fun k => match k with | 0 => tyX0 | 1 => tyX1 | 2 => tyX2 | 3 => tyX3 | 4 => tyX4 | 5 => tyX5 | _ => tyX6
def nFl : Nat → Nat := fun k => match k with | 0 => 2 | 1 => 7 | 2 => 5 | 3 => 12 | 4 => 12 | 5 => 10 | 6 => 15 | _ => 0
theorem cl_at {k : Nat} (h : k < 7) : vwCl[k]? = some (cNm k, cT k, nFl k) := by
  match k, h with
  | 0, _ => rfl
  | 1, _ => rfl
  | 2, _ => rfl
  | 3, _ => rfl
  | 4, _ => rfl
  | 5, _ => rfl
  | 6, _ => rfl
theorem cTy_ok {k : Nat} (h : k < 7) : ∀ j, j < nFl k → parseFieldDescriptor (cT k j).2.2.1 = some (cTy k j) := by
  match k, h with
  | 0, _ => exact tyX0_ok
  | 1, _ => exact tyX1_ok
  | 2, _ => exact tyX2_ok
  | 3, _ => exact tyX3_ok
  | 4, _ => exact tyX4_ok
  | 5, _ => exact tyX5_ok
  | 6, _ => exact tyX6_ok
theorem cNmx {k : Nat} (h : k < 7) : ∀ a, a < nFl k → ∀ b, b < nFl k → a ≠ b → (cT k a).2.1 ≠ (cT k b).2.1 := by
  match k, h with
  | 0, _ => exact nmX0
  | 1, _ => exact nmX1
  | 2, _ => exact nmX2
  | 3, _ => exact nmX3
  | 4, _ => exact nmX4
  | 5, _ => exact nmX5
  | 6, _ => exact nmX6
theorem inW_0 : ∀ w ∈ u_ws (cNm 0) (cT 0) (nFl 0), w ∈ allW := show ∀ w ∈ [u_lay (cNm 0) (cT 0) 0, u_lay (cNm 0) (cT 0) 1], w ∈ allW from List.forall_mem_cons.mpr ⟨(tm_1 185 rfl rfl), List.forall_mem_cons.mpr ⟨(tm_1 187 rfl rfl), fun _ h => absurd h List.not_mem_nil⟩⟩
theorem inW_1 : ∀ w ∈ u_ws (cNm 1) (cT 1) (nFl 1), w ∈ allW := show ∀ w ∈ [u_lay (cNm 1) (cT 1) 0, u_lay (cNm 1) (cT 1) 1, u_lay (cNm 1) (cT 1) 2, u_lay (cNm 1) (cT 1) 3, u_lay (cNm 1) (cT 1) 4, u_lay (cNm 1) (cT 1) 5, u_lay (cNm 1) (cT 1) 6], w ∈ allW from List.forall_mem_cons.mpr ⟨(tm_1 207 rfl rfl), List.forall_mem_cons.mpr ⟨(tm_1 209 rfl rfl), List.forall_mem_cons.mpr ⟨(tm_1 211 rfl rfl), List.forall_mem_cons.mpr ⟨(tm_1 213 rfl rfl), List.forall_mem_cons.mpr ⟨(tm_1 215 rfl rfl), List.forall_mem_cons.mpr ⟨(tm_1 217 rfl rfl), List.forall_mem_cons.mpr ⟨(tm_1 219 rfl rfl), fun _ h => absurd h List.not_mem_nil⟩⟩⟩⟩⟩⟩⟩
theorem inW_2 : ∀ w ∈ u_ws (cNm 2) (cT 2) (nFl 2), w ∈ allW := show ∀ w ∈ [u_lay (cNm 2) (cT 2) 0, u_lay (cNm 2) (cT 2) 1, u_lay (cNm 2) (cT 2) 2, u_lay (cNm 2) (cT 2) 3, u_lay (cNm 2) (cT 2) 4], w ∈ allW from List.forall_mem_cons.mpr ⟨(tm_1 107 rfl rfl), List.forall_mem_cons.mpr ⟨(tm_1 109 rfl rfl), List.forall_mem_cons.mpr ⟨(tm_1 111 rfl rfl), List.forall_mem_cons.mpr ⟨(tm_1 113 rfl rfl), List.forall_mem_cons.mpr ⟨(tm_1 115 rfl rfl), fun _ h => absurd h List.not_mem_nil⟩⟩⟩⟩⟩
theorem inW_3 : ∀ w ∈ u_ws (cNm 3) (cT 3) (nFl 3), w ∈ allW := show ∀ w ∈ [u_lay (cNm 3) (cT 3) 0, u_lay (cNm 3) (cT 3) 1, u_lay (cNm 3) (cT 3) 2, u_lay (cNm 3) (cT 3) 3, u_lay (cNm 3) (cT 3) 4, u_lay (cNm 3) (cT 3) 5, u_lay (cNm 3) (cT 3) 6, u_lay (cNm 3) (cT 3) 7, u_lay (cNm 3) (cT 3) 8, u_lay (cNm 3) (cT 3) 9, u_lay (cNm 3) (cT 3) 10, u_lay (cNm 3) (cT 3) 11], w ∈ allW from List.forall_mem_cons.mpr ⟨(tm_1 64 rfl rfl), List.forall_mem_cons.mpr ⟨(tm_1 66 rfl rfl), List.forall_mem_cons.mpr ⟨(tm_1 68 rfl rfl), List.forall_mem_cons.mpr ⟨(tm_1 70 rfl rfl), List.forall_mem_cons.mpr ⟨(tm_1 72 rfl rfl), List.forall_mem_cons.mpr ⟨(tm_1 74 rfl rfl), List.forall_mem_cons.mpr ⟨(tm_1 76 rfl rfl), List.forall_mem_cons.mpr ⟨(tm_1 78 rfl rfl), List.forall_mem_cons.mpr ⟨(tm_1 80 rfl rfl), List.forall_mem_cons.mpr ⟨(tm_1 82 rfl rfl), List.forall_mem_cons.mpr ⟨(tm_1 84 rfl rfl), List.forall_mem_cons.mpr ⟨(tm_1 86 rfl rfl), fun _ h => absurd h List.not_mem_nil⟩⟩⟩⟩⟩⟩⟩⟩⟩⟩⟩⟩
theorem inW_4 : ∀ w ∈ u_ws (cNm 4) (cT 4) (nFl 4), w ∈ allW := show ∀ w ∈ [u_lay (cNm 4) (cT 4) 0, u_lay (cNm 4) (cT 4) 1, u_lay (cNm 4) (cT 4) 2, u_lay (cNm 4) (cT 4) 3, u_lay (cNm 4) (cT 4) 4, u_lay (cNm 4) (cT 4) 5, u_lay (cNm 4) (cT 4) 6, u_lay (cNm 4) (cT 4) 7, u_lay (cNm 4) (cT 4) 8, u_lay (cNm 4) (cT 4) 9, u_lay (cNm 4) (cT 4) 10, u_lay (cNm 4) (cT 4) 11], w ∈ allW from List.forall_mem_cons.mpr ⟨(tm_1 148 rfl rfl), List.forall_mem_cons.mpr ⟨(tm_1 150 rfl rfl), List.forall_mem_cons.mpr ⟨(tm_1 152 rfl rfl), List.forall_mem_cons.mpr ⟨(tm_1 154 rfl rfl), List.forall_mem_cons.mpr ⟨(tm_1 156 rfl rfl), List.forall_mem_cons.mpr ⟨(tm_1 158 rfl rfl), List.forall_mem_cons.mpr ⟨(tm_1 160 rfl rfl), List.forall_mem_cons.mpr ⟨(tm_1 162 rfl rfl), List.forall_mem_cons.mpr ⟨(tm_1 164 rfl rfl), List.forall_mem_cons.mpr ⟨(tm_1 166 rfl rfl), List.forall_mem_cons.mpr ⟨(tm_1 168 rfl rfl), List.forall_mem_cons.mpr ⟨(tm_1 170 rfl rfl), fun _ h => absurd h List.not_mem_nil⟩⟩⟩⟩⟩⟩⟩⟩⟩⟩⟩⟩
theorem inW_5 : ∀ w ∈ u_ws (cNm 5) (cT 5) (nFl 5), w ∈ allW := show ∀ w ∈ [u_lay (cNm 5) (cT 5) 0, u_lay (cNm 5) (cT 5) 1, u_lay (cNm 5) (cT 5) 2, u_lay (cNm 5) (cT 5) 3, u_lay (cNm 5) (cT 5) 4, u_lay (cNm 5) (cT 5) 5, u_lay (cNm 5) (cT 5) 6, u_lay (cNm 5) (cT 5) 7, u_lay (cNm 5) (cT 5) 8, u_lay (cNm 5) (cT 5) 9], w ∈ allW from List.forall_mem_cons.mpr ⟨(tm_1 233 rfl rfl), List.forall_mem_cons.mpr ⟨(tm_1 235 rfl rfl), List.forall_mem_cons.mpr ⟨(tm_1 237 rfl rfl), List.forall_mem_cons.mpr ⟨(tm_1 239 rfl rfl), List.forall_mem_cons.mpr ⟨(tm_2 1 rfl rfl), List.forall_mem_cons.mpr ⟨(tm_2 3 rfl rfl), List.forall_mem_cons.mpr ⟨(tm_2 5 rfl rfl), List.forall_mem_cons.mpr ⟨(tm_2 7 rfl rfl), List.forall_mem_cons.mpr ⟨(tm_2 9 rfl rfl), List.forall_mem_cons.mpr ⟨(tm_2 11 rfl rfl), fun _ h => absurd h List.not_mem_nil⟩⟩⟩⟩⟩⟩⟩⟩⟩⟩
theorem inW_6 : ∀ w ∈ u_ws (cNm 6) (cT 6) (nFl 6), w ∈ allW := show ∀ w ∈ [u_lay (cNm 6) (cT 6) 0, u_lay (cNm 6) (cT 6) 1, u_lay (cNm 6) (cT 6) 2, u_lay (cNm 6) (cT 6) 3, u_lay (cNm 6) (cT 6) 4, u_lay (cNm 6) (cT 6) 5, u_lay (cNm 6) (cT 6) 6, u_lay (cNm 6) (cT 6) 7, u_lay (cNm 6) (cT 6) 8, u_lay (cNm 6) (cT 6) 9, u_lay (cNm 6) (cT 6) 10, u_lay (cNm 6) (cT 6) 11, u_lay (cNm 6) (cT 6) 12, u_lay (cNm 6) (cT 6) 13, u_lay (cNm 6) (cT 6) 14], w ∈ allW from List.forall_mem_cons.mpr ⟨(tm_3 117 rfl rfl), List.forall_mem_cons.mpr ⟨(tm_3 119 rfl rfl), List.forall_mem_cons.mpr ⟨(tm_3 121 rfl rfl), List.forall_mem_cons.mpr ⟨(tm_3 123 rfl rfl), List.forall_mem_cons.mpr ⟨(tm_3 125 rfl rfl), List.forall_mem_cons.mpr ⟨(tm_3 127 rfl rfl), List.forall_mem_cons.mpr ⟨(tm_3 129 rfl rfl), List.forall_mem_cons.mpr ⟨(tm_3 131 rfl rfl), List.forall_mem_cons.mpr ⟨(tm_3 133 rfl rfl), List.forall_mem_cons.mpr ⟨(tm_3 135 rfl rfl), List.forall_mem_cons.mpr ⟨(tm_3 137 rfl rfl), List.forall_mem_cons.mpr ⟨(tm_3 139 rfl rfl), List.forall_mem_cons.mpr ⟨(tm_3 141 rfl rfl), List.forall_mem_cons.mpr ⟨(tm_3 143 rfl rfl), List.forall_mem_cons.mpr ⟨(tm_3 145 rfl rfl), fun _ h => absurd h List.not_mem_nil⟩⟩⟩⟩⟩⟩⟩⟩⟩⟩⟩⟩⟩⟩⟩
theorem inW {k : Nat} (h : k < 7) : ∀ w ∈ u_ws (cNm k) (cT k) (nFl k), w ∈ allW := by
  match k, h with
  | 0, _ => exact inW_0
  | 1, _ => exact inW_1
  | 2, _ => exact inW_2
  | 3, _ => exact inW_3
  | 4, _ => exact inW_4
  | 5, _ => exact inW_5
  | 6, _ => exact inW_6
end
section
/-! THE BRIDGE: a small pure machine (cells by their place, values, lists of locals and of the stack), and what it says of the real one -/
abbrev PS : Type := Nat × Nat × (Nat → Nat) × (Nat → Nat)
/-- how many cells, how many slots, the kind of each, the length of each; the numbers in them; the references in them -/
abbrev PH : Type := PS × (Nat → Nat → Int32) × (Nat → Nat → Option Nat)
/-- where the cells are, the arrays' classes, what is known of these -/
abbrev GH : Type := (Nat → Nat) × (Nat → ClassId) × List (ClassId × FieldType)
/-- arrays that nobody writes (places from 1000 on): kinds, lengths, what they hold -/
abbrev ROA : Type := (Nat → Nat) × (Nat → Nat) × (Nat → Nat → Int32)
def isRf (ci j : Nat) : Bool := match cTy ci j with
  | .object _ => true
  | .array _ => true
  | _ => false
def eV (G : GH) : Value → Value := fun v => match v with
  | .int x => .int x
  | .ref p => .ref (G.1 p)
  | _ => .null
def rvl (r : Option Nat) : Value := match r with
  | none => .null
  | some p => .ref p
theorem eV_rvl (G : GH) (r : Option Nat) : eV G (rvl r) = va_rf (r.map G.1) := by cases r <;> rfl
def vF (G : GH) (h : PH) (p j : Nat) : Value := if isRf (h.1.2.2.1 p) j = true then va_rf ((h.2.2 p j).map G.1) else .int (h.2.1 p j)
def vE (G : GH) (h : PH) (p : Nat) : va_E :=
  if h.1.2.2.1 p < 7 then .inr (h.1.2.2.1 p, (List.range (nFl (h.1.2.2.1 p))).map (vF G h p))
  else if h.1.2.2.1 p < 9 then .inl (G.2.1 p, (h.1.2.2.2 p, .inl (h.2.1 p)))
  else .inl (G.2.1 p, (h.1.2.2.2 p, .inr (.inr (.inr (.inr (fun j => (h.2.2 p j).map G.1))))))
def vW (G : GH) (h : PH) : va_W := (List.range h.1.1).map (fun p => (G.1 p, vE G h p))
theorem vW_get (G : GH) (h : PH) {p : Nat} (hp : p < h.1.1) : (vW G h)[p]? = some (G.1 p, vE G h p) := by simp [vW, hp]
theorem vW_len (G : GH) (h : PH) : (vW G h).length = h.1.1 := by simp [vW]
theorem vW_set (G : GH) (h h' : PH) {p : Nat} (hp : p < h.1.1) (h1 : h'.1 = h.1) (ho : ∀ q, q ≠ p → vE G h' q = vE G h q) {E : va_E} (hE : E = vE G h' p) : (vW G h).set p (G.1 p, E) = vW G h' := by
  subst hE
  apply List.ext_getElem?
  intro k
  rw [List.getElem?_set]
  by_cases hk : p = k
  · subst hk
    rw [if_pos rfl, if_pos (by rw [vW_len]; exact hp), vW_get G h' (by rw [h1]; exact hp)]
  · rw [if_neg hk]
    by_cases hl : k < h.1.1
    · rw [vW_get G h hl, vW_get G h' (by rw [h1]; exact hl), ho k (fun z => hk z.symm)]
    · have e1 : (vW G h)[k]? = none := List.getElem?_eq_none (by rw [vW_len]; omega)
      have e2 : (vW G h')[k]? = none := List.getElem?_eq_none (by rw [vW_len, h1]; omega)
      rw [e1, e2]
theorem vW_push (G G' : GH) (h h' : PH) {a : Nat} {E : va_E} (hn : h'.1.1 = h.1.1 + 1) (ha : G'.1 h.1.1 = a) (hE : vE G' h' h.1.1 = E) (ho : ∀ q, q < h.1.1 → G'.1 q = G.1 q ∧ vE G' h' q = vE G h q) : vW G h ++ [(a, E)] = vW G' h' := by
  apply List.ext_getElem?
  intro k
  by_cases hl : k < h.1.1
  · rw [List.getElem?_append_left (by rw [vW_len]; exact hl), vW_get G h hl, vW_get G' h' (by omega), (ho k hl).1, (ho k hl).2]
  · by_cases he : k = h.1.1
    · subst he
      rw [List.getElem?_append_right (by rw [vW_len]; omega), vW_len, Nat.sub_self, vW_get G' h' (by omega), ha, hE]
      rfl
    · rw [List.getElem?_eq_none (by simp [vW_len]; omega), List.getElem?_eq_none (by rw [vW_len]; omega)]
def arT : Nat → Option FieldType := fun k => match k with
  | 7 => some .int
  | 8 => some .char
  | 9 => some (.object RX3)
  | 10 => some (.object RX4)
  | _ => none
def stN : Nat → String := fun k => match k with
  | 0 => "LOWEST"
  | 1 => "HIGHEST"
  | _ => "AT_FIRST"
abbrev nestW : Cond := .methodLinkNest RX4 17 yX3_init "TaxiRank"
def RoOK (ro : ROA) (h : PH) : Prop := ∀ p, 1000 ≤ p → h.1.2.2.1 p = ro.1 p ∧ h.1.2.2.2 p = ro.2.1 p ∧ h.2.1 p = ro.2.2 p
def EmbW (D : va_G) (G : GH) (ro : ROA) (A : Nat → Prop) (h : PH) (U : State) (H : Heap) : Prop :=
  va_P D vwCl (vW G h) H ∧ va_D A (vW G h) ∧ va_K D vwCl G.2.2 U ∧ (∀ p ty, p < h.1.1 → arT (h.1.2.2.1 p) = some ty → ∃ t0 : Nat, G.2.2[t0]? = some (G.2.1 p, ty)) ∧ h.1.1 ≤ 1000 ∧ (va_AO RX3 U ∧ va_AO RX4 U ∧ va_Nw nestW U) ∧ RoOK ro h
def EmbS (G : GH) (ro : ROA) (A : Nat → Prop) (U : State) (H : Heap) : Prop :=
  (∀ p, 1000 ≤ p → ro.1 p = 11 → va_T .int (G.1 p) (ro.2.1 p) (fun j => .int (ro.2.2 p j)) A U H) ∧ ∀ k, k < 3 → va_Z "TaxiRank$Town" (stN k) "[I" (.ref (G.1 (1000 + k))) A U H
def GX (G0 G : GH) (n0 mc : Nat) : Prop := (∀ p, p < n0 ∨ 1000 ≤ p → G.1 p = G0.1 p) ∧ (mc = 0 → G = G0)
def lvl (G : GH) : Nat → List (Option Value) → List (Nat × Value)
  | _, [] => []
  | i, none :: r => lvl G (i + 1) r
  | i, some v :: r => (i, eV G v) :: lvl G (i + 1) r
theorem lvl_mem (G : GH) : ∀ (ls : List (Option Value)) (i : Nat) (q : Nat × Value), q ∈ lvl G i ls ↔ ∃ k v, ls[k]? = some (some v) ∧ q = (i + k, eV G v) := by
  intro ls
  induction ls with
  | nil => intro i q; simp [lvl]
  | cons a r ih =>
    intro i q
    cases a with
    | none =>
      simp only [lvl, ih]
      constructor
      · rintro ⟨k, v, h1, h2⟩
        exact ⟨k + 1, v, by simpa using h1, by rw [h2]; congr 1; omega⟩
      · rintro ⟨k, v, h1, h2⟩
        cases k with
        | zero => simp at h1
        | succ k => exact ⟨k, v, by simpa using h1, by rw [h2]; congr 1; omega⟩
    | some w =>
      simp only [lvl, List.mem_cons, ih]
      constructor
      · rintro (h | ⟨k, v, h1, h2⟩)
        · exact ⟨0, w, by simp, by simpa using h⟩
        · exact ⟨k + 1, v, by simpa using h1, by rw [h2]; congr 1; omega⟩
      · rintro ⟨k, v, h1, h2⟩
        cases k with
        | zero =>
          simp at h1
          subst h1
          exact Or.inl (by simpa using h2)
        | succ k => exact Or.inr ⟨k, v, by simpa using h1, by rw [h2]; congr 1; omega⟩
def LvR (G : GH) (ls : List (Option Value)) (lsr : Array Slot) (nL : Nat) : Prop := ls.length = nL ∧ lv_has lsr nL (lvl G 0 ls)
theorem LvR.get {G : GH} {ls : List (Option Value)} {lsr : Array Slot} {nL i : Nat} {v : Value} (h : LvR G ls lsr nL) (hi : ls[i]? = some (some v)) : lsr[i]? = some (.val (eV G v)) := by
  have := h.2.2.2 (i, eV G v) ((lvl_mem G ls 0 _).mpr ⟨i, v, hi, by simp⟩)
  exact this
theorem eV_cat (G : GH) (v : Value) : (eV G v).category = 1 := by cases v <;> rfl
theorem LvR.set {G : GH} {ls : List (Option Value)} {lsr ls' : Array Slot} {nL i : Nat} {v : Value} (h : LvR G ls lsr nL) (h' : lv_has ls' nL ((i, eV G v) :: (lvl G 0 ls).filter (fun q => !(q.1 == i) && !(q.1 + 1 == i && q.2.category == 2)))) : LvR G (ls.set i (some v)) ls' nL := by
  refine ⟨by rw [List.length_set]; exact h.1, h'.1, h'.2.1, fun q hq => h'.2.2 q ?_⟩
  obtain ⟨k, w, h1, rfl⟩ := (lvl_mem G _ 0 _).mp hq
  rw [List.getElem?_set] at h1
  by_cases hk : i = k
  · subst hk
    rw [if_pos rfl] at h1
    split at h1
    · cases h1
      simp
    · cases h1
  · rw [if_neg hk] at h1
    refine List.mem_cons_of_mem _ (List.mem_filter.mpr ⟨(lvl_mem G ls 0 _).mpr ⟨k, w, h1, rfl⟩, ?_⟩)
    simp [eV_cat]
    omega
theorem LvR.lt {G : GH} {ls : List (Option Value)} {lsr : Array Slot} {nL i : Nat} {v : Option Value} (h : LvR G ls lsr nL) (hi : ls[i]? = some v) : i < nL := by
  have := (List.getElem?_eq_some_iff.mp hi).1
  rw [← h.1]; exact this
/-- a value whose place is old, or of an array that nobody writes -/
def vOld (n : Nat) : Value → Prop := fun v => match v with
  | .ref p => p < n ∨ 1000 ≤ p
  | _ => True
theorem eV_ext {G G' : GH} {n mc : Nat} (h : GX G G' n mc) {v : Value} (hv : vOld n v) : eV G' v = eV G v := by
  cases v with
  | ref p => exact congrArg Value.ref (h.1 p hv)
  | _ => rfl
theorem LvR.ext {G G' : GH} {n mc : Nat} {ls : List (Option Value)} {lsr : Array Slot} {nL : Nat} (h : LvR G ls lsr nL) (hG : GX G G' n mc) (ho : ∀ v, some v ∈ ls → vOld n v) : LvR G' ls lsr nL := by
  refine ⟨h.1, h.2.1, h.2.2.1, fun q hq => h.2.2.2 q ?_⟩
  obtain ⟨k, w, h1, rfl⟩ := (lvl_mem G' _ 0 _).mp hq
  rw [eV_ext hG (ho w (List.mem_of_getElem? h1))]
  exact (lvl_mem G ls 0 _).mpr ⟨k, w, h1, rfl⟩
theorem st_ext {G G' : GH} {n mc : Nat} {st : List Value} (hG : GX G G' n mc) (ho : ∀ v, v ∈ st → vOld n v) : st.map (eV G') = st.map (eV G) := List.map_congr_left (fun v hv => eV_ext hG (ho v hv))
/-- the machine's fixed part -/
def Cx (p : Program) (s : State) (m : MethodId) (args : Array Value) (meth : Method) (c : Code) (id : Nat) : Prop :=
  p.tables.exec = Jvm.exec ∧ c.code = mcc id ∧ c.maxLocals = mmx id ∧ s.vm.findClass (mown id) = some m.cls ∧ (∀ w ∈ allW, w.before args s = true) ∧ (mini id = true → meth.name = "<init>")
def isRet (id pc : Nat) (v : Option Value) : Prop :=
  (v = none ∧ mret id = none ∧ decode (mcc id) pc = .ok (.return_, 1)) ∨ (∃ x ty, v = some (.int x) ∧ mret id = some ty ∧ narrow ty (.int x) = .int x ∧ decode (mcc id) pc = .ok (.ireturn, 1)) ∨ (∃ n r, v = some (rvl r) ∧ mret id = some (.object n) ∧ decode (mcc id) pc = .ok (.areturn, 1))
def RetOK (p : Program) (l : Launch) (e : Env) (R : Room) (s : State) (m : MethodId) (args : Array Value) (below : List Frame) (meth : Method) (c : Code) (Qm : State → Prop) (A : Nat → Prop) (D : va_G) (ro : ROA) (G0 : GH) (n0 sz0 id : Nat) (lim : Nat × Nat) (P : Option Value → PH → Prop) : Prop :=
  ∀ (pc : Nat) (v : Option Value) (h' : PH) (G : GH) (H : Heap) (locs : List Loc) (lsr : Array Slot) (cells slots : Nat), isRet id pc v → P v h' → h'.1.1 = lim.1 → h'.1.2.1 = lim.2 → EmbW D G ro A h' s H → GX G0 G n0 (mrm id).cells → va_S A s.heap H locs → cells + n0 = h'.1.1 → slots + sz0 = h'.1.2.1 → W p l e R s m args below meth c H locs cells slots Qm (F0 m pc lsr ((v.map (eV G)).toList))
/-- FROM HERE the real machine comes to the method's end, with P -/
def Sy (l : Launch) (id : Nat) (lim : Nat × Nat) (pc : Nat) (ls : List (Option Value)) (st : List Value) (h : PH) (P : Option Value → PH → Prop) : Prop :=
  ∀ (p : Program) (e : Env) (R : Room) (s : State) (m : MethodId) (args : Array Value) (below : List Frame) (meth : Method) (c : Code) (Qm : State → Prop) (A : Nat → Prop) (D : va_G) (ro : ROA) (G0 : GH) (n0 sz0 : Nat),
    Cx p s m args meth c id → (∀ q, s.heap.size ≤ q → A q) → ((mrm id).frames ≤ R.frames ∧ (mrm id).locals ≤ R.locals ∧ lim.1 ≤ n0 + R.cells ∧ lim.2 ≤ sz0 + R.slots) → EmbS G0 ro A s s.heap → RetOK p l e R s m args below meth c Qm A D ro G0 n0 sz0 id lim P →
    ∀ (G : GH) (H : Heap) (locs : List Loc) (lsr : Array Slot) (cells slots : Nat), EmbW D G ro A h s H → GX G0 G n0 (mrm id).cells → va_S A s.heap H locs → LvR G ls lsr (mmx id) → cells + n0 = h.1.1 → slots + sz0 = h.1.2.1 →
      W p l e R s m args below meth c H locs cells slots Qm (F0 m pc lsr (st.map (eV G)))
section SYS
variable {l : Launch} {id : Nat} {lim : Nat × Nat} {pc : Nat} {ls : List (Option Value)} {st : List Value} {h : PH} {P : Option Value → PH → Prop}
theorem sy_load {a len : Nat} {i : Instr} {v : Value} (hd : decode (mcc id) pc = .ok (i, len)) (hl : ls[a]? = some (some v)) (hi : (i = .iload a ∧ len = 2 ∧ ∃ x, v = .int x) ∨ (∃ k : Fin 4, i = .iload_n k ∧ (k : Nat) = a ∧ len = 1 ∧ ∃ x, v = .int x) ∨ (i = .aload a ∧ len = 2 ∧ ∃ r, v = rvl r) ∨ (∃ k : Fin 4, i = .aload_n k ∧ (k : Nat) = a ∧ len = 1 ∧ ∃ r, v = rvl r)) (k : Sy l id lim (pc + len) ls (v :: st) h P) : Sy l id lim pc ls st h P := by
  intro p e R s m args below meth c Qm A D ro G0 n0 sz0 C hA hR hS hret G H locs lsr cells slots hE hG hV hL hc hs
  have k' := k _ _ _ _ _ _ _ _ _ _ _ _ _ _ _ _ C hA hR hS hret _ _ _ _ _ _ hE hG hV hL hc hs
  have g := hL.get hl
  rcases hi with ⟨rfl, rfl, x, rfl⟩ | ⟨q, rfl, rfl, rfl, x, rfl⟩ | ⟨rfl, rfl, r, rfl⟩ | ⟨q, rfl, rfl, rfl, r, rfl⟩
  · exact lv_iload C.1 C.2.1 hd g k'
  · exact lv_iload_n C.1 C.2.1 hd rfl g k'
  · cases r with
    | none => exact lv_aloadN C.1 C.2.1 hd g k'
    | some r => exact lv_aload C.1 C.2.1 hd g k'
  · cases r with
    | none => exact lv_aload_nN C.1 C.2.1 hd rfl g k'
    | some r => exact lv_aload_n C.1 C.2.1 hd rfl g k'
theorem sy_store {a len : Nat} {i : Instr} {v : Value} {w : Option Value} (hd : decode (mcc id) pc = .ok (i, len)) (hl : ls[a]? = some w) (hi : (i = .istore a ∧ len = 2 ∧ ∃ x, v = .int x) ∨ (∃ k : Fin 4, i = .istore_n k ∧ (k : Nat) = a ∧ len = 1 ∧ ∃ x, v = .int x) ∨ (i = .astore a ∧ len = 2 ∧ ∃ r, v = rvl r) ∨ (∃ k : Fin 4, i = .astore_n k ∧ (k : Nat) = a ∧ len = 1 ∧ ∃ r, v = rvl r)) (k : Sy l id lim (pc + len) (ls.set a (some v)) st h P) : Sy l id lim pc ls (v :: st) h P := by
  intro p e R s m args below meth c Qm A D ro G0 n0 sz0 C hA hR hS hret G H locs lsr cells slots hE hG hV hL hc hs
  have k' := fun (ls' : Array Slot) (h' : lv_has ls' (mmx id) ((a, eV G v) :: (lvl G 0 ls).filter (fun q => !(q.1 == a) && !(q.1 + 1 == a && q.2.category == 2)))) => k _ _ _ _ _ _ _ _ _ _ _ _ _ _ _ _ C hA hR hS hret _ _ _ _ _ _ hE hG hV (hL.set h') hc hs
  have hn := hL.lt hl
  rcases hi with ⟨rfl, rfl, x, rfl⟩ | ⟨q, rfl, rfl, rfl, x, rfl⟩ | ⟨rfl, rfl, r, rfl⟩ | ⟨q, rfl, rfl, rfl, r, rfl⟩
  · exact lv_istore C.1 C.2.1 hd hL.2 hn rfl k'
  · exact lv_istore_n C.1 C.2.1 hd rfl hL.2 hn rfl k'
  · cases r with
    | none => exact lv_astoreN C.1 C.2.1 hd hL.2 hn rfl k'
    | some r => exact lv_astore C.1 C.2.1 hd hL.2 hn rfl k'
  · cases r with
    | none => exact lv_astore_nN C.1 C.2.1 hd rfl hL.2 hn rfl k'
    | some r => exact lv_astore_n C.1 C.2.1 hd rfl hL.2 hn rfl k'
theorem sy_iinc {a : Nat} {n : Int} {x v : Int32} (hd : decode (mcc id) pc = .ok (.iinc a n, 3)) (hv : Int32.ofInt n = v) (hl : ls[a]? = some (some (.int x))) (k : Sy l id lim (pc + 3) (ls.set a (some (.int (x + v)))) st h P) : Sy l id lim pc ls st h P := by
  intro p e R s m args below meth c Qm A D ro G0 n0 sz0 C hA hR hS hret G H locs lsr cells slots hE hG hV hL hc hs
  subst hv
  obtain ⟨k0, hk0⟩ := List.getElem?_of_mem ((lvl_mem G ls 0 (a, .int x)).mpr ⟨a, .int x, hl, by simp [eV]⟩)
  exact lv_iinc C.1 C.2.1 hd hL.2 hk0 rfl (hL.lt hl) rfl fun ls' h' => k _ _ _ _ _ _ _ _ _ _ _ _ _ _ _ _ C hA hR hS hret _ _ _ _ _ _ hE hG hV (hL.set (v := .int (x + Int32.ofInt n)) h') hc hs
theorem sy_const {i : Instr} {len : Nat} {v : Int32} (hd : decode (mcc id) pc = .ok (i, len)) (hi : (∃ n, i = .iconst n ∧ len = 1 ∧ Int32.ofInt n = v) ∨ (∃ n, i = .bipush n ∧ len = 2 ∧ (Int8.ofInt n).toInt32 = v) ∨ (∃ n, i = .sipush n ∧ len = 3 ∧ (Int16.ofInt n).toInt32 = v) ∨ (∃ n, i = .ldc n ∧ len = 2 ∧ Cond.constant (mown id) n v ∈ allW)) (k : Sy l id lim (pc + len) ls (.int v :: st) h P) : Sy l id lim pc ls st h P := by
  intro p e R s m args below meth c Qm A D ro G0 n0 sz0 C hA hR hS hret G H locs lsr cells slots hE hG hV hL hc hs
  have k' := k _ _ _ _ _ _ _ _ _ _ _ _ _ _ _ _ C hA hR hS hret _ _ _ _ _ _ hE hG hV hL hc hs
  rcases hi with ⟨n, rfl, rfl, hv⟩ | ⟨n, rfl, rfl, hv⟩ | ⟨n, rfl, rfl, hv⟩ | ⟨n, rfl, rfl, hv⟩
  · exact lv_iconst C.1 C.2.1 hd hv k'
  · exact lv_bipush C.1 C.2.1 hd hv k'
  · exact lv_sipush C.1 C.2.1 hd hv k'
  · exact lv_ldc C.1 C.2.1 C.2.2.2.1 (C.2.2.2.2.1 _ hv) hd k'
theorem sy_null (hd : decode (mcc id) pc = .ok (.aconst_null, 1)) (k : Sy l id lim (pc + 1) ls (.null :: st) h P) : Sy l id lim pc ls st h P := by
  intro p e R s m args below meth c Qm A D ro G0 n0 sz0 C hA hR hS hret G H locs lsr cells slots hE hG hV hL hc hs
  exact lv_null C.1 C.2.1 hd (k _ _ _ _ _ _ _ _ _ _ _ _ _ _ _ _ C hA hR hS hret _ _ _ _ _ _ hE hG hV hL hc hs)
theorem sy_bin {i : Instr} {x y v : Int32} (hd : decode (mcc id) pc = .ok (i, 1)) (hi : (i = .iadd ∧ v = x + y) ∨ (i = .isub ∧ v = x - y) ∨ (i = .imul ∧ v = x * y) ∨ (i = .iand ∧ v = x &&& y) ∨ (i = .idiv ∧ ¬ y = 0 ∧ v = x / y) ∨ (i = .irem ∧ ¬ y = 0 ∧ v = x - x / y * y)) (k : Sy l id lim (pc + 1) ls (.int v :: st) h P) : Sy l id lim pc ls (.int y :: .int x :: st) h P := by
  intro p e R s m args below meth c Qm A D ro G0 n0 sz0 C hA hR hS hret G H locs lsr cells slots hE hG hV hL hc hs
  have k' := k _ _ _ _ _ _ _ _ _ _ _ _ _ _ _ _ C hA hR hS hret _ _ _ _ _ _ hE hG hV hL hc hs
  rcases hi with ⟨rfl, rfl⟩ | ⟨rfl, rfl⟩ | ⟨rfl, rfl⟩ | ⟨rfl, rfl⟩ | ⟨rfl, hn, rfl⟩ | ⟨rfl, hn, rfl⟩
  · exact lv_iadd C.1 C.2.1 hd k'
  · exact lv_isub C.1 C.2.1 hd k'
  · exact lv_imul C.1 C.2.1 hd k'
  · exact lv_iand C.1 C.2.1 hd k'
  · exact lv_idiv C.1 C.2.1 hd hn k'
  · exact lv_irem C.1 C.2.1 hd hn k'
theorem sy_un {i : Instr} {x v : Int32} (hd : decode (mcc id) pc = .ok (i, 1)) (hi : (i = .ineg ∧ v = -x) ∨ (i = .i2c ∧ v = (x.toUInt32 % 65536).toInt32)) (k : Sy l id lim (pc + 1) ls (.int v :: st) h P) : Sy l id lim pc ls (.int x :: st) h P := by
  intro p e R s m args below meth c Qm A D ro G0 n0 sz0 C hA hR hS hret G H locs lsr cells slots hE hG hV hL hc hs
  have k' := k _ _ _ _ _ _ _ _ _ _ _ _ _ _ _ _ C hA hR hS hret _ _ _ _ _ _ hE hG hV hL hc hs
  rcases hi with ⟨rfl, rfl⟩ | ⟨rfl, rfl⟩
  · exact lv_ineg C.1 C.2.1 hd k'
  · exact lv_i2c C.1 C.2.1 hd rfl k'
theorem sy_dup {v : Value} (hd : decode (mcc id) pc = .ok (.dup, 1)) (k : Sy l id lim (pc + 1) ls (v :: v :: st) h P) : Sy l id lim pc ls (v :: st) h P := by
  intro p e R s m args below meth c Qm A D ro G0 n0 sz0 C hA hR hS hret G H locs lsr cells slots hE hG hV hL hc hs
  exact lv_dup C.1 C.2.1 hd (eV_cat G v) (k _ _ _ _ _ _ _ _ _ _ _ _ _ _ _ _ C hA hR hS hret _ _ _ _ _ _ hE hG hV hL hc hs)
theorem sy_dup2 {v w : Value} (hd : decode (mcc id) pc = .ok (.dup2, 1)) (k : Sy l id lim (pc + 1) ls (v :: w :: v :: w :: st) h P) : Sy l id lim pc ls (v :: w :: st) h P := by
  intro p e R s m args below meth c Qm A D ro G0 n0 sz0 C hA hR hS hret G H locs lsr cells slots hE hG hV hL hc hs
  exact lv_dup2_11 C.1 C.2.1 hd (eV_cat G v) (eV_cat G w) (k _ _ _ _ _ _ _ _ _ _ _ _ _ _ _ _ C hA hR hS hret _ _ _ _ _ _ hE hG hV hL hc hs)
theorem sy_pop {v : Value} (hd : decode (mcc id) pc = .ok (.pop, 1)) (k : Sy l id lim (pc + 1) ls st h P) : Sy l id lim pc ls (v :: st) h P := by
  intro p e R s m args below meth c Qm A D ro G0 n0 sz0 C hA hR hS hret G H locs lsr cells slots hE hG hV hL hc hs
  exact lv_pop C.1 C.2.1 hd (eV_cat G v) (k _ _ _ _ _ _ _ _ _ _ _ _ _ _ _ _ C hA hR hS hret _ _ _ _ _ _ hE hG hV hL hc hs)
theorem sy_goto {off : Int} {tgt : Nat} (hd : decode (mcc id) pc = .ok (.goto off, 3)) (ht : (pc : Int) + off = (tgt : Int)) (k : Sy l id lim tgt ls st h P) : Sy l id lim pc ls st h P := by
  intro p e R s m args below meth c Qm A D ro G0 n0 sz0 C hA hR hS hret G H locs lsr cells slots hE hG hV hL hc hs
  exact lv_goto C.1 C.2.1 hd ht (k _ _ _ _ _ _ _ _ _ _ _ _ _ _ _ _ C hA hR hS hret _ _ _ _ _ _ hE hG hV hL hc hs)
theorem sy_if_eq {off : Int} {tgt : Nat} {x : Int32} (hd : decode (mcc id) pc = .ok (.ifCond .eq off, 3)) (ht : (pc : Int) + off = (tgt : Int)) (k : (x = 0 → Sy l id lim tgt ls st h P) ∧ (¬ x = 0 → Sy l id lim (pc + 3) ls st h P)) : Sy l id lim pc ls (.int x :: st) h P := by
  intro p e R s m args below meth c Qm A D ro G0 n0 sz0 C hA hR hS hret G H locs lsr cells slots hE hG hV hL hc hs
  exact lv_if_eq C.1 C.2.1 hd ht (fun z => k.1 z _ _ _ _ _ _ _ _ _ _ _ _ _ _ _ _ C hA hR hS hret _ _ _ _ _ _ hE hG hV hL hc hs) (fun z => k.2 z _ _ _ _ _ _ _ _ _ _ _ _ _ _ _ _ C hA hR hS hret _ _ _ _ _ _ hE hG hV hL hc hs)
theorem sy_icmp_eq {off : Int} {tgt : Nat} {x y : Int32} (hd : decode (mcc id) pc = .ok (.if_icmp .eq off, 3)) (ht : (pc : Int) + off = (tgt : Int)) (k : (x = y → Sy l id lim tgt ls st h P) ∧ (¬ x = y → Sy l id lim (pc + 3) ls st h P)) : Sy l id lim pc ls (.int y :: .int x :: st) h P := by
  intro p e R s m args below meth c Qm A D ro G0 n0 sz0 C hA hR hS hret G H locs lsr cells slots hE hG hV hL hc hs
  exact lv_icmp_eq C.1 C.2.1 hd ht (fun z => k.1 z _ _ _ _ _ _ _ _ _ _ _ _ _ _ _ _ C hA hR hS hret _ _ _ _ _ _ hE hG hV hL hc hs) (fun z => k.2 z _ _ _ _ _ _ _ _ _ _ _ _ _ _ _ _ C hA hR hS hret _ _ _ _ _ _ hE hG hV hL hc hs)
theorem sy_if_ne {off : Int} {tgt : Nat} {x : Int32} (hd : decode (mcc id) pc = .ok (.ifCond .ne off, 3)) (ht : (pc : Int) + off = (tgt : Int)) (k : (¬ x = 0 → Sy l id lim tgt ls st h P) ∧ (x = 0 → Sy l id lim (pc + 3) ls st h P)) : Sy l id lim pc ls (.int x :: st) h P := by
  intro p e R s m args below meth c Qm A D ro G0 n0 sz0 C hA hR hS hret G H locs lsr cells slots hE hG hV hL hc hs
  exact lv_if_ne C.1 C.2.1 hd ht (fun z => k.1 z _ _ _ _ _ _ _ _ _ _ _ _ _ _ _ _ C hA hR hS hret _ _ _ _ _ _ hE hG hV hL hc hs) (fun z => k.2 z _ _ _ _ _ _ _ _ _ _ _ _ _ _ _ _ C hA hR hS hret _ _ _ _ _ _ hE hG hV hL hc hs)
theorem sy_icmp_ne {off : Int} {tgt : Nat} {x y : Int32} (hd : decode (mcc id) pc = .ok (.if_icmp .ne off, 3)) (ht : (pc : Int) + off = (tgt : Int)) (k : (¬ x = y → Sy l id lim tgt ls st h P) ∧ (x = y → Sy l id lim (pc + 3) ls st h P)) : Sy l id lim pc ls (.int y :: .int x :: st) h P := by
  intro p e R s m args below meth c Qm A D ro G0 n0 sz0 C hA hR hS hret G H locs lsr cells slots hE hG hV hL hc hs
  exact lv_icmp_ne C.1 C.2.1 hd ht (fun z => k.1 z _ _ _ _ _ _ _ _ _ _ _ _ _ _ _ _ C hA hR hS hret _ _ _ _ _ _ hE hG hV hL hc hs) (fun z => k.2 z _ _ _ _ _ _ _ _ _ _ _ _ _ _ _ _ C hA hR hS hret _ _ _ _ _ _ hE hG hV hL hc hs)
theorem sy_if_lt {off : Int} {tgt : Nat} {x : Int32} (hd : decode (mcc id) pc = .ok (.ifCond .lt off, 3)) (ht : (pc : Int) + off = (tgt : Int)) (k : (x < 0 → Sy l id lim tgt ls st h P) ∧ (¬ x < 0 → Sy l id lim (pc + 3) ls st h P)) : Sy l id lim pc ls (.int x :: st) h P := by
  intro p e R s m args below meth c Qm A D ro G0 n0 sz0 C hA hR hS hret G H locs lsr cells slots hE hG hV hL hc hs
  exact lv_if_lt C.1 C.2.1 hd ht (fun z => k.1 z _ _ _ _ _ _ _ _ _ _ _ _ _ _ _ _ C hA hR hS hret _ _ _ _ _ _ hE hG hV hL hc hs) (fun z => k.2 z _ _ _ _ _ _ _ _ _ _ _ _ _ _ _ _ C hA hR hS hret _ _ _ _ _ _ hE hG hV hL hc hs)
theorem sy_icmp_lt {off : Int} {tgt : Nat} {x y : Int32} (hd : decode (mcc id) pc = .ok (.if_icmp .lt off, 3)) (ht : (pc : Int) + off = (tgt : Int)) (k : (x < y → Sy l id lim tgt ls st h P) ∧ (¬ x < y → Sy l id lim (pc + 3) ls st h P)) : Sy l id lim pc ls (.int y :: .int x :: st) h P := by
  intro p e R s m args below meth c Qm A D ro G0 n0 sz0 C hA hR hS hret G H locs lsr cells slots hE hG hV hL hc hs
  exact lv_icmp_lt C.1 C.2.1 hd ht (fun z => k.1 z _ _ _ _ _ _ _ _ _ _ _ _ _ _ _ _ C hA hR hS hret _ _ _ _ _ _ hE hG hV hL hc hs) (fun z => k.2 z _ _ _ _ _ _ _ _ _ _ _ _ _ _ _ _ C hA hR hS hret _ _ _ _ _ _ hE hG hV hL hc hs)
theorem sy_if_ge {off : Int} {tgt : Nat} {x : Int32} (hd : decode (mcc id) pc = .ok (.ifCond .ge off, 3)) (ht : (pc : Int) + off = (tgt : Int)) (k : (0 ≤ x → Sy l id lim tgt ls st h P) ∧ (¬ 0 ≤ x → Sy l id lim (pc + 3) ls st h P)) : Sy l id lim pc ls (.int x :: st) h P := by
  intro p e R s m args below meth c Qm A D ro G0 n0 sz0 C hA hR hS hret G H locs lsr cells slots hE hG hV hL hc hs
  exact lv_if_ge C.1 C.2.1 hd ht (fun z => k.1 z _ _ _ _ _ _ _ _ _ _ _ _ _ _ _ _ C hA hR hS hret _ _ _ _ _ _ hE hG hV hL hc hs) (fun z => k.2 z _ _ _ _ _ _ _ _ _ _ _ _ _ _ _ _ C hA hR hS hret _ _ _ _ _ _ hE hG hV hL hc hs)
theorem sy_icmp_ge {off : Int} {tgt : Nat} {x y : Int32} (hd : decode (mcc id) pc = .ok (.if_icmp .ge off, 3)) (ht : (pc : Int) + off = (tgt : Int)) (k : (y ≤ x → Sy l id lim tgt ls st h P) ∧ (¬ y ≤ x → Sy l id lim (pc + 3) ls st h P)) : Sy l id lim pc ls (.int y :: .int x :: st) h P := by
  intro p e R s m args below meth c Qm A D ro G0 n0 sz0 C hA hR hS hret G H locs lsr cells slots hE hG hV hL hc hs
  exact lv_icmp_ge C.1 C.2.1 hd ht (fun z => k.1 z _ _ _ _ _ _ _ _ _ _ _ _ _ _ _ _ C hA hR hS hret _ _ _ _ _ _ hE hG hV hL hc hs) (fun z => k.2 z _ _ _ _ _ _ _ _ _ _ _ _ _ _ _ _ C hA hR hS hret _ _ _ _ _ _ hE hG hV hL hc hs)
theorem sy_if_gt {off : Int} {tgt : Nat} {x : Int32} (hd : decode (mcc id) pc = .ok (.ifCond .gt off, 3)) (ht : (pc : Int) + off = (tgt : Int)) (k : (0 < x → Sy l id lim tgt ls st h P) ∧ (¬ 0 < x → Sy l id lim (pc + 3) ls st h P)) : Sy l id lim pc ls (.int x :: st) h P := by
  intro p e R s m args below meth c Qm A D ro G0 n0 sz0 C hA hR hS hret G H locs lsr cells slots hE hG hV hL hc hs
  exact lv_if_gt C.1 C.2.1 hd ht (fun z => k.1 z _ _ _ _ _ _ _ _ _ _ _ _ _ _ _ _ C hA hR hS hret _ _ _ _ _ _ hE hG hV hL hc hs) (fun z => k.2 z _ _ _ _ _ _ _ _ _ _ _ _ _ _ _ _ C hA hR hS hret _ _ _ _ _ _ hE hG hV hL hc hs)
theorem sy_icmp_gt {off : Int} {tgt : Nat} {x y : Int32} (hd : decode (mcc id) pc = .ok (.if_icmp .gt off, 3)) (ht : (pc : Int) + off = (tgt : Int)) (k : (y < x → Sy l id lim tgt ls st h P) ∧ (¬ y < x → Sy l id lim (pc + 3) ls st h P)) : Sy l id lim pc ls (.int y :: .int x :: st) h P := by
  intro p e R s m args below meth c Qm A D ro G0 n0 sz0 C hA hR hS hret G H locs lsr cells slots hE hG hV hL hc hs
  exact lv_icmp_gt C.1 C.2.1 hd ht (fun z => k.1 z _ _ _ _ _ _ _ _ _ _ _ _ _ _ _ _ C hA hR hS hret _ _ _ _ _ _ hE hG hV hL hc hs) (fun z => k.2 z _ _ _ _ _ _ _ _ _ _ _ _ _ _ _ _ C hA hR hS hret _ _ _ _ _ _ hE hG hV hL hc hs)
theorem sy_if_le {off : Int} {tgt : Nat} {x : Int32} (hd : decode (mcc id) pc = .ok (.ifCond .le off, 3)) (ht : (pc : Int) + off = (tgt : Int)) (k : (x ≤ 0 → Sy l id lim tgt ls st h P) ∧ (¬ x ≤ 0 → Sy l id lim (pc + 3) ls st h P)) : Sy l id lim pc ls (.int x :: st) h P := by
  intro p e R s m args below meth c Qm A D ro G0 n0 sz0 C hA hR hS hret G H locs lsr cells slots hE hG hV hL hc hs
  exact lv_if_le C.1 C.2.1 hd ht (fun z => k.1 z _ _ _ _ _ _ _ _ _ _ _ _ _ _ _ _ C hA hR hS hret _ _ _ _ _ _ hE hG hV hL hc hs) (fun z => k.2 z _ _ _ _ _ _ _ _ _ _ _ _ _ _ _ _ C hA hR hS hret _ _ _ _ _ _ hE hG hV hL hc hs)
theorem sy_icmp_le {off : Int} {tgt : Nat} {x y : Int32} (hd : decode (mcc id) pc = .ok (.if_icmp .le off, 3)) (ht : (pc : Int) + off = (tgt : Int)) (k : (x ≤ y → Sy l id lim tgt ls st h P) ∧ (¬ x ≤ y → Sy l id lim (pc + 3) ls st h P)) : Sy l id lim pc ls (.int y :: .int x :: st) h P := by
  intro p e R s m args below meth c Qm A D ro G0 n0 sz0 C hA hR hS hret G H locs lsr cells slots hE hG hV hL hc hs
  exact lv_icmp_le C.1 C.2.1 hd ht (fun z => k.1 z _ _ _ _ _ _ _ _ _ _ _ _ _ _ _ _ C hA hR hS hret _ _ _ _ _ _ hE hG hV hL hc hs) (fun z => k.2 z _ _ _ _ _ _ _ _ _ _ _ _ _ _ _ _ C hA hR hS hret _ _ _ _ _ _ hE hG hV hL hc hs)
theorem sy_ifnull {off : Int} {tgt : Nat} {r : Option Nat} (hd : decode (mcc id) pc = .ok (.ifnull off, 3)) (ht : (pc : Int) + off = (tgt : Int)) (k : (r = none → Sy l id lim tgt ls st h P) ∧ (¬ r = none → Sy l id lim (pc + 3) ls st h P)) : Sy l id lim pc ls (rvl r :: st) h P := by
  intro p e R s m args below meth c Qm A D ro G0 n0 sz0 C hA hR hS hret G H locs lsr cells slots hE hG hV hL hc hs
  cases r with
  | none => exact lv_ifnullN C.1 C.2.1 hd ht (k.1 rfl _ _ _ _ _ _ _ _ _ _ _ _ _ _ _ _ C hA hR hS hret _ _ _ _ _ _ hE hG hV hL hc hs)
  | some r => exact lv_ifnull C.1 C.2.1 hd (k.2 (by simp) _ _ _ _ _ _ _ _ _ _ _ _ _ _ _ _ C hA hR hS hret _ _ _ _ _ _ hE hG hV hL hc hs)
theorem sy_ifnonnull {off : Int} {tgt : Nat} {r : Option Nat} (hd : decode (mcc id) pc = .ok (.ifnonnull off, 3)) (ht : (pc : Int) + off = (tgt : Int)) (k : (¬ r = none → Sy l id lim tgt ls st h P) ∧ (r = none → Sy l id lim (pc + 3) ls st h P)) : Sy l id lim pc ls (rvl r :: st) h P := by
  intro p e R s m args below meth c Qm A D ro G0 n0 sz0 C hA hR hS hret G H locs lsr cells slots hE hG hV hL hc hs
  cases r with
  | none => exact lv_ifnonnullN C.1 C.2.1 hd (k.2 rfl _ _ _ _ _ _ _ _ _ _ _ _ _ _ _ _ C hA hR hS hret _ _ _ _ _ _ hE hG hV hL hc hs)
  | some r => exact lv_ifnonnull C.1 C.2.1 hd ht (k.1 (by simp) _ _ _ _ _ _ _ _ _ _ _ _ _ _ _ _ C hA hR hS hret _ _ _ _ _ _ hE hG hV hL hc hs)
theorem vW_inj {D : va_G} {G : GH} {ro : ROA} {A : Nat → Prop} {U : State} {H : Heap} (hE : EmbW D G ro A h U H) {x y : Nat} (hx : x < h.1.1) (hy : y < h.1.1) (e : G.1 x = G.1 y) : x = y := hE.2.1.1 x y _ _ (vW_get G h hx) (vW_get G h hy) e
theorem sy_acmpne {off : Int} {tgt : Nat} {x y : Option Nat} (hd : decode (mcc id) pc = .ok (.if_acmp .ne off, 3)) (ht : (pc : Int) + off = (tgt : Int)) (hx : ∀ z, x = some z → z < h.1.1) (hy : ∀ z, y = some z → z < h.1.1) (k : (¬ x = y → Sy l id lim tgt ls st h P) ∧ (x = y → Sy l id lim (pc + 3) ls st h P)) : Sy l id lim pc ls (rvl y :: rvl x :: st) h P := by
  intro p e R s m args below meth c Qm A D ro G0 n0 sz0 C hA hR hS hret G H locs lsr cells slots hE hG hV hL hc hs
  show W p l e R s m args below meth c H locs cells slots Qm (F0 m pc lsr (eV G (rvl y) :: eV G (rvl x) :: st.map (eV G)))
  rw [eV_rvl, eV_rvl]
  have hinj : x.map G.1 = y.map G.1 → x = y := by
    intro z
    cases x with
    | none => cases y with
      | none => rfl
      | some y => cases z
    | some x => cases y with
      | none => cases z
      | some y => exact congrArg some (vW_inj hE (hx _ rfl) (hy _ rfl) (Option.some.inj z))
  refine lv_acmp_ne C.1 C.2.1 hd ht (fun z => k.1 (fun q => z (by rw [q])) _ _ _ _ _ _ _ _ _ _ _ _ _ _ _ _ C hA hR hS hret _ _ _ _ _ _ hE hG hV hL hc hs) (fun z => k.2 (hinj ?_) _ _ _ _ _ _ _ _ _ _ _ _ _ _ _ _ C hA hR hS hret _ _ _ _ _ _ hE hG hV hL hc hs)
  first | exact z | exact Decidable.not_not.mp z
theorem sy_lookup {dflt : Int} {ps : Array (Int × Int)} {len : Nat} {x : Int32} (hd : decode (mcc id) pc = .ok (.lookupswitch dflt ps, len)) (hp : (ps.toList.zip (ps.toList.drop 1)).all (fun (a, next) => a.1 < next.1) = true) (k : ∃ tgt : Nat, (pc : Int) + Op.lookupswitch.offset ps.toList dflt x.toInt = (tgt : Int) ∧ Sy l id lim tgt ls st h P) : Sy l id lim pc ls (.int x :: st) h P := by
  intro p e R s m args below meth c Qm A D ro G0 n0 sz0 C hA hR hS hret G H locs lsr cells slots hE hG hV hL hc hs
  obtain ⟨tgt, ht, k⟩ := k
  exact lv_lookup C.1 C.2.1 hd hp rfl ht (k _ _ _ _ _ _ _ _ _ _ _ _ _ _ _ _ C hA hR hS hret _ _ _ _ _ _ hE hG hV hL hc hs)
theorem sy_tableOut {dflt lo hi : Int} {offs : Array Int} {len : Nat} {x : Int32} {tgt : Nat} (hd : decode (mcc id) pc = .ok (.tableswitch dflt lo hi offs, len)) (hx : x.toInt < lo ∨ hi < x.toInt) (ht : (pc : Int) + dflt = (tgt : Int)) (k : Sy l id lim tgt ls st h P) : Sy l id lim pc ls (.int x :: st) h P := by
  intro p e R s m args below meth c Qm A D ro G0 n0 sz0 C hA hR hS hret G H locs lsr cells slots hE hG hV hL hc hs
  exact lv_tableOut C.1 C.2.1 hd hx ht (k _ _ _ _ _ _ _ _ _ _ _ _ _ _ _ _ C hA hR hS hret _ _ _ _ _ _ hE hG hV hL hc hs)
theorem sy_tableIn {dflt lo hi : Int} {offs : Array Int} {len : Nat} {x : Int32} {off : Int} {tgt : Nat} (hd : decode (mcc id) pc = .ok (.tableswitch dflt lo hi offs, len)) (h1 : ¬ x.toInt < lo) (h2 : ¬ hi < x.toInt) (ho : offs[(x.toInt - lo).toNat]? = some off) (ht : (pc : Int) + off = (tgt : Int)) (k : Sy l id lim tgt ls st h P) : Sy l id lim pc ls (.int x :: st) h P := by
  intro p e R s m args below meth c Qm A D ro G0 n0 sz0 C hA hR hS hret G H locs lsr cells slots hE hG hV hL hc hs
  exact lv_tableIn C.1 C.2.1 hd h1 h2 ho ht (k _ _ _ _ _ _ _ _ _ _ _ _ _ _ _ _ C hA hR hS hret _ _ _ _ _ _ hE hG hV hL hc hs)
end SYS
end
section
/-! the bridge, on: fields, arrays, objects -/
def uR {α : Type} (f : Nat → Nat → α) (p : Nat) (g : Nat → α) : Nat → Nat → α := fun q => if q = p then g else f q
theorem uR_s {α : Type} (f : Nat → Nat → α) (p : Nat) (g : Nat → α) : uR f p g p = g := by simp [uR]
theorem uR_n {α : Type} (f : Nat → Nat → α) {p q : Nat} (g : Nat → α) (h : q ≠ p) : uR f p g q = f q := by simp [uR, h]
theorem uR_uR {α : Type} (f : Nat → Nat → α) (p : Nat) (g g' : Nat → α) : uR (uR f p g) p g' = uR f p g' := by
  funext q
  by_cases hq : q = p <;> simp [uR, hq]
theorem vF_list_set {N a : Nat} (f : Nat → Value) (v : Value) : ((List.range N).map f).set a v = (List.range N).map (fun j => if j = a then v else f j) := by
  apply List.ext_getElem?
  intro k
  rw [List.getElem?_set]
  by_cases hk : a = k
  · subst hk
    by_cases hl : a < N
    · simp [hl]
    · simp [hl]
  · rw [if_neg hk]
    by_cases hl : k < N
    · simp [hl, Ne.symm hk]
    · simp [hl]
theorem vE_obj (G : GH) (h : PH) {p : Nat} {b : Nat} (hk : h.1.2.2.1 p = b) (hb : b < 7) : vE G h p = .inr (b, (List.range (nFl b)).map (vF G h p)) := by
  subst hk
  simp [vE, hb]
theorem vE_num (G : GH) (h : PH) {p : Nat} (hk : h.1.2.2.1 p = 7 ∨ h.1.2.2.1 p = 8) : vE G h p = .inl (G.2.1 p, (h.1.2.2.2 p, .inl (h.2.1 p))) := by
  unfold vE
  rw [if_neg (by omega), if_pos (by omega)]
theorem vE_ref (G : GH) (h : PH) {p : Nat} (hk : h.1.2.2.1 p = 9 ∨ h.1.2.2.1 p = 10) : vE G h p = .inl (G.2.1 p, (h.1.2.2.2 p, .inr (.inr (.inr (.inr (fun j => (h.2.2 p j).map G.1)))))) := by
  unfold vE
  rw [if_neg (by omega), if_neg (by omega)]
theorem vE_row (G : GH) (h : PH) {p : Nat} (hk : h.1.2.2.1 p = 7 ∨ h.1.2.2.1 p = 8) (f : Nat → Int32) : vE G (h.1, uR h.2.1 p f, h.2.2) p = .inl (G.2.1 p, (h.1.2.2.2 p, .inl f)) := by
  have e := vE_num G (h.1, uR h.2.1 p f, h.2.2) (p := p) hk
  rw [e]
  simp only [uR_s]
theorem vE_rowq (G : GH) (h : PH) {p : Nat} (hk : h.1.2.2.1 p = 9 ∨ h.1.2.2.1 p = 10) (f : Nat → Option Nat) : vE G (h.1, h.2.1, uR h.2.2 p f) p = .inl (G.2.1 p, (h.1.2.2.2 p, .inr (.inr (.inr (.inr (fun j => (f j).map G.1)))))) := by
  have e := vE_ref G (h.1, h.2.1, uR h.2.2 p f) (p := p) hk
  rw [e]
  simp only [uR_s]
theorem vE_same (G : GH) {h h' : PH} (h1 : h'.1 = h.1) {q : Nat} (hI : h'.2.1 q = h.2.1 q) (hQ : h'.2.2 q = h.2.2 q) : vE G h' q = vE G h q := by
  have e : vF G h' q = vF G h q := by funext j; simp only [vF, h1, hI, hQ]
  simp only [vE, h1, hI, hQ, e]
theorem cT_own : ∀ b, b < 7 → ∀ a, a < nFl b → (cT b a).1 = cNm b := by decide +kernel
section SYH
variable {l : Launch} {id : Nat} {lim : Nat × Nat} {pc : Nat} {ls : List (Option Value)} {st : List Value} {h : PH} {P : Option Value → PH → Prop}
theorem EmbW.upd {D : va_G} {G : GH} {ro : ROA} {A : Nat → Prop} {h' : PH} {U : State} {H H1 : Heap} {p : Nat} {E : va_E} (hE : EmbW D G ro A h U H) (hp : p < h.1.1) (h1 : h'.1 = h.1) (hI : ∀ q, q ≠ p → h'.2.1 q = h.2.1 q) (hQ : ∀ q, q ≠ p → h'.2.2 q = h.2.2 q) (hEe : E = vE G h' p) (hP : va_P D vwCl ((vW G h).set p (G.1 p, E)) H1) (hD : va_D A ((vW G h).set p (G.1 p, E))) : EmbW D G ro A h' U H1 := by
  obtain ⟨a1, a2, a3, a4, a5, a6, a7⟩ := hE
  have e := vW_set G h h' hp h1 (fun q hq => vE_same G h1 (hI q hq) (hQ q hq)) hEe
  rw [e] at hP hD
  refine ⟨hP, hD, a3, ?_, ?_, a6, ?_⟩
  · rw [h1]; exact a4
  · rw [h1]; exact a5
  · intro q hq
    rw [h1, hI q (by omega)]
    exact a7 q hq
theorem sy_get {idx a b p : Nat} (hd : decode (mcc id) pc = .ok (.getfield idx, 3)) (hb : b < 7) (ha : a < nFl b) (hw : Cond.fieldLink (mown id) idx (cNm b) (cT b a).2.1 (cT b a).2.2.1 ∈ allW) (hp : p < h.1.1) (hk : h.1.2.2.1 p = b) (k : Sy l id lim (pc + 3) ls ((if isRf b a = true then rvl (h.2.2 p a) else .int (h.2.1 p a)) :: st) h P) : Sy l id lim pc ls (.ref p :: st) h P := by
  intro pr e R s m args below meth c Qm A D ro G0 n0 sz0 C hA hR hS hret G H locs lsr cells slots hE hG hV hL hc hs
  have k' := k _ _ _ _ _ _ _ _ _ _ _ _ _ _ _ _ C hA hR hS hret _ _ _ _ _ _ hE hG hV hL hc hs
  have he : (vW G h)[p]? = some (G.1 p, .inr (b, (List.range (nFl b)).map (vF G h p))) := by rw [vW_get G h hp, vE_obj G h hk hb]
  have hv : ((List.range (nFl b)).map (vF G h p))[a]? = some (eV G (if isRf b a = true then rvl (h.2.2 p a) else .int (h.2.1 p a))) := by
    rw [List.getElem?_map, List.getElem?_range ha]
    show some (vF G h p a) = _
    congr 1
    unfold vF
    rw [hk]
    split
    · exact (eV_rvl G _).symm
    · rfl
  exact va_get (C := cNm b) (T := cT b) (N := nFl b) C.1 C.2.1 C.2.2.2.2.1 (inW hb) C.2.2.2.1 hE.2.2.1 hE.1 p he (cl_at hb) a ha (by first | exact C.2.2.2.2.1 _ hw) (fun x hx => by rw [cT_own b hb a ha] at hx; exact hx) hv hd k'
/-- what a field of this type holds of a value -/
def putOK (ty : FieldType) (v : Value) : Prop := match ty with
  | .int => ∃ x, v = .int x
  | .boolean => v = .int 0 ∨ v = .int 1
  | .object _ => ∃ r, v = rvl r
  | .array _ => ∃ r, v = rvl r
  | _ => False
def put (h : PH) (p a : Nat) (v : Value) : PH := match v with
  | .int x => (h.1, uR h.2.1 p (upd (h.2.1 p) a x), h.2.2)
  | .ref q => (h.1, h.2.1, uR h.2.2 p (va_up (h.2.2 p) a (some q)))
  | _ => (h.1, h.2.1, uR h.2.2 p (va_up (h.2.2 p) a none))
theorem put_1 (h : PH) (p a : Nat) (v : Value) : (put h p a v).1 = h.1 := by cases v <;> rfl
theorem put_I (h : PH) (p a : Nat) (v : Value) (q : Nat) (hq : q ≠ p) : (put h p a v).2.1 q = h.2.1 q := by cases v <;> first | rfl | exact uR_n _ _ hq
theorem put_Q (h : PH) (p a : Nat) (v : Value) (q : Nat) (hq : q ≠ p) : (put h p a v).2.2 q = h.2.2 q := by cases v <;> first | rfl | exact uR_n _ _ hq
theorem put_F (G : GH) (h : PH) {p a b : Nat} {v : Value} (hk : h.1.2.2.1 p = b) (hv : putOK (cTy b a) v) (j : Nat) : vF G (put h p a v) p j = if j = a then eV G v else vF G h p j := by
  unfold vF
  rw [put_1, hk]
  by_cases hj : j = a
  · subst hj
    rw [if_pos rfl]
    unfold putOK at hv
    unfold isRf
    split at hv
    · next e => obtain ⟨x, rfl⟩ := hv; simp [e, put, uR, upd, eV]
    · next e => rcases hv with rfl | rfl <;> simp [e, put, uR, upd, eV]
    · next e => obtain ⟨r, rfl⟩ := hv; cases r <;> simp [e, put, uR, va_up, eV, rvl, va_rf]
    · next e => obtain ⟨r, rfl⟩ := hv; cases r <;> simp [e, put, uR, va_up, eV, rvl, va_rf]
    · exact hv.elim
  · rw [if_neg hj]
    have e1 : (put h p a v).2.1 p j = h.2.1 p j := by cases v <;> simp [put, uR, upd, hj]
    have e2 : (put h p a v).2.2 p j = h.2.2 p j := by cases v <;> simp [put, uR, va_up, hj]
    rw [e1, e2]
theorem sy_put {idx a b p : Nat} {v : Value} {fin : Bool} (hd : decode (mcc id) pc = .ok (.putfield idx, 3)) (hb : b < 7) (ha : a < nFl b) (hw : Cond.fieldLink (mown id) idx (cNm b) (cT b a).2.1 (cT b a).2.2.1 ∈ allW) (hfin : (cT b a).2.2.2 = fin) (hf2 : fin = true → mini id = true ∧ cNm b = mown id) (hp : p < h.1.1) (hk : h.1.2.2.1 p = b) (hv : putOK (cTy b a) v) (k : Sy l id lim (pc + 3) ls st (put h p a v) P) : Sy l id lim pc ls (v :: .ref p :: st) h P := by
  intro pr e R s m args below meth c Qm A D ro G0 n0 sz0 C hA hR hS hret G H locs lsr cells slots hE hG hV hL hc hs
  have he : (vW G h)[p]? = some (G.1 p, .inr (b, (List.range (nFl b)).map (vF G h p))) := by rw [vW_get G h hp, vE_obj G h hk hb]
  have hN : ((List.range (nFl b)).map (vF G h p)).length = nFl b := by simp
  have hset : ((Sum.inr (b, ((List.range (nFl b)).map (vF G h p)).set a (eV G v)) : va_E)) = vE G (put h p a v) p := by
    rw [vE_obj G (put h p a v) (by rw [put_1]; exact hk) hb, vF_list_set]
    congr 2
    apply List.map_congr_left
    intro j _
    rw [put_F G h hk hv]
  have hn : narrow (cTy b a) (eV G v) = eV G v ∧ fits (cTy b a) (eV G v) = true := by
    unfold putOK at hv
    split at hv
    · next e => obtain ⟨x, rfl⟩ := hv; rw [e]; exact ⟨rfl, rfl⟩
    · next e => rw [e]; rcases hv with rfl | rfl <;> first | exact show narrow .boolean (.int 0) = .int 0 ∧ fits .boolean (.int 0) = true from ⟨by decide, by decide⟩ | exact show narrow .boolean (.int 1) = .int 1 ∧ fits .boolean (.int 1) = true from ⟨by decide, by decide⟩
    · next e => obtain ⟨r, rfl⟩ := hv; rw [e]; cases r <;> exact ⟨rfl, rfl⟩
    · next e => obtain ⟨r, rfl⟩ := hv; rw [e]; cases r <;> exact ⟨rfl, rfl⟩
    · exact hv.elim
  have kk : ∀ (H1 : Heap) (locs1 : List Loc), va_P D vwCl ((vW G h).set p (G.1 p, .inr (b, ((List.range (nFl b)).map (vF G h p)).set a (eV G v)))) H1 → va_D A ((vW G h).set p (G.1 p, .inr (b, ((List.range (nFl b)).map (vF G h p)).set a (eV G v)))) → va_S A s.heap H1 locs1 → W pr l e R s m args below meth c H1 locs1 cells slots Qm (F0 m (pc + 3) lsr (st.map (eV G))) := fun H1 locs1 hP1 hD1 hS1 =>
    k _ _ _ _ _ _ _ _ _ _ _ _ _ _ _ _ C hA hR hS hret _ _ _ _ _ _ (hE.upd hp (put_1 h p a v) (put_I h p a v) (put_Q h p a v) hset hP1 hD1) hG hS1 hL (by rw [put_1]; exact hc) (by rw [put_1]; exact hs)
  cases fin with
  | false => exact va_put (C := cNm b) (T := cT b) (N := nFl b) C.1 C.2.1 C.2.2.2.2.1 (inW hb) (cTy b) (cTy_ok hb) (cNmx hb) C.2.2.2.1 hE.2.2.1 hE.1 hE.2.1 hV p he (cl_at hb) a ha (C.2.2.2.2.1 _ hw) (fun x hx => by rw [cT_own b hb a ha] at hx; exact hx) hfin (cTy_ok hb a ha) hn.1 hn.2 (by rw [hN]; exact ha) hd kk
  | true =>
    obtain ⟨g1, g2⟩ := hf2 rfl
    exact va_putF (C := cNm b) (T := cT b) (N := nFl b) C.1 C.2.1 C.2.2.2.2.1 (inW hb) (cTy b) (cTy_ok hb) (cNmx hb) C.2.2.2.1 hE.2.2.1 hE.1 hE.2.1 hV p he (cl_at hb) a ha (C.2.2.2.2.1 _ hw) (fun x hx => by rw [cT_own b hb a ha] at hx; exact hx) hfin (C.2.2.2.2.2 g1) (by rw [cT_own b hb a ha]; exact g2) (cTy_ok hb a ha) hn.1 hn.2 (by rw [hN]; exact ha) hd kk
theorem sy_iald {p : Nat} {i : Int32} (hd : decode (mcc id) pc = .ok (.iaload, 1)) (hp : p < h.1.1 ∧ h.1.2.2.1 p = 7 ∨ 1000 ≤ p ∧ h.1.2.2.1 p = 11) (hi : vp_in i (h.1.2.2.2 p)) (k : Sy l id lim (pc + 1) ls (.int (h.2.1 p i.toNatClampNeg) :: st) h P) : Sy l id lim pc ls (.int i :: .ref p :: st) h P := by
  intro pr e R s m args below meth c Qm A D ro G0 n0 sz0 C hA hR hS hret G H locs lsr cells slots hE hG hV hL hc hs
  have k' := k _ _ _ _ _ _ _ _ _ _ _ _ _ _ _ _ C hA hR hS hret _ _ _ _ _ _ hE hG hV hL hc hs
  rcases hp with ⟨hp, hk⟩ | ⟨hp, hk⟩
  · obtain ⟨t0, ht⟩ := hE.2.2.2.1 p .int hp (by rw [hk]; rfl)
    exact va_iald C.1 C.2.1 hE.2.2.1 hE.1 p t0 (by rw [vW_get G h hp, vE_num G h (Or.inl hk)]) ht hi hd k'
  · obtain ⟨e1, e2, e3⟩ := hE.2.2.2.2.2.2 p hp
    have hT := hS.1 p hp (by rw [← e1]; exact hk)
    rw [← hG.1 p (Or.inr hp), ← e2, ← e3] at hT
    exact va_ti C.1 C.2.1 hT hV hi rfl hd k'
theorem sy_cald {p : Nat} {i : Int32} (hd : decode (mcc id) pc = .ok (.caload, 1)) (hp : p < h.1.1) (hk : h.1.2.2.1 p = 8) (hi : vp_in i (h.1.2.2.2 p)) (k : Sy l id lim (pc + 1) ls (.int (h.2.1 p i.toNatClampNeg) :: st) h P) : Sy l id lim pc ls (.int i :: .ref p :: st) h P := by
  intro pr e R s m args below meth c Qm A D ro G0 n0 sz0 C hA hR hS hret G H locs lsr cells slots hE hG hV hL hc hs
  have k' := k _ _ _ _ _ _ _ _ _ _ _ _ _ _ _ _ C hA hR hS hret _ _ _ _ _ _ hE hG hV hL hc hs
  obtain ⟨t0, ht⟩ := hE.2.2.2.1 p .char hp (by rw [hk]; rfl)
  exact va_cald C.1 C.2.1 hE.2.2.1 hE.1 p t0 (by rw [vW_get G h hp, vE_num G h (Or.inr hk)]) ht hi hd k'
theorem sy_aald {p : Nat} {i : Int32} (hd : decode (mcc id) pc = .ok (.aaload, 1)) (hp : p < h.1.1) (hk : h.1.2.2.1 p = 9 ∨ h.1.2.2.1 p = 10) (hi : vp_in i (h.1.2.2.2 p)) (k : Sy l id lim (pc + 1) ls (rvl (h.2.2 p i.toNatClampNeg) :: st) h P) : Sy l id lim pc ls (.int i :: .ref p :: st) h P := by
  intro pr e R s m args below meth c Qm A D ro G0 n0 sz0 C hA hR hS hret G H locs lsr cells slots hE hG hV hL hc hs
  have k' := k _ _ _ _ _ _ _ _ _ _ _ _ _ _ _ _ C hA hR hS hret _ _ _ _ _ _ hE hG hV hL hc hs
  rw [List.map_cons, eV_rvl] at k'
  rcases hk with hk | hk
  · obtain ⟨t0, ht⟩ := hE.2.2.2.1 p (.object RX3) hp (by rw [hk]; rfl)
    exact va_aldq C.1 C.2.1 hE.2.2.1 hE.1 p t0 (by rw [vW_get G h hp, vE_ref G h (Or.inl hk)]) ht hi hd k'
  · obtain ⟨t0, ht⟩ := hE.2.2.2.1 p (.object RX4) hp (by rw [hk]; rfl)
    exact va_aldq C.1 C.2.1 hE.2.2.1 hE.1 p t0 (by rw [vW_get G h hp, vE_ref G h (Or.inr hk)]) ht hi hd k'
theorem sy_iast {p : Nat} {i x : Int32} (hd : decode (mcc id) pc = .ok (.iastore, 1)) (hp : p < h.1.1) (hk : h.1.2.2.1 p = 7) (hi : vp_in i (h.1.2.2.2 p)) (k : Sy l id lim (pc + 1) ls st (h.1, uR h.2.1 p (upd (h.2.1 p) i.toNatClampNeg x), h.2.2) P) : Sy l id lim pc ls (.int x :: .int i :: .ref p :: st) h P := by
  intro pr e R s m args below meth c Qm A D ro G0 n0 sz0 C hA hR hS hret G H locs lsr cells slots hE hG hV hL hc hs
  obtain ⟨t0, ht⟩ := hE.2.2.2.1 p .int hp (by rw [hk]; rfl)
  exact va_iast C.1 C.2.1 hE.2.2.1 hE.1 hE.2.1 hV p t0 (by rw [vW_get G h hp, vE_num G h (Or.inl hk)]) ht hi hd fun H1 locs1 hP1 hD1 hS1 =>
    k _ _ _ _ _ _ _ _ _ _ _ _ _ _ _ _ C hA hR hS hret _ _ _ _ _ _ (hE.upd (h' := (h.1, uR h.2.1 p (upd (h.2.1 p) i.toNatClampNeg x), h.2.2)) hp rfl (fun q hq => uR_n _ _ hq) (fun _ _ => rfl) (vE_row G h (Or.inl hk) _).symm hP1 hD1) hG hS1 hL hc hs
theorem sy_cast {p : Nat} {i x : Int32} (hd : decode (mcc id) pc = .ok (.castore, 1)) (hp : p < h.1.1) (hk : h.1.2.2.1 p = 8) (hi : vp_in i (h.1.2.2.2 p)) (k : Sy l id lim (pc + 1) ls st (h.1, uR h.2.1 p (upd (h.2.1 p) i.toNatClampNeg (vp_nar .char x)), h.2.2) P) : Sy l id lim pc ls (.int x :: .int i :: .ref p :: st) h P := by
  intro pr e R s m args below meth c Qm A D ro G0 n0 sz0 C hA hR hS hret G H locs lsr cells slots hE hG hV hL hc hs
  obtain ⟨t0, ht⟩ := hE.2.2.2.1 p .char hp (by rw [hk]; rfl)
  exact va_cast C.1 C.2.1 hE.2.2.1 hE.1 hE.2.1 hV p t0 (by rw [vW_get G h hp, vE_num G h (Or.inr hk)]) ht hi hd fun H1 locs1 hP1 hD1 hS1 =>
    k _ _ _ _ _ _ _ _ _ _ _ _ _ _ _ _ C hA hR hS hret _ _ _ _ _ _ (hE.upd (h' := (h.1, uR h.2.1 p (upd (h.2.1 p) i.toNatClampNeg (vp_nar .char x)), h.2.2)) hp rfl (fun q hq => uR_n _ _ hq) (fun _ _ => rfl) (vE_row G h (Or.inr hk) _).symm hP1 hD1) hG hS1 hL hc hs
theorem map_up (G : GH) (f : Nat → Option Nat) (i q : Nat) : (fun j => (va_up f i (some q) j).map G.1) = va_up (fun j => (f j).map G.1) i (some (G.1 q)) := by
  funext j
  by_cases hj : j = i <;> simp [va_up, hj]
theorem sy_aast {p q : Nat} {i : Int32} (hd : decode (mcc id) pc = .ok (.aastore, 1)) (hp : p < h.1.1) (hq : q < h.1.1) (hk : h.1.2.2.1 p = 9 ∧ h.1.2.2.1 q = 3 ∨ h.1.2.2.1 p = 10 ∧ h.1.2.2.1 q = 4) (hi : vp_in i (h.1.2.2.2 p)) (k : Sy l id lim (pc + 1) ls st (h.1, h.2.1, uR h.2.2 p (va_up (h.2.2 p) i.toNatClampNeg (some q))) P) : Sy l id lim pc ls (.ref q :: .int i :: .ref p :: st) h P := by
  intro pr e R s m args below meth c Qm A D ro G0 n0 sz0 C hA hR hS hret G H locs lsr cells slots hE hG hV hL hc hs
  have kk : (h.1.2.2.1 p = 9 ∨ h.1.2.2.1 p = 10) → ∀ (H1 : Heap) (locs1 : List Loc), va_P D vwCl ((vW G h).set p (G.1 p, .inl (G.2.1 p, h.1.2.2.2 p, .inr (.inr (.inr (.inr (va_up (fun j => (h.2.2 p j).map G.1) i.toNatClampNeg (some (G.1 q))))))))) H1 → va_D A ((vW G h).set p (G.1 p, .inl (G.2.1 p, h.1.2.2.2 p, .inr (.inr (.inr (.inr (va_up (fun j => (h.2.2 p j).map G.1) i.toNatClampNeg (some (G.1 q))))))))) → va_S A s.heap H1 locs1 → W pr l e R s m args below meth c H1 locs1 cells slots Qm (F0 m (pc + 1) lsr (st.map (eV G))) := fun hk H1 locs1 hP1 hD1 hS1 =>
    k _ _ _ _ _ _ _ _ _ _ _ _ _ _ _ _ C hA hR hS hret _ _ _ _ _ _ (hE.upd (h' := (h.1, h.2.1, uR h.2.2 p (va_up (h.2.2 p) i.toNatClampNeg (some q)))) hp rfl (fun _ _ => rfl) (fun q hq => uR_n _ _ hq) (by rw [vE_rowq G h hk, map_up]) hP1 hD1) hG hS1 hL hc hs
  rcases hk with ⟨hk, hk2⟩ | ⟨hk, hk2⟩
  · obtain ⟨t0, ht⟩ := hE.2.2.2.1 p (.object RX3) hp (by rw [hk]; rfl)
    exact va_astq C.1 C.2.1 hE.2.2.1 hE.1 hE.2.1 hV p t0 q 3 (r := (RX3, TX3, 12)) (by rw [vW_get G h hp, vE_ref G h (Or.inl hk)]) ht (by rw [vW_get G h hq, vE_obj G h hk2 (by decide)]) rfl hi hd (kk (Or.inl hk))
  · obtain ⟨t0, ht⟩ := hE.2.2.2.1 p (.object RX4) hp (by rw [hk]; rfl)
    exact va_astq C.1 C.2.1 hE.2.2.1 hE.1 hE.2.1 hV p t0 q 4 (r := (RX4, TX4, 12)) (by rw [vW_get G h hp, vE_ref G h (Or.inr hk)]) ht (by rw [vW_get G h hq, vE_obj G h hk2 (by decide)]) rfl hi hd (kk (Or.inr hk))
theorem sy_alen {p : Nat} (hd : decode (mcc id) pc = .ok (.arraylength, 1)) (hp : p < h.1.1 ∧ (h.1.2.2.1 p = 7 ∨ h.1.2.2.1 p = 8 ∨ h.1.2.2.1 p = 9 ∨ h.1.2.2.1 p = 10) ∨ 1000 ≤ p ∧ h.1.2.2.1 p = 11) (k : Sy l id lim (pc + 1) ls (.int (Int32.ofNat (h.1.2.2.2 p)) :: st) h P) : Sy l id lim pc ls (.ref p :: st) h P := by
  intro pr e R s m args below meth c Qm A D ro G0 n0 sz0 C hA hR hS hret G H locs lsr cells slots hE hG hV hL hc hs
  have k' := k _ _ _ _ _ _ _ _ _ _ _ _ _ _ _ _ C hA hR hS hret _ _ _ _ _ _ hE hG hV hL hc hs
  rcases hp with ⟨hp, hk | hk | hk | hk⟩ | ⟨hp, hk⟩
  · obtain ⟨t0, ht⟩ := hE.2.2.2.1 p .int hp (by rw [hk]; rfl)
    exact va_alen (x := (h.1.2.2.2 p, .inl (h.2.1 p))) C.1 C.2.1 hE.2.2.1 hE.1 p t0 (by rw [vW_get G h hp, vE_num G h (Or.inl hk)]) ht rfl hd k'
  · obtain ⟨t0, ht⟩ := hE.2.2.2.1 p .char hp (by rw [hk]; rfl)
    exact va_alen (x := (h.1.2.2.2 p, .inl (h.2.1 p))) C.1 C.2.1 hE.2.2.1 hE.1 p t0 (by rw [vW_get G h hp, vE_num G h (Or.inr hk)]) ht rfl hd k'
  · obtain ⟨t0, ht⟩ := hE.2.2.2.1 p (.object RX3) hp (by rw [hk]; rfl)
    exact va_alen (x := (h.1.2.2.2 p, .inr (.inr (.inr (.inr (fun j => (h.2.2 p j).map G.1)))))) C.1 C.2.1 hE.2.2.1 hE.1 p t0 (by rw [vW_get G h hp, vE_ref G h (Or.inl hk)]) ht rfl hd k'
  · obtain ⟨t0, ht⟩ := hE.2.2.2.1 p (.object RX4) hp (by rw [hk]; rfl)
    exact va_alen (x := (h.1.2.2.2 p, .inr (.inr (.inr (.inr (fun j => (h.2.2 p j).map G.1)))))) C.1 C.2.1 hE.2.2.1 hE.1 p t0 (by rw [vW_get G h hp, vE_ref G h (Or.inr hk)]) ht rfl hd k'
  · obtain ⟨e1, e2, e3⟩ := hE.2.2.2.2.2.2 p hp
    have hT := hS.1 p hp (by rw [← e1]; exact hk)
    rw [← hG.1 p (Or.inr hp), ← e2] at hT
    exact va_tlen C.1 C.2.1 hT hV rfl hd k'
theorem sy_gets {idx k0 : Nat} (hd : decode (mcc id) pc = .ok (.getstatic idx, 3)) (hk : k0 < 3) (hw : Cond.fieldLink (mown id) idx "TaxiRank$Town" (stN k0) "[I" ∈ allW) (k : Sy l id lim (pc + 3) ls (.ref (1000 + k0) :: st) h P) : Sy l id lim pc ls st h P := by
  intro pr e R s m args below meth c Qm A D ro G0 n0 sz0 C hA hR hS hret G H locs lsr cells slots hE hG hV hL hc hs
  have k' := k _ _ _ _ _ _ _ _ _ _ _ _ _ _ _ _ C hA hR hS hret _ _ _ _ _ _ hE hG hV hL hc hs
  have hZ := hS.2 k0 hk
  rw [← hG.1 (1000 + k0) (Or.inr (by omega))] at hZ
  exact va_gets C.1 C.2.1 hZ hV C.2.2.2.1 (C.2.2.2.2.1 _ hw) (fun _ hx => hx) hd k'
theorem sy_copy {idx p q : Nat} {sp dp n : Int32} (hd : decode (mcc id) pc = .ok (.invokestatic idx, 3)) (hw : Cond.methodLink (mown id) idx arraycopyName ∈ allW ∧ Cond.native arraycopyName ∈ allW ∧ Cond.static arraycopyName ∈ allW ∧ Cond.initialized "java/lang/System" ∈ allW) (hroom : 1 ≤ (mrm id).frames ∧ 26 ≤ (mrm id).locals) (hst : st.length ≤ 8) (hp : p < h.1.1) (hk : h.1.2.2.1 p = 7) (hq : q < h.1.1) (hk2 : h.1.2.2.1 q = 7) (h1 : ¬ sp < 0) (h2 : ¬ dp < 0) (h3 : ¬ n < 0) (h4 : sp.toNatClampNeg + n.toNatClampNeg ≤ h.1.2.2.2 q) (h5 : dp.toNatClampNeg + n.toNatClampNeg ≤ h.1.2.2.2 p) (k : Sy l id lim (pc + 3) ls st (h.1, uR h.2.1 p (va_cpy (h.2.1 q) (h.2.1 p) sp.toNatClampNeg dp.toNatClampNeg n.toNatClampNeg), h.2.2) P) : Sy l id lim pc ls (.int n :: .int dp :: .ref p :: .int sp :: .ref q :: st) h P := by
  intro pr e R s m args below meth c Qm A D ro G0 n0 sz0 C hA hR hS hret G H locs lsr cells slots hE hG hV hL hc hs
  obtain ⟨t0, ht⟩ := hE.2.2.2.1 p .int hp (by rw [hk]; rfl)
  obtain ⟨t1, ht1⟩ := hE.2.2.2.1 q .int hq (by rw [hk2]; rfl)
  have hcat : ∀ st : List Value, ((st.map (eV G)).map fun v => v.category).sum = st.length := by
    intro st
    induction st with
    | nil => rfl
    | cons v st ih => simp only [List.map_cons, List.sum_cons, List.length_cons, eV_cat, ih]; omega
  have e7 : nativeFrameWords "java/lang/System" "arraycopy" 5 = 7 := by decide
  have hloc : ((st.map (eV G)).map fun v => v.category).sum + (nativeFrameWords "java/lang/System" "arraycopy" 5 + 11) ≤ R.locals := by rw [hcat, e7]; have := hR.2.1; omega
  exact va_copyi C.1 C.2.1 (C.2.2.1.trans hL.2.1.symm) C.2.2.2.1 (C.2.2.2.2.1 _ hw.1) (C.2.2.2.2.1 _ hw.2.1) (C.2.2.2.2.1 _ hw.2.2.1) (C.2.2.2.2.1 _ hw.2.2.2) hE.2.2.1 hE.1 hE.2.1 hV q p t1 t0 (by rw [vW_get G h hq, vE_num G h (Or.inl hk2)]) (by rw [vW_get G h hp, vE_num G h (Or.inl hk)]) ht1 ht rfl h1 h2 h3 h4 h5 (fun _ _ => rfl) (by have := hR.1; omega) hloc hd fun H1 locs1 hP1 hD1 hS1 =>
    k _ _ _ _ _ _ _ _ _ _ _ _ _ _ _ _ C hA hR hS hret _ _ _ _ _ _ (hE.upd (h' := (h.1, uR h.2.1 p (va_cpy (h.2.1 q) (h.2.1 p) sp.toNatClampNeg dp.toNatClampNeg n.toNatClampNeg), h.2.2)) hp rfl (fun q hq => uR_n _ _ hq) (fun _ _ => rfl) (vE_row G h (Or.inl hk) _).symm hP1 hD1) hG hS1 hL hc hs
end SYH
end
section
/-! the bridge, on: new cells, calls, answers -/
def newH (h : PH) (kind slots len : Nat) : PH := ((h.1.1 + 1, h.1.2.1 + slots, va_up h.1.2.2.1 h.1.1 kind, va_up h.1.2.2.2 h.1.1 len), uR h.2.1 h.1.1 (fun _ => 0), uR h.2.2 h.1.1 (fun _ => none))
theorem cTy_def : ∀ b, b < 7 → ∀ j, j < nFl b → defaultValue (cTy b j) = (if isRf b j = true then Value.null else Value.int 0) := by
  intro b hb
  match b, hb with
  | 0, _ => intro j hj; match j, hj with
    | 0, _ => rfl
    | 1, _ => rfl
  | 1, _ => intro j hj; match j, hj with
    | 0, _ => rfl
    | 1, _ => rfl
    | 2, _ => rfl
    | 3, _ => rfl
    | 4, _ => rfl
    | 5, _ => rfl
    | 6, _ => rfl
  | 2, _ => intro j hj; match j, hj with
    | 0, _ => rfl
    | 1, _ => rfl
    | 2, _ => rfl
    | 3, _ => rfl
    | 4, _ => rfl
  | 3, _ => intro j hj; match j, hj with
    | 0, _ => rfl
    | 1, _ => rfl
    | 2, _ => rfl
    | 3, _ => rfl
    | 4, _ => rfl
    | 5, _ => rfl
    | 6, _ => rfl
    | 7, _ => rfl
    | 8, _ => rfl
    | 9, _ => rfl
    | 10, _ => rfl
    | 11, _ => rfl
  | 4, _ => intro j hj; match j, hj with
    | 0, _ => rfl
    | 1, _ => rfl
    | 2, _ => rfl
    | 3, _ => rfl
    | 4, _ => rfl
    | 5, _ => rfl
    | 6, _ => rfl
    | 7, _ => rfl
    | 8, _ => rfl
    | 9, _ => rfl
    | 10, _ => rfl
    | 11, _ => rfl
  | 5, _ => intro j hj; match j, hj with
    | 0, _ => rfl
    | 1, _ => rfl
    | 2, _ => rfl
    | 3, _ => rfl
    | 4, _ => rfl
    | 5, _ => rfl
    | 6, _ => rfl
    | 7, _ => rfl
    | 8, _ => rfl
    | 9, _ => rfl
  | 6, _ => intro j hj; match j, hj with
    | 0, _ => rfl
    | 1, _ => rfl
    | 2, _ => rfl
    | 3, _ => rfl
    | 4, _ => rfl
    | 5, _ => rfl
    | 6, _ => rfl
    | 7, _ => rfl
    | 8, _ => rfl
    | 9, _ => rfl
    | 10, _ => rfl
    | 11, _ => rfl
    | 12, _ => rfl
    | 13, _ => rfl
    | 14, _ => rfl
section SYN
variable {l : Launch} {id : Nat} {lim : Nat × Nat} {pc : Nat} {ls : List (Option Value)} {st : List Value} {h : PH} {P : Option Value → PH → Prop}
/-- the world with one cell more -/
theorem EmbW.push {D : va_G} {G : GH} {ro : ROA} {A : Nat → Prop} {U : State} {H H1 : Heap} {q : Nat} {cA : ClassId} {tys' : List (ClassId × FieldType)} {kind slots len : Nat} {E : va_E} (hE : EmbW D G ro A h U H) (h1000 : h.1.1 < 1000)
    (hEe : vE (va_up G.1 h.1.1 q, va_up G.2.1 h.1.1 cA, tys') (newH h kind slots len) h.1.1 = E) (hK : va_K D vwCl tys' U) (ht : ∀ (t0 : Nat) x, G.2.2[t0]? = some x → tys'[t0]? = some x) (hk : ∀ ty, arT kind = some ty → ∃ t0 : Nat, tys'[t0]? = some (cA, ty))
    (hwf : ∀ p j r, p < h.1.1 → h.2.2 p j = some r → r ≠ h.1.1) (hP : va_P D vwCl (vW G h ++ [(q, E)]) H1) (hD : va_D A (vW G h ++ [(q, E)])) : EmbW D (va_up G.1 h.1.1 q, va_up G.2.1 h.1.1 cA, tys') ro A (newH h kind slots len) U H1 := by
  obtain ⟨a1, a2, a3, a4, a5, a6, a7⟩ := hE
  have hs : ∀ p, p < h.1.1 → (va_up G.1 h.1.1 q p = G.1 p ∧ vE (va_up G.1 h.1.1 q, va_up G.2.1 h.1.1 cA, tys') (newH h kind slots len) p = vE G h p) := by
    intro p hp
    have hne : p ≠ h.1.1 := by omega
    refine ⟨va_up_ne _ _ hne, ?_⟩
    have ek : (newH h kind slots len).1.2.2.1 p = h.1.2.2.1 p := va_up_ne _ _ hne
    have en : (newH h kind slots len).1.2.2.2 p = h.1.2.2.2 p := va_up_ne _ _ hne
    have eI : (newH h kind slots len).2.1 p = h.2.1 p := uR_n _ _ hne
    have eQ : (newH h kind slots len).2.2 p = h.2.2 p := uR_n _ _ hne
    have er : ∀ j, (h.2.2 p j).map (va_up G.1 h.1.1 q) = (h.2.2 p j).map G.1 := by
      intro j
      cases hr : h.2.2 p j with
      | none => rfl
      | some r => exact congrArg some (va_up_ne _ _ (hwf p j r hp hr))
    have e : vF (va_up G.1 h.1.1 q, va_up G.2.1 h.1.1 cA, tys') (newH h kind slots len) p = vF G h p := by
      funext j
      simp only [vF, ek, eI, eQ, er]
    simp only [vE, ek, en, eI, eQ, e, er, va_up_ne _ _ hne]
  have e := vW_push G (va_up G.1 h.1.1 q, va_up G.2.1 h.1.1 cA, tys') h (newH h kind slots len) (a := q) (E := E) rfl (va_up_self _ _ _) hEe hs
  rw [e] at hP hD
  refine ⟨hP, hD, hK, ?_, ?_, a6, ?_⟩
  · intro p ty hp hty
    by_cases hne : p = h.1.1
    · subst hne
      have e1 : (newH h kind slots len).1.2.2.1 h.1.1 = kind := va_up_self _ _ _
      rw [e1] at hty
      obtain ⟨t0, z⟩ := hk ty hty
      exact ⟨t0, by rw [z]; simp only [va_up_self]⟩
    · have e1 : (newH h kind slots len).1.2.2.1 p = h.1.2.2.1 p := va_up_ne _ _ hne
      rw [e1] at hty
      have hp' : p < h.1.1 + 1 := hp
      obtain ⟨t0, z⟩ := a4 p ty (by omega) hty
      exact ⟨t0, by rw [ht _ _ z]; simp only [va_up_ne _ _ hne]⟩
  · show h.1.1 + 1 ≤ 1000
    omega
  · intro p hp
    have hne : p ≠ h.1.1 := by omega
    have ek : (newH h kind slots len).1.2.2.1 p = h.1.2.2.1 p := va_up_ne _ _ hne
    have en : (newH h kind slots len).1.2.2.2 p = h.1.2.2.2 p := va_up_ne _ _ hne
    have eI : (newH h kind slots len).2.1 p = h.2.1 p := uR_n _ _ hne
    rw [ek, en, eI]
    exact a7 p hp
theorem GX.push {G0 G : GH} {n0 n mc q : Nat} {cA : ClassId} {tys' : List (ClassId × FieldType)} (hG : GX G0 G n0 mc) (hn : n0 ≤ n) (h1000 : n < 1000) (hmc : mc ≠ 0) : GX G0 (va_up G.1 n q, va_up G.2.1 n cA, tys') n0 mc :=
  ⟨fun p hp => by rw [← hG.1 p hp]; exact va_up_ne _ _ (by omega), fun z => absurd z hmc⟩
theorem GX.step (G : GH) (n mc q : Nat) (cA : ClassId) (tys' : List (ClassId × FieldType)) (h1000 : n < 1000) (hmc : mc ≠ 0) : GX G (va_up G.1 n q, va_up G.2.1 n cA, tys') n mc :=
  ⟨fun p hp => va_up_ne _ _ (by omega), fun z => absurd z hmc⟩
def qOld (h : PH) : Prop := ∀ p j r, p < h.1.1 → h.2.2 p j = some r → r < h.1.1
theorem sy_new {idx b : Nat} (hd : decode (mcc id) pc = .ok (.new idx, 3)) (hb : b < 7) (hw : Cond.classLink (mown id) idx (cNm b) ∈ allW ∧ Cond.instantiable (cNm b) (nFl b) ∈ allW ∧ Cond.initialized (cNm b) ∈ allW) (hmc : (mrm id).cells ≠ 0) (hn : h.1.1 + 1 ≤ lim.1 ∧ h.1.2.1 + nFl b ≤ lim.2) (h1000 : h.1.1 < 1000) (hq : qOld h) (hls : ∀ v, some v ∈ ls → vOld h.1.1 v) (hst : ∀ v, v ∈ st → vOld h.1.1 v) (k : Sy l id lim (pc + 3) ls (.ref h.1.1 :: st) (newH h b (nFl b) 0) P) : Sy l id lim pc ls st h P := by
  intro pr e R s m args below meth c Qm A D ro G0 n0 sz0 C hA hR hS hret G H locs lsr cells slots hE hG hV hL hc hs
  refine va_new (ci := b) (C := cNm b) (T := cT b) (N := nFl b) (fs := (List.range (nFl b)).map (fun j => if isRf b j = true then Value.null else Value.int 0)) C.1 C.2.1 C.2.2.2.2.1 (inW hb) (cTy b) (cTy_ok hb) C.2.2.2.1 (C.2.2.2.2.1 _ hw.1) (C.2.2.2.2.1 _ hw.2.1) (C.2.2.2.2.1 _ hw.2.2) hE.2.2.1 hE.1 hE.2.1 hV hA (cl_at hb) (fun j hj => by rw [cTy_def b hb j hj]; simp [vp_V, hj]) (by have := hR.2.2.1; omega) (by have := hR.2.2.2; omega) hd fun q H1 hP1 hD1 hS1 => ?_
  have hE1 : EmbW D (va_up G.1 h.1.1 q, va_up G.2.1 h.1.1 (D.1 0), G.2.2) ro A (newH h b (nFl b) 0) s H1 := by
    refine hE.push h1000 ?_ hE.2.2.1 (fun _ _ z => z) ?_ (fun p j r hp hr => by have := hq p j r hp hr; omega) hP1 hD1
    · rw [vE_obj _ _ (show (newH h b (nFl b) 0).1.2.2.1 h.1.1 = b from va_up_self _ _ _) hb]
      congr 2
      apply List.map_congr_left
      intro j _
      simp [vF, newH, va_up, uR, va_rf]
    · intro ty hty
      match b, hb with
      | 0, _ => cases hty
      | 1, _ => cases hty
      | 2, _ => cases hty
      | 3, _ => cases hty
      | 4, _ => cases hty
      | 5, _ => cases hty
      | 6, _ => cases hty
  have hGs := GX.step G h.1.1 (mrm id).cells q (D.1 0) G.2.2 h1000 hmc
  have k' := k _ _ _ _ _ _ _ _ _ _ _ _ _ _ _ _ C hA hR hS hret _ _ _ _ (cells + 1) (slots + nFl b) hE1 (hG.push (by omega) h1000 hmc) hS1 (hL.ext hGs hls) (by show _ = h.1.1 + 1; omega) (by show _ = h.1.2.1 + nFl b; omega)
  rw [List.map_cons, st_ext hGs hst] at k'
  have e0 : eV (va_up G.1 h.1.1 q, va_up G.2.1 h.1.1 (D.1 0), G.2.2) (.ref h.1.1) = .ref q := congrArg Value.ref (va_up_self _ _ _)
  rw [e0] at k'
  exact k'
theorem sy_newa {at_ : ArrayType} {ty : FieldType} {kind n : Nat} {x : Int32} (hd : decode (mcc id) pc = .ok (.newarray at_, 2)) (hty : at_ = .int ∧ ty = .int ∧ kind = 7 ∨ at_ = .char ∧ ty = .char ∧ kind = 8) (hw : Cond.arrayClass ty ∈ allW) (hx : ¬ x < 0) (hxn : x.toNatClampNeg = n) (hn9 : n ≤ 1000) (hmc : (mrm id).cells ≠ 0) (hn : h.1.1 + 1 ≤ lim.1 ∧ h.1.2.1 + n ≤ lim.2) (h1000 : h.1.1 < 1000) (hq : qOld h) (hls : ∀ v, some v ∈ ls → vOld h.1.1 v) (hst : ∀ v, v ∈ st → vOld h.1.1 v) (k : Sy l id lim (pc + 2) ls (.ref h.1.1 :: st) (newH h kind n n) P) : Sy l id lim pc ls (.int x :: st) h P := by
  intro pr e R s m args below meth c Qm A D ro G0 n0 sz0 C hA hR hS hret G H locs lsr cells slots hE hG hV hL hc hs
  have hgs := fun q cA => GX.step G h.1.1 (mrm id).cells q cA (G.2.2 ++ [(cA, ty)]) h1000 hmc
  have kk : ∀ (q : Nat) (cA : ClassId) (H1 : Heap), va_K D vwCl (G.2.2 ++ [(cA, ty)]) s → va_P D vwCl (vW G h ++ [(q, .inl (cA, (n, .inl (fun _ => 0))))]) H1 → va_D A (vW G h ++ [(q, .inl (cA, (n, .inl (fun _ => 0))))]) → va_S A s.heap H1 locs → W pr l e R s m args below meth c H1 locs (cells + 1) (slots + n) Qm (F0 m (pc + 2) lsr (.ref q :: st.map (eV G))) := by
    intro q cA H1 hK1 hP1 hD1 hS1
    have hE1 : EmbW D (va_up G.1 h.1.1 q, va_up G.2.1 h.1.1 cA, G.2.2 ++ [(cA, ty)]) ro A (newH h kind n n) s H1 := by
      refine hE.push h1000 ?_ hK1 (fun t0 x z => by rw [List.getElem?_append_left (List.getElem?_eq_some_iff.mp z).1]; exact z) ?_ (fun p j r hp hr => by have := hq p j r hp hr; omega) hP1 hD1
      · rw [vE_num _ _ (show (newH h kind n n).1.2.2.1 h.1.1 = 7 ∨ (newH h kind n n).1.2.2.1 h.1.1 = 8 by rw [show (newH h kind n n).1.2.2.1 h.1.1 = kind from va_up_self _ _ _]; omega)]
        simp only [newH, va_up_self, uR_s]
      · intro ty' h'
        refine ⟨G.2.2.length, ?_⟩
        have : ty' = ty := by
          rcases hty with ⟨-, rfl, rfl⟩ | ⟨-, rfl, rfl⟩ <;> (cases h'; rfl)
        subst this
        simp
    have k' := k _ _ _ _ _ _ _ _ _ _ _ _ _ _ _ _ C hA hR hS hret _ _ _ _ (cells + 1) (slots + n) hE1 (hG.push (by omega) h1000 hmc) hS1 (hL.ext (hgs q cA) hls) (by show _ = h.1.1 + 1; omega) (by show _ = h.1.2.1 + n; omega)
    rw [List.map_cons, st_ext (hgs q cA) hst] at k'
    have e0 : eV (va_up G.1 h.1.1 q, va_up G.2.1 h.1.1 cA, G.2.2 ++ [(cA, ty)]) (.ref h.1.1) = .ref q := congrArg Value.ref (va_up_self _ _ _)
    rw [e0] at k'
    exact k'
  rcases hty with ⟨rfl, rfl, rfl⟩ | ⟨rfl, rfl, rfl⟩
  · exact va_newa (atype := .int) (ty := .int) (a0 := (n, .inl (fun _ => 0))) C.1 C.2.1 (C.2.2.2.2.1 _ hw) rfl hE.2.2.1 hE.1 hE.2.1 hV hA (fun _ => rfl) hx hxn (by show n * 4 ≤ _; omega) (by have := hR.2.2.1; omega) (by have := hR.2.2.2; omega) hd kk
  · exact va_newa (atype := .char) (ty := .char) (a0 := (n, .inl (fun _ => 0))) C.1 C.2.1 (C.2.2.2.2.1 _ hw) rfl hE.2.2.1 hE.1 hE.2.1 hV hA (fun _ => rfl) hx hxn (by show n * 2 ≤ _; omega) (by have := hR.2.2.1; omega) (by have := hR.2.2.2; omega) hd kk
theorem sy_newq {idx b kind n : Nat} {x : Int32} (hd : decode (mcc id) pc = .ok (.anewarray idx, 3)) (hty : b = 3 ∧ kind = 9 ∨ b = 4 ∧ kind = 10) (hw : Cond.classLink (mown id) idx (cNm b) ∈ allW) (hx : ¬ x < 0) (hxn : x.toNatClampNeg = n) (hn9 : n ≤ 1000) (hmc : (mrm id).cells ≠ 0) (hn : h.1.1 + 1 ≤ lim.1 ∧ h.1.2.1 + n ≤ lim.2) (h1000 : h.1.1 < 1000) (hq : qOld h) (hls : ∀ v, some v ∈ ls → vOld h.1.1 v) (hst : ∀ v, v ∈ st → vOld h.1.1 v) (k : Sy l id lim (pc + 3) ls (.ref h.1.1 :: st) (newH h kind n n) P) : Sy l id lim pc ls (.int x :: st) h P := by
  intro pr e R s m args below meth c Qm A D ro G0 n0 sz0 C hA hR hS hret G H locs lsr cells slots hE hG hV hL hc hs
  have hgs := fun q cA => GX.step G h.1.1 (mrm id).cells q cA (G.2.2 ++ [(cA, .object (cNm b))]) h1000 hmc
  have kk : ∀ (q : Nat) (cA : ClassId) (H1 : Heap), va_K D vwCl (G.2.2 ++ [(cA, .object (cNm b))]) s → va_P D vwCl (vW G h ++ [(q, .inl (cA, (n, .inr (.inr (.inr (.inr (fun _ => none)))))))]) H1 → va_D A (vW G h ++ [(q, .inl (cA, (n, .inr (.inr (.inr (.inr (fun _ => none)))))))]) → va_S A s.heap H1 locs → W pr l e R s m args below meth c H1 locs (cells + 1) (slots + n) Qm (F0 m (pc + 3) lsr (.ref q :: st.map (eV G))) := by
    intro q cA H1 hK1 hP1 hD1 hS1
    have hE1 : EmbW D (va_up G.1 h.1.1 q, va_up G.2.1 h.1.1 cA, G.2.2 ++ [(cA, .object (cNm b))]) ro A (newH h kind n n) s H1 := by
      refine hE.push h1000 ?_ hK1 (fun t0 x z => by rw [List.getElem?_append_left (List.getElem?_eq_some_iff.mp z).1]; exact z) ?_ (fun p j r hp hr => by have := hq p j r hp hr; omega) hP1 hD1
      · rw [vE_ref _ _ (show (newH h kind n n).1.2.2.1 h.1.1 = 9 ∨ (newH h kind n n).1.2.2.1 h.1.1 = 10 by rw [show (newH h kind n n).1.2.2.1 h.1.1 = kind from va_up_self _ _ _]; omega)]
        simp only [newH, va_up_self, uR_s, Option.map_none]
      · intro ty' h'
        refine ⟨G.2.2.length, ?_⟩
        have : ty' = .object (cNm b) := by
          rcases hty with ⟨rfl, rfl⟩ | ⟨rfl, rfl⟩ <;> (cases h'; rfl)
        subst this
        simp
    have k' := k _ _ _ _ _ _ _ _ _ _ _ _ _ _ _ _ C hA hR hS hret _ _ _ _ (cells + 1) (slots + n) hE1 (hG.push (by omega) h1000 hmc) hS1 (hL.ext (hgs q cA) hls) (by show _ = h.1.1 + 1; omega) (by show _ = h.1.2.1 + n; omega)
    rw [List.map_cons, st_ext (hgs q cA) hst] at k'
    have e0 : eV (va_up G.1 h.1.1 q, va_up G.2.1 h.1.1 cA, G.2.2 ++ [(cA, .object (cNm b))]) (.ref h.1.1) = .ref q := congrArg Value.ref (va_up_self _ _ _)
    rw [e0] at k'
    exact k'
  have hover : va_AO (cNm b) s := by
    rcases hty with ⟨rfl, -⟩ | ⟨rfl, -⟩
    · exact hE.2.2.2.2.2.1.1
    · exact hE.2.2.2.2.2.1.2.1
  exact va_newq C.1 C.2.1 C.2.2.2.1 (C.2.2.2.2.1 _ hw) hover hE.2.2.1 hE.1 hE.2.1 hV hA hx hxn (by omega) (by have := hR.2.2.1; omega) (by have := hR.2.2.2; omega) hd kk
end SYN
end
section
/-! the bridge, on: a method's run, calls, answers -/
def mws (id : Nat) : List Cond := Cond.code (mnm id) (mcc id) (mmx id) (mret id) :: allW
def PcR (D : va_G) (G : GH) (ro : ROA) (sz : Nat) (args : List Value) (h : PH) : Array Value → State → Prop :=
  va_Pc (args.map (eV G)) (fun U => U.heap.size = sz ∧ EmbW D G ro (va_A (vW G h) sz) h U U.heap ∧ EmbS G ro (va_A (vW G h) sz) U U.heap)
def QcR (D : va_G) (G : GH) (ro : ROA) (sz : Nat) (h : PH) (id : Nat) (P : Option Value → PH → Prop) : Array Value → State → Outcome → State → Prop := fun _ st o t =>
  (∃ (v : Option Value) (h' : PH) (G' : GH), o = .returned (v.map (eV G')) ∧ P v h' ∧ h'.1.1 = h.1.1 + (mrm id).cells ∧ h'.1.2.1 = h.1.2.1 + (mrm id).slots ∧ GX G G' h.1.1 (mrm id).cells ∧ EmbW D G' ro (va_A (vW G h) sz) h' t t.heap) ∧ va_F (va_A (vW G h) sz) st t
/-- THE METHOD RUNS: from these arguments and cells it comes to its end, with P of its answer and of the cells then -/
def Runs (l : Launch) (id : Nat) (args : List Value) (h : PH) (P : Option Value → PH → Prop) : Prop :=
  ∀ (D : va_G) (G : GH) (ro : ROA) (sz : Nat), Met l (mnm id) (mws id) (mrm id) (PcR D G ro sz args h) (QcR D G ro sz h id P) (mrm id).cells (mrm id).slots (va_A (vW G h) sz)
def MOK (id : Nat) : Prop := Cond.code (mnm id) (mcc id) (mmx id) (mret id) ∈ allW ∧ Cond.initialized (mnm id).cls ∈ allW ∧ ((mnm id).cls ≠ "java/lang/invoke/MethodHandle" ∧ (mnm id).cls ≠ "java/lang/invoke/VarHandle" ∧ (parseMethodDescriptor (mnm id).desc).map (fun d => d.parameters.length) = some (mnp id)) ∧ plainName (mnm id).cls = true ∧ mown id = (mnm id).cls ∧ (mini id = true → (mnm id).name = "<init>")
theorem allW_good : ∀ w ∈ allW, goodWord w = true := fun _ hw => (List.mem_filter.mp hw).2
theorem good_mws {id : Nat} (h : MOK id) : GoodIn allW (mws id) := by
  intro w hw
  rcases List.mem_cons.mp hw with rfl | hw
  · exact ⟨h.1, good_of_word (allW_good _ h.1)⟩
  · exact ⟨hw, good_of_word (allW_good _ hw)⟩
theorem EmbW.moved {D : va_G} {G : GH} {ro : ROA} {A : Nat → Prop} {h : PH} {u U : State} {H : Heap} (hW : u.WarmedH U.vm) (hE : EmbW D G ro A h u H) : EmbW D G ro A h U H :=
  ⟨hE.1, hE.2.1, va_K.moved hW.alike hE.2.2.1, hE.2.2.2.1, hE.2.2.2.2.1, ⟨va_AO.moved hW.alike hE.2.2.2.2.2.1.1, va_AO.moved hW.alike hE.2.2.2.2.2.1.2.1, va_Nw.warmM hW hE.2.2.2.2.2.1.2.2⟩, hE.2.2.2.2.2.2⟩
theorem PcR_blind (D : va_G) (G : GH) (ro : ROA) (sz : Nat) (args : List Value) (h : PH) : FrameBlind (PcR D G ro sz args h) := by
  intro a U g mk hp
  obtain ⟨h1, h2, hE, hS⟩ := hp
  have hal : U.vm.Alike (U.calling g mk a).vm := Vm.Alike.refl U.vm
  refine ⟨h1, h2, ⟨hE.1, hE.2.1, va_K.moved (u := U) (U := U.calling g mk a) hal hE.2.2.1, hE.2.2.2.1, hE.2.2.2.2.1, ⟨va_AO.moved (u := U) (U := U.calling g mk a) hal hE.2.2.2.2.2.1.1, va_AO.moved (u := U) (U := U.calling g mk a) hal hE.2.2.2.2.2.1.2.1, va_Nw.same rfl (u := U) (U := U.calling g mk a) rfl hE.2.2.2.2.2.1.2.2⟩, hE.2.2.2.2.2.2⟩, ?_, ?_⟩
  · intro p hp hk
    exact va_T.moved (u := U) (U := U.calling g mk a) hal (hS.1 p hp hk)
  · intro k hk
    exact va_Z.moved (u := U) (U := U.calling g mk a) hal (hS.2 k hk)
theorem lv_args1 (G : GH) : ∀ (vs : List Value) (i k : Nat) (v : Value), vs[k]? = some v → (i + k, eV G v) ∈ lv_args i (vs.map (eV G)) := by
  intro vs
  induction vs with
  | nil => intro i k v h; simp at h
  | cons a r ih =>
    intro i k v h
    simp only [List.map_cons, lv_args, eV_cat]
    cases k with
    | zero =>
      simp at h
      subst h
      simp
    | succ k =>
      refine List.mem_cons_of_mem _ ?_
      have := ih (i + 1) k v (by simpa using h)
      rw [show i + 1 + k = i + (k + 1) by omega] at this
      simpa using this
theorem lg_len (G : GH) (vs : List Value) : (lg_sl (vs.map (eV G))).length = vs.length := by
  induction vs with
  | nil => rfl
  | cons a r ih =>
    have : lg_sl ((a :: r).map (eV G)) = .val (eV G a) :: lg_sl (r.map (eV G)) := by simp [lg_sl, eV_cat]
    rw [this, List.length_cons, List.length_cons, ih]
theorem LvR_entry (G : GH) (vs : List Value) (n : Nat) (hn : vs.length ≤ n) : LvR G (vs.map some ++ List.replicate (n - vs.length) none) ((lg_sl (vs.map (eV G)) ++ List.replicate (n - (lg_sl (vs.map (eV G))).length) Slot.unset).toArray) n := by
  have hl := lv_entry (vs.map (eV G)) (n := n) (by rw [lg_len]; exact hn)
  refine ⟨by simp; omega, hl.1, hl.2.1, fun q hq => hl.2.2 q ?_⟩
  obtain ⟨k, v, h1, rfl⟩ := (lvl_mem G _ 0 _).mp hq
  by_cases hk : k < vs.length
  · rw [List.getElem?_append_left (by simpa using hk)] at h1
    exact lv_args1 G vs 0 k v (by simpa using h1)
  · rw [List.getElem?_append_right (by simp; omega)] at h1
    have := List.eq_of_mem_replicate (List.mem_of_getElem? h1)
    cases this
section SYR
variable {l : Launch} {id : Nat} {lim : Nat × Nat} {pc : Nat} {ls : List (Option Value)} {st : List Value} {h : PH} {P : Option Value → PH → Prop}
theorem run_of {args : List Value} (hid : MOK id) (hlen : args.length ≤ mmx id) (k : Sy l id (h.1.1 + (mrm id).cells, h.1.2.1 + (mrm id).slots) 0 (args.map some ++ List.replicate (mmx id - args.length) none) [] h P) : Runs l id args h P := by
  intro D G ro sz
  refine Met.ofW (cc := mcc id) (maxL := mmx id) (ret := mret id) hid.2.2.2.1 rfl ?_
  intro p e s m args' below meth c s₁ B hml hv
  obtain ⟨rfl, hsz, hE, hS⟩ := hv
  subst hsz
  have hts := atoms_spec (ws := mws id) B.pre
  have hown : s.vm.findClass (mown id) = some m.cls := by rw [hid.2.2.2.2.1]; exact findClass_of_methodNamed B.named
  have C : Cx p s m (args.map (eV G)).toArray meth c id := ⟨B.exec, B.bytes, hml, hown, fun w hw => hts w (List.mem_cons_of_mem _ hw), fun z => by rw [(name_of_methodNamed B.named B.method).1]; exact hid.2.2.2.2.2 z⟩
  have hlocks := B.notSynchronized
  have hr := B.returns
  rw [lg_entry_eq]
  refine k _ _ _ _ _ _ _ _ _ _ (va_A (vW G h) s.heap.size) D ro G h.1.1 h.1.2.1 C (fun q hq => Or.inr hq) ⟨Nat.le_refl _, Nat.le_refl _, Nat.le_refl _, Nat.le_refl _⟩ hS ?_ G s.heap [] _ 0 0 hE ⟨fun _ _ => rfl, fun _ => rfl⟩ va_S.rf (LvR_entry G args (mmx id) hlen) (by omega) (by omega)
  intro pc v h' G' H locs lsr cells slots hret hP h1 h2 hE' hG' hV hc hs
  have hcm : cells = (mrm id).cells := by dsimp only at h1; omega
  have hsm : slots = (mrm id).slots := by dsimp only at h2; omega
  subst hcm; subst hsm
  have hq : ∀ t : State, t.heap = H → s.WarmedH t.vm → QcR D G ro s.heap.size h id P (args.map (eV G)).toArray s (.returned (v.map (eV G'))) t := fun t ht hW =>
    ⟨⟨v, h', G', rfl, hP, h1, h2, hG', by rw [ht]; exact hE'.moved hW⟩, hV.F ht⟩
  rcases hret with ⟨rfl, e1, e2⟩ | ⟨x, ty, rfl, e1, e3, e2⟩ | ⟨n, r, rfl, e1, e2⟩
  · exact W.vret C.1 C.2.1 (hr.trans e1) hq hV.2.2 e2 hlocks
  · exact W.zret C.1 C.2.1 (hr.trans e1) e3 hq hV.2.2 e2 hlocks
  · refine W.aret (v := eV G' (rvl r)) C.1 C.2.1 (hr.trans e1) (Or.inl ⟨n, rfl⟩) (by rw [eV_rvl]; exact va_rf_or _) hq hV.2.2 e2 hlocks
theorem sy_ret {v : Option Value} (hr : isRet id pc v) (hst : st = v.toList) (hl : h.1.1 = lim.1 ∧ h.1.2.1 = lim.2) (k : P v h) : Sy l id lim pc ls st h P := by
  intro p e R s m args below meth c Qm A D ro G0 n0 sz0 C hA hR hS hret G H locs lsr cells slots hE hG hV hL hc hs
  have := hret pc v h G H locs lsr cells slots hr k hl.1 hl.2 hE hG hV hc hs
  subst hst
  cases v with
  | none => exact this
  | some v => exact this
/-- behind a call -/
theorem call_go {y : Nat} {pr : Program} {e : Env} {R : Room} {s : State} {m : MethodId} {args a : Array Value} {below : List Frame} {meth : Method} {c : Code} {Qm : State → Prop} {A : Nat → Prop} {D : va_G} {ro : ROA} {G0 G : GH} {n0 sz0 : Nat} {H : Heap} {locs : List Loc} {lsr : Array Slot} {cells slots : Nat} {st0 : List Value}
    (hr : va_Run pr l e R s m args below meth c H locs cells slots (mrm y).cells (mrm y).slots (F0 m pc lsr st0) (st.map (eV G)) (QcR D G ro H.size h y (fun v h' => Sy l id lim (pc + 3) ls (v.toList ++ st) h' P) a) (va_A (vW G h) H.size))
    (C : Cx pr s m args meth c id) (hA : ∀ q, s.heap.size ≤ q → A q) (hR : (mrm id).frames ≤ R.frames ∧ (mrm id).locals ≤ R.locals ∧ lim.1 ≤ n0 + R.cells ∧ lim.2 ≤ sz0 + R.slots) (hS : EmbS G0 ro A s s.heap) (hret : RetOK pr l e R s m args below meth c Qm A D ro G0 n0 sz0 id lim P)
    (hE : EmbW D G ro A h s H) (hG : GX G0 G n0 (mrm id).cells) (hV : va_S A s.heap H locs) (hL : LvR G ls lsr (mmx id)) (hc : cells + n0 = h.1.1) (hs : slots + sz0 = h.1.2.1)
    (hmc : (mrm id).cells = 0 → (mrm y).cells = 0) (hold : (mrm y).cells = 0 ∨ (∀ v, some v ∈ ls → vOld h.1.1 v) ∧ (∀ v, v ∈ st → vOld h.1.1 v)) : W pr l e R s m args below meth c H locs cells slots Qm (F0 m pc lsr st0) := by
  intro T hT X
  obtain ⟨v, st₀, t, T', L, h0, X', hL', e1, e2, ⟨⟨v', h', G', hv, hk, hn1, hn2, hGX, hE'⟩, hz, hkk⟩, stp⟩ := hr T hT X
  cases hv
  rw [h0] at hz hkk
  have hFc : ∀ q, va_A (vW G h) H.size q → A q := by
    intro q hq
    rcases hq with ⟨k, E, z⟩ | z
    · exact hE.2.1.2 k (q, E) z
    · exact hA q (Nat.le_trans hV.1 z)
  have hE1 : EmbW D G' ro A h' s T'.heap := by
    rw [e1]
    refine ⟨hE'.1, hE'.2.1.weaken (fun _ q _ z => hFc q.1 z), va_K.moved (u := t) (U := s) ?_ hE'.2.2.1, hE'.2.2.2.1, hE'.2.2.2.2.1, hE.2.2.2.2.2.1, hE'.2.2.2.2.2.2⟩
    rw [← e2]
    exact X'.warmed.alike.symm
  have hS1 : va_S A s.heap T'.heap (locs ++ L) := ⟨Nat.le_trans hV.1 (by rw [e1]; exact hz), fun q g1 g2 => by rw [e1, hkk q (Nat.lt_of_lt_of_le g1 hV.1) (fun z => g2 (hFc q z))]; exact hV.2.1 q g1 g2, fun q hq => by
      rcases List.mem_append.mp hq with z | z
      · exact hV.2.2 q z
      · exact hFc _ (hL' q z)⟩
  have hG1 : GX G0 G' n0 (mrm id).cells := ⟨fun p hp => by rw [hGX.1 p (by omega)]; exact hG.1 p hp, fun z => by rw [hGX.2 (hmc z)]; exact hG.2 z⟩
  have hLs : LvR G' ls lsr (mmx id) ∧ st.map (eV G') = st.map (eV G) := by
    rcases hold with z | ⟨z1, z2⟩
    · rw [hGX.2 z]; exact ⟨hL, rfl⟩
    · exact ⟨hL.ext hGX z1, st_ext hGX z2⟩
  obtain ⟨t2, a1, b1⟩ := hk _ _ _ _ _ _ _ _ _ _ _ _ _ _ _ _ C hA hR hS hret G' T'.heap (locs ++ L) lsr (cells + (mrm y).cells) (slots + (mrm y).slots) hE1 hG1 hS1 hLs.1 (by omega) (by omega) T' rfl X'
  refine ⟨t2, stp t2 ?_, b1⟩
  have e3 : (v'.toList ++ st).map (eV G') = (v'.map (eV G')).toList ++ st.map (eV G) := by
    rw [List.map_append, hLs.2]
    cases v' <;> rfl
  rw [e3] at a1
  exact a1
theorem emb_callee {s U : State} {A : Nat → Prop} {D : va_G} {ro : ROA} {G0 G : GH} {n0 mc : Nat} {H : Heap} {locs : List Loc} {args : List Value} (hA : ∀ q, s.heap.size ≤ q → A q) (hS : EmbS G0 ro A s s.heap) (hE : EmbW D G ro A h s H) (hG : GX G0 G n0 mc) (hV : va_S A s.heap H locs) (hU : U.heap = H) (hW : s.WarmedH U.vm) : PcR D G ro H.size args h (args.map (eV G)).toArray U := by
  have hFc : ∀ q, va_A (vW G h) H.size q → A q := by
    intro q hq
    rcases hq with ⟨k, E, z⟩ | z
    · exact hE.2.1.2 k (q, E) z
    · exact hA q (Nat.le_trans hV.1 z)
  have hE2 := hE.moved hW
  refine ⟨rfl, by rw [hU], ?_, ?_⟩
  · rw [hU]
    exact ⟨hE2.1, hE2.2.1.self, hE2.2.2⟩
  · rw [hU]
    refine ⟨fun p hp hk => ?_, fun k hk => ?_⟩
    · have := hS.1 p hp hk
      rw [← hG.1 p (Or.inr hp)] at this
      exact va_T.moved hW.alike ((this.kept hV.2.1).narrow hFc)
    · have := hS.2 k hk
      rw [← hG.1 (1000 + k) (Or.inr (by omega))] at this
      exact va_Z.moved hW.alike ((this.kept hV.2.1).narrow hFc)
theorem cat_sum (G : GH) (st : List Value) : ((st.map (eV G)).map fun v => v.category).sum = st.length := by
  induction st with
  | nil => rfl
  | cons v st ih => simp only [List.map_cons, List.sum_cons, List.length_cons, eV_cat, ih]; omega
theorem sy_callV {idx y b : Nat} {As : List Value} (hd : decode (mcc id) pc = .ok (.invokevirtual idx, 3)) (hy : MOK y) (hw : Cond.methodLink (mown id) idx (mnm y) ∈ allW ∧ Cond.instanceMethod (mnm y) ∈ allW ∧ Cond.selects (mown y) (mnm y) (mnm y) ∈ allW) (hroom : (mrm y).frames + 1 ≤ (mrm id).frames ∧ 8 + (mmx y + 11) + (mrm y).locals ≤ (mrm id).locals) (hst : st.length ≤ 8) (hp : b < h.1.1) (hk : h.1.2.2.1 b = mkd y) (hkd : mkd y < 7 ∧ cNm (mkd y) = mown y) (hn : As.length = mnp y) (hlim : h.1.1 + (mrm y).cells ≤ lim.1 ∧ h.1.2.1 + (mrm y).slots ≤ lim.2) (hmc : (mrm id).cells = 0 → (mrm y).cells = 0) (hold : (mrm y).cells = 0 ∨ (∀ v, some v ∈ ls → vOld h.1.1 v) ∧ (∀ v, v ∈ st → vOld h.1.1 v))
    (k : Runs l y (.ref b :: As) h (fun v h' => Sy l id lim (pc + 3) ls (v.toList ++ st) h' P)) : Sy l id lim pc ls (As.reverse ++ .ref b :: st) h P := by
  intro pr e R s m args below meth c Qm A D ro G0 n0 sz0 C hA hR hS hret G H locs lsr cells slots hE hG hV hL hc hs
  have hb := vE_obj G h hk hkd.1
  have hrun := va_runV (cells := cells) (slots := slots) (locs := locs) (H := H) (s := s) (m := m) (below := below) (meth := meth) (e := e) (As := As.map (eV G)) (b := G.1 b) (rest := st.map (eV G)) (C := mown y) (n := mnp y) (g := F0 m pc lsr ((As.map (eV G)).reverse ++ .ref (G.1 b) :: st.map (eV G))) ⟨C.1, C.2.1, C.2.2.1, C.2.2.2.1, C.2.2.2.2.1⟩ (k D G ro H.size) (R := R) (args := args)
    ⟨callB_of (mnp y) C.2.2.2.2.1 (good_mws hy) rfl rfl rfl (C.2.2.2.2.1 _ hy.2.1) (C.2.2.2.2.1 _ hw.1) hy.2.2.1 ⟨by have := hR.1; omega, by have := hR.2.1; omega⟩, C.2.2.2.2.1 _ hw.2.1, C.2.2.2.2.1 _ hw.2.2⟩
    ⟨PcR_blind _ _ _ _ _ _, by rw [← hkd.2]; exact va_recv hE.2.2.1 hE.1 (cl_at hkd.1) (by rw [vW_get G h hp, hb]), fun U hU hW => emb_callee hA hS hE hG hV hU hW⟩ rfl (by rw [List.length_map]; exact hn) hL.2.1 rfl (lv_room (by rw [cat_sum]; exact hst)) hd ⟨by have := hR.2.2.1; omega, by have := hR.2.2.2; omega⟩
  have e3 : (As.reverse ++ .ref b :: st).map (eV G) = (As.map (eV G)).reverse ++ .ref (G.1 b) :: st.map (eV G) := by simp [eV]
  rw [e3]
  exact call_go hrun C hA hR hS hret hE hG hV hL hc hs hmc hold
theorem sy_callS {idx y : Nat} {As : List Value} (hd : decode (mcc id) pc = .ok (.invokestatic idx, 3)) (hy : MOK y) (hw : Cond.methodLink (mown id) idx (mnm y) ∈ allW ∧ Cond.static (mnm y) ∈ allW) (hroom : (mrm y).frames + 1 ≤ (mrm id).frames ∧ 8 + (mmx y + 11) + (mrm y).locals ≤ (mrm id).locals) (hst : st.length ≤ 8) (hn : As.length = mnp y) (hlim : h.1.1 + (mrm y).cells ≤ lim.1 ∧ h.1.2.1 + (mrm y).slots ≤ lim.2) (hmc : (mrm id).cells = 0 → (mrm y).cells = 0) (hold : (mrm y).cells = 0 ∨ (∀ v, some v ∈ ls → vOld h.1.1 v) ∧ (∀ v, v ∈ st → vOld h.1.1 v))
    (k : Runs l y As h (fun v h' => Sy l id lim (pc + 3) ls (v.toList ++ st) h' P)) : Sy l id lim pc ls (As.reverse ++ st) h P := by
  intro pr e R s m args below meth c Qm A D ro G0 n0 sz0 C hA hR hS hret G H locs lsr cells slots hE hG hV hL hc hs
  have hrun := va_runS (cells := cells) (slots := slots) (locs := locs) (H := H) (s := s) (m := m) (below := below) (meth := meth) (e := e) (As := As.map (eV G)) (rest := st.map (eV G)) (n := mnp y) (g := F0 m pc lsr ((As.map (eV G)).reverse ++ st.map (eV G))) ⟨C.1, C.2.1, C.2.2.1, C.2.2.2.1, C.2.2.2.2.1⟩ (k D G ro H.size) (R := R) (args := args)
    ⟨callB_of (mnp y) C.2.2.2.2.1 (good_mws hy) rfl rfl rfl (C.2.2.2.2.1 _ hy.2.1) (C.2.2.2.2.1 _ hw.1) hy.2.2.1 ⟨by have := hR.1; omega, by have := hR.2.1; omega⟩, C.2.2.2.2.1 _ hw.2⟩
    ⟨PcR_blind _ _ _ _ _ _, fun U hU hW => emb_callee hA hS hE hG hV hU hW⟩ rfl (by rw [List.length_map]; exact hn) hL.2.1 rfl (lv_room (by rw [cat_sum]; exact hst)) hd ⟨by have := hR.2.2.1; omega, by have := hR.2.2.2; omega⟩
  have e3 : (As.reverse ++ st).map (eV G) = (As.map (eV G)).reverse ++ st.map (eV G) := by simp
  rw [e3]
  exact call_go hrun C hA hR hS hret hE hG hV hL hc hs hmc hold
theorem sy_callI {idx y b : Nat} {As : List Value} (hd : decode (mcc id) pc = .ok (.invokespecial idx, 3)) (hy : MOK y) (hnm : (mnm y).name = "<init>") (hr0 : mret y = none) (hw : Cond.methodLink (mown id) idx (mnm y) ∈ allW ∧ Cond.instanceMethod (mnm y) ∈ allW) (hroom : (mrm y).frames + 1 ≤ (mrm id).frames ∧ 8 + (mmx y + 11) + (mrm y).locals ≤ (mrm id).locals) (hst : st.length ≤ 8) (hn : As.length = mnp y) (hlim : h.1.1 + (mrm y).cells ≤ lim.1 ∧ h.1.2.1 + (mrm y).slots ≤ lim.2) (hmc : (mrm id).cells = 0 → (mrm y).cells = 0) (hold : (mrm y).cells = 0 ∨ (∀ v, some v ∈ ls → vOld h.1.1 v) ∧ (∀ v, v ∈ st → vOld h.1.1 v))
    (k : Runs l y (.ref b :: As) h (fun v h' => Sy l id lim (pc + 3) ls (v.toList ++ st) h' P)) : Sy l id lim pc ls (As.reverse ++ .ref b :: st) h P := by
  intro pr e R s m args below meth c Qm A D ro G0 n0 sz0 C hA hR hS hret G H locs lsr cells slots hE hG hV hL hc hs
  have hrun := va_runI (cells := cells) (slots := slots) (locs := locs) (H := H) (s := s) (m := m) (below := below) (meth := meth) (e := e) (As := As.map (eV G)) (b := G.1 b) (bytes := mcc y) (maxL := mmx y) (rest := st.map (eV G)) (n := mnp y) (g := F0 m pc lsr ((As.map (eV G)).reverse ++ .ref (G.1 b) :: st.map (eV G))) ⟨C.1, C.2.1, C.2.2.1, C.2.2.2.1, C.2.2.2.2.1⟩ (k D G ro H.size) (R := R) (args := args)
    ⟨by rw [← hr0]; exact callB_of (mnp y) C.2.2.2.2.1 (good_mws hy) rfl rfl rfl (C.2.2.2.2.1 _ hy.2.1) (C.2.2.2.2.1 _ hw.1) hy.2.2.1 ⟨by have := hR.1; omega, by have := hR.2.1; omega⟩, hnm, C.2.2.2.2.1 _ hw.2⟩
    ⟨PcR_blind _ _ _ _ _ _, fun U hU hW => emb_callee hA hS hE hG hV hU hW⟩ rfl (by rw [List.length_map]; exact hn) hL.2.1 rfl (lv_room (by rw [cat_sum]; exact hst)) hd ⟨by have := hR.2.2.1; omega, by have := hR.2.2.2; omega⟩
  have e3 : (As.reverse ++ .ref b :: st).map (eV G) = (As.map (eV G)).reverse ++ .ref (G.1 b) :: st.map (eV G) := by simp [eV]
  rw [e3]
  exact call_go hrun C hA hR hS hret hE hG hV hL hc hs hmc hold
theorem sy_callIN {b : Nat} (hid : mown id = RX4) (hd : decode (mcc id) pc = .ok (.invokespecial 17, 3)) {y : Nat} (hyn : mnm y = yX3_init) (hy : MOK y) (hr0 : mret y = none) (hw : Cond.instanceMethod (mnm y) ∈ allW) (hroom : (mrm y).frames + 1 ≤ (mrm id).frames ∧ 8 + (mmx y + 11) + (mrm y).locals ≤ (mrm id).locals) (hst : st.length ≤ 8) (hn : 0 = mnp y) (hlim : h.1.1 + (mrm y).cells ≤ lim.1 ∧ h.1.2.1 + (mrm y).slots ≤ lim.2) (hmc : (mrm id).cells = 0 → (mrm y).cells = 0) (hold : (mrm y).cells = 0 ∨ (∀ v, some v ∈ ls → vOld h.1.1 v) ∧ (∀ v, v ∈ st → vOld h.1.1 v))
    (k : Runs l y [.ref b] h (fun v h' => Sy l id lim (pc + 3) ls (v.toList ++ st) h' P)) : Sy l id lim pc ls (.ref b :: st) h P := by
  intro pr e R s m args below meth c Qm A D ro G0 n0 sz0 C hA hR hS hret G H locs lsr cells slots hE hG hV hL hc hs
  have hrun := va_runIN (cells := cells) (slots := slots) (locs := locs) (H := H) (s := s) (m := m) (below := below) (meth := meth) (e := e) (As := []) (b := G.1 b) (bytes := mcc y) (maxL := mmx y) (rest := st.map (eV G)) (n := mnp y) (host := "TaxiRank") (index := 17) (own := RX4) (g := F0 m pc lsr (.ref (G.1 b) :: st.map (eV G))) ⟨C.1, C.2.1, C.2.2.1, by rw [← hid]; exact C.2.2.2.1, C.2.2.2.2.1⟩ (k D G ro H.size) (R := R) (args := args)
    ⟨by rw [← hr0]; exact va_cnB (mnp y) C.2.2.2.2.1 (good_mws hy) rfl rfl rfl (by rw [hyn]; exact hE.2.2.2.2.2.1.2.2) (C.2.2.2.2.1 _ hy.2.1) hy.2.2.1 ⟨by have := hR.1; omega, by have := hR.2.1; omega⟩, by rw [hyn]; rfl, C.2.2.2.2.1 _ hw⟩
    ⟨PcR_blind _ _ _ _ _ _, fun U hU hW => emb_callee hA hS hE hG hV hU hW⟩ rfl hn hL.2.1 rfl (lv_room (by rw [cat_sum]; exact hst)) hd ⟨by have := hR.2.2.1; omega, by have := hR.2.2.2; omega⟩
  exact call_go hrun C hA hR hS hret hE hG hV hL hc hs hmc hold
theorem sy_objInit {idx b : Nat} (hd : decode (mcc id) pc = .ok (.invokespecial idx, 3)) (hw : Cond.methodLink (mown id) idx objectInit ∈ allW ∧ Cond.instanceMethod objectInit ∈ allW ∧ Cond.code objectInit ⟨#[0xb1]⟩ 1 none ∈ allW) (hroom : 1 ≤ (mrm id).frames ∧ 12 ≤ (mrm id).locals) (k : Sy l id lim (pc + 3) ls [] h P) : Sy l id lim pc ls [.ref b] h P := by
  intro pr e R s m args below meth c Qm A D ro G0 n0 sz0 C hA hR hS hret G H locs lsr cells slots hE hG hV hL hc hs
  have k' := k _ _ _ _ _ _ _ _ _ _ _ _ _ _ _ _ C hA hR hS hret _ _ _ _ _ _ hE hG hV hL hc hs
  exact W.objInit C.1 C.2.1 C.2.2.2.1 (C.2.2.2.2.1 _ hw.1) (C.2.2.2.2.1 _ hw.2.1) (C.2.2.2.2.1 _ hw.2.2) rfl (by rw [C.2.2.1]; exact hL.2.1) rfl hd (by have := hR.1; omega) (by have := hR.2.1; simp; omega) k'
end SYR
end
section
/-! the pure machine: one instruction, many; what is resolved of each is held against the tables by okI -/
abbrev CX : Type := Instr × Nat × Nat × Nat × Int32 × List (Int32 × Nat) × List Nat
abbrev FN : Type := List Value → PH → Prop × List Value × PH
/-- pop n, the last one on top -/
def popN : Nat → List Value → List Value → Option (List Value × List Value)
  | 0, acc, st => some (acc, st)
  | n + 1, acc, v :: st => popN n (v :: acc) st
  | _ + 1, _, [] => none
theorem popN_ok : ∀ (n : Nat) (acc st As r : List Value), popN n acc st = some (As, r) → ∃ Bs, As = Bs ++ acc ∧ st = Bs.reverse ++ r ∧ Bs.length = n := by
  intro n
  induction n with
  | zero =>
    intro acc st As r h
    simp only [popN, Option.some.injEq, Prod.mk.injEq] at h
    obtain ⟨rfl, rfl⟩ := h
    exact ⟨[], rfl, rfl, rfl⟩
  | succ n ih =>
    intro acc st As r h
    cases st with
    | nil => simp [popN] at h
    | cons v st =>
      obtain ⟨Bs, rfl, rfl, h3⟩ := ih _ _ _ _ h
      exact ⟨Bs ++ [v], by simp, by simp, by simp [h3]⟩
/-- a switch: the value against each, in order -/
def swL (x : Int32) (dflt : Nat) (K : Nat → Prop) : List (Int32 × Nat) → Prop
  | [] => K dflt
  | (v, t) :: r => (x = v → K t) ∧ (¬ x = v → swL x dflt K r)
def newOK (id : Nat) (lim : Nat × Nat) (ls : List (Option Value)) (st : List Value) (h : PH) (slots : Nat) : Prop :=
  (mrm id).cells ≠ 0 ∧ (h.1.1 + 1 ≤ lim.1 ∧ h.1.2.1 + slots ≤ lim.2) ∧ h.1.1 < 1000 ∧ qOld h ∧ (∀ v, some v ∈ ls → vOld h.1.1 v) ∧ ∀ v, v ∈ st → vOld h.1.1 v
/-- what a call asks of the caller's side: d = [the receiver's kind, new cells, new slots] -/
def callOK (lim : Nat × Nat) (ls : List (Option Value)) (st : List Value) (h : PH) (d : List Nat) : Prop := st.length ≤ 8 ∧ match d with
  | [_, 0, 0] => h.1.1 ≤ lim.1 ∧ h.1.2.1 ≤ lim.2
  | [_, c, s] => (h.1.1 + c ≤ lim.1 ∧ h.1.2.1 + s ≤ lim.2) ∧ (∀ v, some v ∈ ls → vOld h.1.1 v) ∧ ∀ v, v ∈ st → vOld h.1.1 v
  | _ => False
def goC (l : Launch) (fn : Nat → Option FN) (y : Nat) (As : List Value) (h : PH) (k sy : List Value → PH → Prop) : Prop := match fn y with
  | some f => (f As h).1 ∧ k (f As h).2.1 (f As h).2.2
  | none => Runs l y As h (fun v h' => sy v.toList h')
/-- one instruction: what must hold so that the machine goes on well (k: we go on here; sy: we stop here) -/
def ex (l : Launch) (fn : Nat → Option FN) (k sy : Nat → List (Option Value) → List Value → PH → Prop) (id : Nat) (lim : Nat × Nat) (P : Option Value → PH → Prop) (pc : Nat) (c : CX) (ls : List (Option Value)) (st : List Value) (h : PH) : Prop :=
  match c with
  | (i, len, a, b, v, cs, d) => match i with
    | .iload _ | .iload_n _ => (match ls[a]? with | some (some (.int x)) => k (pc + len) ls (.int x :: st) h | _ => False)
    | .aload _ | .aload_n _ => (match ls[a]? with | some (some (.ref x)) => k (pc + len) ls (.ref x :: st) h | some (some .null) => k (pc + len) ls (.null :: st) h | _ => False)
    | .istore _ | .istore_n _ => (match st with | .int x :: st => a < ls.length ∧ k (pc + len) (ls.set a (some (.int x))) st h | _ => False)
    | .astore _ | .astore_n _ => (match st with | .ref x :: st => a < ls.length ∧ k (pc + len) (ls.set a (some (.ref x))) st h | .null :: st => a < ls.length ∧ k (pc + len) (ls.set a (some .null)) st h | _ => False)
    | .iinc _ _ => (match ls[a]? with | some (some (.int x)) => k (pc + 3) (ls.set a (some (.int (x + v)))) st h | _ => False)
    | .iconst _ | .bipush _ | .sipush _ | .ldc _ => k (pc + len) ls (.int v :: st) h
    | .aconst_null => k (pc + 1) ls (.null :: st) h
    | .iadd => (match st with | .int y :: .int x :: st => k (pc + 1) ls (.int (x + y) :: st) h | _ => False)
    | .isub => (match st with | .int y :: .int x :: st => k (pc + 1) ls (.int (x - y) :: st) h | _ => False)
    | .imul => (match st with | .int y :: .int x :: st => k (pc + 1) ls (.int (x * y) :: st) h | _ => False)
    | .iand => (match st with | .int y :: .int x :: st => k (pc + 1) ls (.int (x &&& y) :: st) h | _ => False)
    | .idiv => (match st with | .int y :: .int x :: st => ¬ y = 0 ∧ k (pc + 1) ls (.int (x / y) :: st) h | _ => False)
    | .irem => (match st with | .int y :: .int x :: st => ¬ y = 0 ∧ k (pc + 1) ls (.int (x - x / y * y) :: st) h | _ => False)
    | .ineg => (match st with | .int x :: st => k (pc + 1) ls (.int (-x) :: st) h | _ => False)
    | .i2c => (match st with | .int x :: st => k (pc + 1) ls (.int (x.toUInt32 % 65536).toInt32 :: st) h | _ => False)
    | .dup => (match st with | v :: st => k (pc + 1) ls (v :: v :: st) h | _ => False)
    | .dup2 => (match st with | v :: w :: st => k (pc + 1) ls (v :: w :: v :: w :: st) h | _ => False)
    | .pop => (match st with | _ :: st => k (pc + 1) ls st h | _ => False)
    | .goto _ => k a ls st h
    | .ifCond .eq _ => (match st with | .int x :: st => (x = 0 → k a ls st h) ∧ (¬ x = 0 → k (pc + 3) ls st h) | _ => False)
    | .ifCond .ne _ => (match st with | .int x :: st => (¬ x = 0 → k a ls st h) ∧ (x = 0 → k (pc + 3) ls st h) | _ => False)
    | .ifCond .lt _ => (match st with | .int x :: st => (x < 0 → k a ls st h) ∧ (¬ x < 0 → k (pc + 3) ls st h) | _ => False)
    | .ifCond .ge _ => (match st with | .int x :: st => (0 ≤ x → k a ls st h) ∧ (¬ 0 ≤ x → k (pc + 3) ls st h) | _ => False)
    | .ifCond .gt _ => (match st with | .int x :: st => (0 < x → k a ls st h) ∧ (¬ 0 < x → k (pc + 3) ls st h) | _ => False)
    | .ifCond .le _ => (match st with | .int x :: st => (x ≤ 0 → k a ls st h) ∧ (¬ x ≤ 0 → k (pc + 3) ls st h) | _ => False)
    | .if_icmp .eq _ => (match st with | .int y :: .int x :: st => (x = y → k a ls st h) ∧ (¬ x = y → k (pc + 3) ls st h) | _ => False)
    | .if_icmp .ne _ => (match st with | .int y :: .int x :: st => (¬ x = y → k a ls st h) ∧ (x = y → k (pc + 3) ls st h) | _ => False)
    | .if_icmp .lt _ => (match st with | .int y :: .int x :: st => (x < y → k a ls st h) ∧ (¬ x < y → k (pc + 3) ls st h) | _ => False)
    | .if_icmp .ge _ => (match st with | .int y :: .int x :: st => (y ≤ x → k a ls st h) ∧ (¬ y ≤ x → k (pc + 3) ls st h) | _ => False)
    | .if_icmp .gt _ => (match st with | .int y :: .int x :: st => (y < x → k a ls st h) ∧ (¬ y < x → k (pc + 3) ls st h) | _ => False)
    | .if_icmp .le _ => (match st with | .int y :: .int x :: st => (x ≤ y → k a ls st h) ∧ (¬ x ≤ y → k (pc + 3) ls st h) | _ => False)
    | .ifnull _ => (match st with | .ref _ :: st => k (pc + 3) ls st h | .null :: st => k a ls st h | _ => False)
    | .ifnonnull _ => (match st with | .ref _ :: st => k a ls st h | .null :: st => k (pc + 3) ls st h | _ => False)
    | .if_acmp .ne _ => (match st with
        | .ref y :: .ref x :: st => (x < h.1.1 ∧ y < h.1.1) ∧ (¬ x = y → k a ls st h) ∧ (x = y → k (pc + 3) ls st h)
        | .ref y :: .null :: st => y < h.1.1 ∧ k a ls st h
        | _ => False)
    | .tableswitch .. | .lookupswitch .. => (match st with | .int x :: st => swL x a (fun t => k t ls st h) cs | _ => False)
    | .getfield _ => (match st with | .ref p :: st => (p < h.1.1 ∧ h.1.2.2.1 p = b) ∧ (match d with | [0] => k (pc + 3) ls (.int (h.2.1 p a) :: st) h | _ => k (pc + 3) ls (rvl (h.2.2 p a) :: st) h) | _ => False)
    | .putfield _ => (match st with
        | .int x :: .ref p :: st => (p < h.1.1 ∧ h.1.2.2.1 p = b) ∧ (match d with | 0 :: _ => k (pc + 3) ls st (h.1, uR h.2.1 p (upd (h.2.1 p) a x), h.2.2) | 2 :: _ => (x = 0 ∨ x = 1) ∧ k (pc + 3) ls st (h.1, uR h.2.1 p (upd (h.2.1 p) a x), h.2.2) | _ => False)
        | .ref q :: .ref p :: st => (p < h.1.1 ∧ h.1.2.2.1 p = b) ∧ (match d with | 1 :: _ => k (pc + 3) ls st (h.1, h.2.1, uR h.2.2 p (va_up (h.2.2 p) a (some q))) | _ => False)
        | _ => False)
    | .iaload => (match st with | .int i :: .ref p :: st => (p < h.1.1 ∧ h.1.2.2.1 p = 7 ∨ 1000 ≤ p ∧ h.1.2.2.1 p = 11) ∧ vp_in i (h.1.2.2.2 p) ∧ k (pc + 1) ls (.int (h.2.1 p i.toNatClampNeg) :: st) h | _ => False)
    | .caload => (match st with | .int i :: .ref p :: st => (p < h.1.1 ∧ h.1.2.2.1 p = 8) ∧ vp_in i (h.1.2.2.2 p) ∧ k (pc + 1) ls (.int (h.2.1 p i.toNatClampNeg) :: st) h | _ => False)
    | .aaload => (match st with | .int i :: .ref p :: st => (p < h.1.1 ∧ (h.1.2.2.1 p = 9 ∨ h.1.2.2.1 p = 10)) ∧ vp_in i (h.1.2.2.2 p) ∧ k (pc + 1) ls (rvl (h.2.2 p i.toNatClampNeg) :: st) h | _ => False)
    | .iastore => (match st with | .int x :: .int i :: .ref p :: st => (p < h.1.1 ∧ h.1.2.2.1 p = 7) ∧ vp_in i (h.1.2.2.2 p) ∧ k (pc + 1) ls st (h.1, uR h.2.1 p (upd (h.2.1 p) i.toNatClampNeg x), h.2.2) | _ => False)
    | .castore => (match st with | .int x :: .int i :: .ref p :: st => (p < h.1.1 ∧ h.1.2.2.1 p = 8) ∧ vp_in i (h.1.2.2.2 p) ∧ k (pc + 1) ls st (h.1, uR h.2.1 p (upd (h.2.1 p) i.toNatClampNeg (vp_nar .char x)), h.2.2) | _ => False)
    | .aastore => (match st with | .ref q :: .int i :: .ref p :: st => (p < h.1.1 ∧ q < h.1.1 ∧ (h.1.2.2.1 p = 9 ∧ h.1.2.2.1 q = 3 ∨ h.1.2.2.1 p = 10 ∧ h.1.2.2.1 q = 4)) ∧ vp_in i (h.1.2.2.2 p) ∧ k (pc + 1) ls st (h.1, h.2.1, uR h.2.2 p (va_up (h.2.2 p) i.toNatClampNeg (some q))) | _ => False)
    | .arraylength => (match st with | .ref p :: st => (p < h.1.1 ∧ (h.1.2.2.1 p = 7 ∨ h.1.2.2.1 p = 8 ∨ h.1.2.2.1 p = 9 ∨ h.1.2.2.1 p = 10) ∨ 1000 ≤ p ∧ h.1.2.2.1 p = 11) ∧ k (pc + 1) ls (.int (Int32.ofNat (h.1.2.2.2 p)) :: st) h | _ => False)
    | .getstatic _ => k (pc + 3) ls (.ref (1000 + a) :: st) h
    | .new _ => newOK id lim ls st h (nFl a) ∧ k (pc + 3) ls (.ref h.1.1 :: st) (newH h a (nFl a) 0)
    | .newarray _ => (match st with | .int x :: st => (¬ x < 0 ∧ x.toNatClampNeg ≤ 1000) ∧ newOK id lim ls st h x.toNatClampNeg ∧ k (pc + 2) ls (.ref h.1.1 :: st) (newH h a x.toNatClampNeg x.toNatClampNeg) | _ => False)
    | .anewarray _ => (match st with | .int x :: st => (¬ x < 0 ∧ x.toNatClampNeg ≤ 1000) ∧ newOK id lim ls st h x.toNatClampNeg ∧ k (pc + 3) ls (.ref h.1.1 :: st) (newH h a x.toNatClampNeg x.toNatClampNeg) | _ => False)
    | .invokevirtual _ => (match popN b [] st with
        | some (As, .ref p :: st) => (p < h.1.1 ∧ d.head? = some (h.1.2.2.1 p)) ∧ callOK lim ls st h d ∧ goC l fn a (.ref p :: As) h (fun w h' => k (pc + 3) ls (w ++ st) h') (fun w h' => sy (pc + 3) ls (w ++ st) h')
        | _ => False)
    | .invokestatic _ => (match a with
        | 999 => (match st with
            | .int n :: .int dp :: .ref p :: .int sp :: .ref q :: st => st.length ≤ 8 ∧ (p < h.1.1 ∧ h.1.2.2.1 p = 7) ∧ (q < h.1.1 ∧ h.1.2.2.1 q = 7 ∨ 1000 ≤ q ∧ h.1.2.2.1 q = 11) ∧ (¬ sp < 0 ∧ ¬ dp < 0 ∧ ¬ n < 0) ∧ (sp.toNatClampNeg + n.toNatClampNeg ≤ h.1.2.2.2 q ∧ dp.toNatClampNeg + n.toNatClampNeg ≤ h.1.2.2.2 p) ∧ k (pc + 3) ls st (h.1, uR h.2.1 p (va_cpy (h.2.1 q) (h.2.1 p) sp.toNatClampNeg dp.toNatClampNeg n.toNatClampNeg), h.2.2)
            | _ => False)
        | y => (match popN b [] st with
            | some (As, st) => callOK lim ls st h d ∧ goC l fn y As h (fun w h' => k (pc + 3) ls (w ++ st) h') (fun w h' => sy (pc + 3) ls (w ++ st) h')
            | _ => False))
    | .invokespecial _ => (match a with
        | 998 => (match st with | [.ref _] => k (pc + 3) ls [] h | _ => False)
        | y => (match popN b [] st with
            | some (As, .ref p :: st) => callOK lim ls st h d ∧ goC l fn y (.ref p :: As) h (fun w h' => k (pc + 3) ls (w ++ st) h') (fun w h' => sy (pc + 3) ls (w ++ st) h')
            | _ => False))
    | .ireturn => (match st with | [.int x] => (h.1.1 = lim.1 ∧ h.1.2.1 = lim.2) ∧ (match b with | 0 => True | 1 => x = 0 ∨ x = 1 | _ => narrow .char (.int x) = .int x) ∧ P (some (.int x)) h | _ => False)
    | .areturn => (match st with | [.ref x] => (h.1.1 = lim.1 ∧ h.1.2.1 = lim.2) ∧ P (some (.ref x)) h | [.null] => (h.1.1 = lim.1 ∧ h.1.2.1 = lim.2) ∧ P (some .null) h | _ => False)
    | .return_ => (match st with | [] => (h.1.1 = lim.1 ∧ h.1.2.1 = lim.2) ∧ P none h | _ => False)
    | _ => False
/-- what the tables say of an entry -/
def okR (id pc : Nat) (c : CX) : Prop :=
  match c with
  | (i, len, a, b, v, cs, d) => match i with
    | .iload n | .aload n | .istore n | .astore n => n = a ∧ len = 2
    | .iload_n n | .aload_n n | .istore_n n | .astore_n n => (n : Nat) = a ∧ len = 1
    | .iinc n m => n = a ∧ Int32.ofInt m = v ∧ len = 3
    | .iconst n => Int32.ofInt n = v ∧ len = 1
    | .bipush n => (Int8.ofInt n).toInt32 = v ∧ len = 2
    | .sipush n => (Int16.ofInt n).toInt32 = v ∧ len = 3
    | .ldc n => Cond.constant (mown id) n v ∈ allW ∧ len = 2
    | .goto off | .ifCond _ off | .if_icmp _ off | .ifnull off | .ifnonnull off | .if_acmp _ off => (pc : Int) + off = (a : Int) ∧ len = 3
    | .getfield idx => b < 7 ∧ a < nFl b ∧ Cond.fieldLink (mown id) idx (cNm b) (cT b a).2.1 (cT b a).2.2.1 ∈ allW ∧ ((d = [0] ∧ isRf b a = false) ∨ (d = [1] ∧ isRf b a = true)) ∧ len = 3
    | .putfield idx => b < 7 ∧ a < nFl b ∧ Cond.fieldLink (mown id) idx (cNm b) (cT b a).2.1 (cT b a).2.2.1 ∈ allW ∧ ((cT b a).2.2.2 = true → mini id = true ∧ cNm b = mown id) ∧ ((d = [0] ∧ cTy b a = .int) ∨ (d = [2] ∧ cTy b a = .boolean) ∨ (d = [1] ∧ ((∃ n, cTy b a = .object n) ∨ ∃ t, cTy b a = .array t))) ∧ len = 3
    | .getstatic idx => a < 3 ∧ Cond.fieldLink (mown id) idx "TaxiRank$Town" (stN a) "[I" ∈ allW ∧ len = 3
    | .new idx => a < 7 ∧ (Cond.classLink (mown id) idx (cNm a) ∈ allW ∧ Cond.instantiable (cNm a) (nFl a) ∈ allW ∧ Cond.initialized (cNm a) ∈ allW) ∧ len = 3
    | .newarray t => ((t = .int ∧ a = 7 ∧ Cond.arrayClass .int ∈ allW) ∨ (t = .char ∧ a = 8 ∧ Cond.arrayClass .char ∈ allW)) ∧ len = 2
    | .anewarray idx => ((a = 9 ∧ Cond.classLink (mown id) idx (cNm 3) ∈ allW) ∨ (a = 10 ∧ Cond.classLink (mown id) idx (cNm 4) ∈ allW)) ∧ len = 3
    | .invokevirtual idx => MOK a ∧ (Cond.methodLink (mown id) idx (mnm a) ∈ allW ∧ Cond.instanceMethod (mnm a) ∈ allW ∧ Cond.selects (mown a) (mnm a) (mnm a) ∈ allW) ∧ ((mrm a).frames + 1 ≤ (mrm id).frames ∧ 8 + (mmx a + 11) + (mrm a).locals ≤ (mrm id).locals) ∧ (mkd a < 7 ∧ cNm (mkd a) = mown a) ∧ b = mnp a ∧ d = [mkd a, (mrm a).cells, (mrm a).slots] ∧ ((mrm id).cells = 0 → (mrm a).cells = 0) ∧ len = 3
    | .invokestatic idx => ((a = 999 ∧ (Cond.methodLink (mown id) idx arraycopyName ∈ allW ∧ Cond.native arraycopyName ∈ allW ∧ Cond.static arraycopyName ∈ allW ∧ Cond.initialized "java/lang/System" ∈ allW) ∧ (1 ≤ (mrm id).frames ∧ 26 ≤ (mrm id).locals)) ∨ (a ≠ 999 ∧ MOK a ∧ (Cond.methodLink (mown id) idx (mnm a) ∈ allW ∧ Cond.static (mnm a) ∈ allW) ∧ ((mrm a).frames + 1 ≤ (mrm id).frames ∧ 8 + (mmx a + 11) + (mrm a).locals ≤ (mrm id).locals) ∧ b = mnp a ∧ d = [mkd a, (mrm a).cells, (mrm a).slots] ∧ ((mrm id).cells = 0 → (mrm a).cells = 0))) ∧ len = 3
    | .invokespecial idx => ((a = 998 ∧ (Cond.methodLink (mown id) idx objectInit ∈ allW ∧ Cond.instanceMethod objectInit ∈ allW ∧ Cond.code objectInit ⟨#[0xb1]⟩ 1 none ∈ allW) ∧ (1 ≤ (mrm id).frames ∧ 12 ≤ (mrm id).locals)) ∨ (a ≠ 998 ∧ MOK a ∧ (mnm a).name = "<init>" ∧ mret a = none ∧ ((Cond.methodLink (mown id) idx (mnm a) ∈ allW ∨ (mown id = RX4 ∧ idx = 17 ∧ mnm a = yX3_init ∧ b = 0)) ∧ Cond.instanceMethod (mnm a) ∈ allW) ∧ ((mrm a).frames + 1 ≤ (mrm id).frames ∧ 8 + (mmx a + 11) + (mrm a).locals ≤ (mrm id).locals) ∧ b = mnp a ∧ d = [mkd a, (mrm a).cells, (mrm a).slots] ∧ ((mrm id).cells = 0 → (mrm a).cells = 0))) ∧ len = 3
    | .ireturn => ((b = 0 ∧ mret id = some .int) ∨ (b = 1 ∧ mret id = some .boolean) ∨ (b = 2 ∧ mret id = some .char)) ∧ len = 1
    | .areturn => (∃ n, mret id = some (.object n)) ∧ len = 1
    | .return_ => mret id = none ∧ len = 1
    | .lookupswitch dflt ps => (ps.toList.zip (ps.toList.drop 1)).all (fun (a, next) => a.1 < next.1) = true ∧ (pc : Int) + dflt = (a : Int) ∧ cs.map (fun q => (q.1.toInt, (q.2 : Int))) = ps.toList.map (fun q => (q.1, (pc : Int) + q.2))
    | .tableswitch dflt lo hi offs => (pc : Int) + dflt = (a : Int) ∧ cs.map (fun q => (q.1.toInt, (q.2 : Int))) = (List.range offs.size).map (fun (j : Nat) => (lo + (j : Int), (pc : Int) + (offs[j]?).getD 0)) ∧ hi + 1 = lo + (offs.size : Int)
    | _ => len = 1
def okI (id : Nat) (q : Nat × CX) : Prop := decode (mcc id) q.1 = .ok (q.2.1, q.2.2.1) ∧ okR id q.1 q.2
theorem okc {id : Nat} {q : Nat × CX} {l : List (Nat × CX)} (hd : decode (mcc id) q.1 = .ok (q.2.1, q.2.2.1)) (hr : okR id q.1 q.2) (hl : ∀ q ∈ l, okI id q) : ∀ x ∈ q :: l, okI id x := List.forall_mem_cons.mpr ⟨⟨hd, hr⟩, hl⟩
theorem okn {id : Nat} : ∀ x ∈ ([] : List (Nat × CX)), okI id x := fun _ h => absurd h List.not_mem_nil
end
section
/-! what the pure machine says holds of the real one -/
section SND
variable {l : Launch} {id : Nat} {lim : Nat × Nat} {pc : Nat} {ls : List (Option Value)} {st : List Value} {h : PH} {P : Option Value → PH → Prop}
theorem i32_nn (z : Int32) (hz : ¬ z < 0) : z.toInt = (z.toNatClampNeg : Int) := by
  have hz0 : (0 : Int) ≤ z.toInt := by simpa using Int32.le_iff_toInt_le.mp (Int32.not_lt.mp hz)
  show z.toInt = ((z.toInt.toNat : Nat) : Int)
  omega
/-- numbers copied out of an array that nobody writes -/
theorem w_copyS {pr : Program} {e : Env} {R : Room} {s : State} {m : MethodId} {args : Array Value} {below : List Frame} {meth : Method} {c : Code} {H : Heap} {locs : List Loc} {cells slots : Nat} {Q : State → Prop} {A : Nat → Prop} {D : va_G} {cl : List vw_C} {ws : va_W} {tys : List (ClassId × FieldType)} {rest : List Value} {lsr : Array Slot} {cc : ByteArray} {a : Nat}
    (hexec : pr.tables.exec = Jvm.exec) (hb : c.code = cc) (hml : c.maxLocals = lsr.size) {own : String} {index : Nat} (hown : s.vm.findClass own = some m.cls) (hlink : (Cond.methodLink own index arraycopyName).before args s = true) (hnat : (Cond.native arraycopyName).before args s = true) (hstat : (Cond.static arraycopyName).before args s = true) (hini : (Cond.initialized "java/lang/System").before args s = true)
    (hK : va_K D cl tys s) (hP : va_P D cl ws H) (hD : va_D A ws) (hS : va_S A s.heap H locs) {b0 n0 : Nat} {f : Nat → Int32} (hX : va_T .int b0 n0 (fun j => .int (f j)) A s s.heap) (q1 t1 : Nat) {c1 : ClassId} {n1 : Nat} {g : Nat → Int32} (ha1 : ws[q1]? = some (a, .inl (c1, n1, .inl g))) (ht1 : tys[t1]? = some (c1, .int))
    {sp dp n : Int32} (h1 : ¬ sp < 0) (h2 : ¬ dp < 0) (h3 : ¬ n < 0) (h4 : sp.toNatClampNeg + n.toNatClampNeg ≤ n0) (h5 : dp.toNatClampNeg + n.toNatClampNeg ≤ n1)
    (hframes : 1 ≤ R.frames) (hlocals : (rest.map fun v => v.category).sum + (nativeFrameWords "java/lang/System" "arraycopy" 5 + 11) ≤ R.locals) (hdg : decode cc pc = .ok (.invokestatic index, 3))
    (kk : ∀ (H1 : Heap) (locs1 : List Loc), va_P D cl (ws.set q1 (a, .inl (c1, n1, .inl (va_cpy f g sp.toNatClampNeg dp.toNatClampNeg n.toNatClampNeg)))) H1 → va_D A (ws.set q1 (a, .inl (c1, n1, .inl (va_cpy f g sp.toNatClampNeg dp.toNatClampNeg n.toNatClampNeg)))) → va_S A s.heap H1 locs1 → W pr l e R s m args below meth c H1 locs1 cells slots Q (F0 m (pc + 3) lsr rest)) : W pr l e R s m args below meth c H locs cells slots Q (F0 m pc lsr (.int n :: .int dp :: .ref a :: .int sp :: .ref b0 :: rest)) := by
  intro T hT X
  obtain ⟨scr, hs1, ⟨hs6, k0, hk0, cm0, hkk0⟩, hs3, hs4, -, hs5, hs7⟩ := hX
  have hc0 : H[b0]? = some scr := by rw [hS.2.1 b0 (Array.getElem?_eq_some_iff.mp hs1).1 hs7]; exact hs1
  have hc1 : H[a]? = some (vp_cell c1 (n1, .inl g)) := hP q1 _ ha1
  obtain ⟨-, k1, hk1, cm1, hkk1⟩ := (hK.2 t1 _ ht1).1 n1 (fun j => .int (g j))
  have hsz : (vp_cell c1 (n1, .inl g)).slots.size = n1 := arrV_size _ _ _
  obtain ⟨vm', X', step⟩ := X.arraycopy hexec hown hlink hnat hstat hini (src := b0) (dst := a) (cs := scr) (cd := vp_cell c1 (n1, .inl g)) (srcPos := sp) (destPos := dp) (n := n) (by rw [hT]; exact hc0) (by rw [hT]; exact hc1)
    hs6 (fun _ z => by cases z) hs3 (fun z => by cases z) hk0 hk1 hkk0 hkk1 (by simp [refKind]) h1 h2 h3
    (by rw [i32_nn sp h1, i32_nn n h3]; omega)
    (by rw [i32_nn dp h2, i32_nn n h3, hsz]; omega)
    (fun vm₁ _ i hi => by
      have e : scr.slots.getD (sp.toNatClampNeg + i) .null = .int (f (sp.toNatClampNeg + i)) := by
        rw [Array.getD_eq_getD_getElem?, hs5 _ (by omega)]
        rfl
      rw [e]
      exact ⟨rfl, trivial⟩)
    (g := F0 m pc lsr (.int n :: .int dp :: .ref a :: .int sp :: .ref b0 :: rest)) rfl (by rw [hml]) (rest := rest) rfl (by rw [hb]; exact hdg) hframes (by show 2 * 0 + _ + _ ≤ _; omega)
  have e1 : copied scr (vp_cell c1 (n1, .inl g)) sp dp n = vp_cell c1 (n1, .inl (va_cpy f g sp.toNatClampNeg dp.toNatClampNeg n.toNatClampNeg)) := va_copiedX (fun z => .int z) scr c1 f g hs5 h4
  rw [e1] at X' step
  have hl : a < H.size := (Array.getElem?_eq_some_iff.mp hc1).1
  have hheap : ((T.setVm vm').setCell a (vp_cell c1 (n1, .inl (va_cpy f g sp.toNatClampNeg dp.toNatClampNeg n.toNatClampNeg)))).heap = H.setIfInBounds a (vp_cell c1 (n1, .inl (va_cpy f g sp.toNatClampNeg dp.toNatClampNeg n.toNatClampNeg))) := by rw [← hT]; rfl
  have oq : ∀ q : Nat, q ≠ a → (H.setIfInBounds a (vp_cell c1 (n1, .inl (va_cpy f g sp.toNatClampNeg dp.toNatClampNeg n.toNatClampNeg))))[q]? = H[q]? := fun q hq => by simp [Array.getElem?_setIfInBounds, Ne.symm hq]
  obtain ⟨t, a1, b1⟩ := kk _ _ (hP.set hD ha1 (show (H.setIfInBounds a _)[a]? = some _ by simp [Array.getElem?_setIfInBounds, hl]) oq) (hD.set ha1) ⟨by simp; exact hS.1, fun q g1 g2 => by
      rw [oq q (fun e => g2 (by rw [e]; exact hD.2 q1 _ ha1))]
      exact hS.2.1 q g1 g2, fun q hq => by
      rcases List.mem_append.mp hq with z | z
      · exact hS.2.2 q z
      · obtain ⟨y, -, hy⟩ := List.mem_map.mp z
        rw [← hy]
        exact hD.2 q1 _ ha1⟩ _ hheap X'
  exact ⟨t, step t a1, b1⟩
theorem sy_copyS {idx p q : Nat} {sp dp n : Int32} (hd : decode (mcc id) pc = .ok (.invokestatic idx, 3)) (hw : Cond.methodLink (mown id) idx arraycopyName ∈ allW ∧ Cond.native arraycopyName ∈ allW ∧ Cond.static arraycopyName ∈ allW ∧ Cond.initialized "java/lang/System" ∈ allW) (hroom : 1 ≤ (mrm id).frames ∧ 26 ≤ (mrm id).locals) (hst : st.length ≤ 8) (hp : p < h.1.1) (hk : h.1.2.2.1 p = 7) (hq : 1000 ≤ q) (hk2 : h.1.2.2.1 q = 11) (h1 : ¬ sp < 0) (h2 : ¬ dp < 0) (h3 : ¬ n < 0) (h4 : sp.toNatClampNeg + n.toNatClampNeg ≤ h.1.2.2.2 q) (h5 : dp.toNatClampNeg + n.toNatClampNeg ≤ h.1.2.2.2 p) (k : Sy l id lim (pc + 3) ls st (h.1, uR h.2.1 p (va_cpy (h.2.1 q) (h.2.1 p) sp.toNatClampNeg dp.toNatClampNeg n.toNatClampNeg), h.2.2) P) : Sy l id lim pc ls (.int n :: .int dp :: .ref p :: .int sp :: .ref q :: st) h P := by
  intro pr e R s m args below meth c Qm A D ro G0 n0 sz0 C hA hR hS hret G H locs lsr cells slots hE hG hV hL hc hs
  obtain ⟨t0, ht⟩ := hE.2.2.2.1 p .int hp (by rw [hk]; rfl)
  obtain ⟨r1, r2, r3⟩ := hE.2.2.2.2.2.2 q hq
  have hT := hS.1 q hq (by rw [← r1]; exact hk2)
  rw [← hG.1 q (Or.inr hq), ← r2, ← r3] at hT
  have e7 : nativeFrameWords "java/lang/System" "arraycopy" 5 = 7 := by decide
  have hloc : ((st.map (eV G)).map fun v => v.category).sum + (nativeFrameWords "java/lang/System" "arraycopy" 5 + 11) ≤ R.locals := by rw [cat_sum, e7]; have := hR.2.1; omega
  exact w_copyS C.1 C.2.1 (C.2.2.1.trans hL.2.1.symm) C.2.2.2.1 (C.2.2.2.2.1 _ hw.1) (C.2.2.2.2.1 _ hw.2.1) (C.2.2.2.2.1 _ hw.2.2.1) (C.2.2.2.2.1 _ hw.2.2.2) hE.2.2.1 hE.1 hE.2.1 hV hT p t0 (by rw [vW_get G h hp, vE_num G h (Or.inl hk)]) ht h1 h2 h3 h4 h5 (by have := hR.1; omega) hloc hd fun H1 locs1 hP1 hD1 hS1 =>
    k _ _ _ _ _ _ _ _ _ _ _ _ _ _ _ _ C hA hR hS hret _ _ _ _ _ _ (hE.upd (h' := (h.1, uR h.2.1 p (va_cpy (h.2.1 q) (h.2.1 p) sp.toNatClampNeg dp.toNatClampNeg n.toNatClampNeg), h.2.2)) hp rfl (fun q hq => uR_n _ _ hq) (fun _ _ => rfl) (vE_row G h (Or.inl hk) _).symm hP1 hD1) hG hS1 hL hc hs
def fnOK (l : Launch) (fn : Nat → Option FN) : Prop := ∀ y f, fn y = some f → ∀ As h, (f As h).1 → ∃ v : Option Value, v.toList = (f As h).2.1 ∧ ∀ Q : Option Value → PH → Prop, Q v (f As h).2.2 → Runs l y As h Q
theorem goC_ok {fn : Nat → Option FN} (hfn : fnOK l fn) {y : Nat} {As : List Value} {k sy : List Value → PH → Prop} (hk : ∀ w h', k w h' → sy w h') (hg : goC l fn y As h k sy) : Runs l y As h (fun v h' => sy v.toList h') := by
  unfold goC at hg
  split at hg
  · next f hf =>
    obtain ⟨v, e1, e2⟩ := hfn y f hf As h hg.1
    refine e2 _ ?_
    rw [e1]
    exact hk _ _ hg.2
  · exact hg
theorem callOK_st {d : List Nat} (hc : callOK lim ls st h d) : st.length ≤ 8 := hc.1
theorem callOK_lim {kd c s : Nat} (hc : callOK lim ls st h [kd, c, s]) : (h.1.1 + c ≤ lim.1 ∧ h.1.2.1 + s ≤ lim.2) ∧ (c = 0 ∨ (∀ v, some v ∈ ls → vOld h.1.1 v) ∧ ∀ v, v ∈ st → vOld h.1.1 v) := by
  obtain ⟨-, hc⟩ := hc
  split at hc
  · next e => cases e; exact ⟨⟨by omega, by omega⟩, Or.inl rfl⟩
  · next e => cases e; exact ⟨hc.1, Or.inr hc.2⟩
  · exact hc.elim
theorem swL_get {x : Int32} {dflt : Nat} {K : Nat → Prop} : ∀ {cs : List (Int32 × Nat)}, swL x dflt K cs → (∃ (j : Nat) (v : Int32) (t : Nat), cs[j]? = some (v, t) ∧ x = v ∧ (∀ (i : Nat) v' t', i < j → cs[i]? = some (v', t') → ¬ x = v') ∧ K t) ∨ ((∀ (j : Nat) v t, cs[j]? = some (v, t) → ¬ x = v) ∧ K dflt) := by
  intro cs
  induction cs with
  | nil => intro hx; exact Or.inr ⟨fun j v t z => by simp at z, hx⟩
  | cons q r ih =>
    intro hx
    obtain ⟨v, t⟩ := q
    obtain ⟨h1, h2⟩ := hx
    by_cases e : x = v
    · exact Or.inl ⟨0, v, t, rfl, e, fun i v' t' z => by omega, h1 e⟩
    · rcases ih (h2 e) with ⟨j, v1, t1, z1, z2, z3, z4⟩ | ⟨z1, z2⟩
      · refine Or.inl ⟨j + 1, v1, t1, by simpa using z1, z2, fun i v' t' hi hz => ?_, z4⟩
        cases i with
        | zero => simp at hz; rw [← hz.1]; exact e
        | succ i => exact z3 i v' t' (by omega) (by simpa using hz)
      · refine Or.inr ⟨fun j v' t' hz => ?_, z2⟩
        cases j with
        | zero => simp at hz; rw [← hz.1]; exact e
        | succ j => exact z1 j v' t' (by simpa using hz)
theorem i32_eq_of {x y : Int32} (h : x.toInt = y.toInt) : x = y := Int32.toInt_inj.mp h
theorem look_off (x : Int) (dflt : Int) : ∀ (ps : List (Int × Int)), (∃ (j : Nat) (v o : Int), ps[j]? = some (v, o) ∧ x = v ∧ (∀ (i : Nat) v' o', i < j → ps[i]? = some (v', o') → ¬ x = v') ∧ Op.lookupswitch.offset ps dflt x = o) ∨ ((∀ (j : Nat) v o, ps[j]? = some (v, o) → ¬ x = v) ∧ Op.lookupswitch.offset ps dflt x = dflt) := by
  intro ps
  induction ps with
  | nil => exact Or.inr ⟨fun j v o z => by simp at z, rfl⟩
  | cons q r ih =>
    obtain ⟨v, o⟩ := q
    rw [Op.lookupswitch.offset_cons]
    by_cases e : x = v
    · rw [if_pos e.symm]
      exact Or.inl ⟨0, v, o, rfl, e, fun i v' t' z => by omega, rfl⟩
    · rw [if_neg (Ne.symm e)]
      rcases ih with ⟨j, v1, t1, z1, z2, z3, z4⟩ | ⟨z1, z2⟩
      · refine Or.inl ⟨j + 1, v1, t1, by simpa using z1, z2, fun i v' t' hi hz => ?_, z4⟩
        cases i with
        | zero => simp at hz; rw [← hz.1]; exact e
        | succ i => exact z3 i v' t' (by omega) (by simpa using hz)
      · refine Or.inr ⟨fun j v' t' hz => ?_, z2⟩
        cases j with
        | zero => simp at hz; rw [← hz.1]; exact e
        | succ j => exact z1 j v' t' (by simpa using hz)
theorem ex_sw {K : Nat → Prop} {x : Int32} {a : Nat} {cs : List (Int32 × Nat)} (hx : swL x a K cs) : (∃ (j : Nat) (v : Int32) (t : Nat), cs[j]? = some (v, t) ∧ x = v ∧ (∀ (i : Nat) v' t', i < j → cs[i]? = some (v', t') → ¬ x = v') ∧ K t) ∨ ((∀ (j : Nat) v t, cs[j]? = some (v, t) → ¬ x = v) ∧ K a) := swL_get hx
theorem sy_lookupL {dflt : Int} {ps : Array (Int × Int)} {len a : Nat} {x : Int32} {cs : List (Int32 × Nat)} (hd : decode (mcc id) pc = .ok (.lookupswitch dflt ps, len)) (hp : (ps.toList.zip (ps.toList.drop 1)).all (fun (a, next) => a.1 < next.1) = true) (ha : (pc : Int) + dflt = (a : Int)) (hcs : cs.map (fun q => (q.1.toInt, (q.2 : Int))) = ps.toList.map (fun q => (q.1, (pc : Int) + q.2))) (hx : swL x a (fun t => Sy l id lim t ls st h P) cs) : Sy l id lim pc ls (.int x :: st) h P := by
  refine sy_lookup hd hp ?_
  have key : ∀ (j : Nat) v o, ps.toList[j]? = some (v, o) → ∃ v' t, cs[j]? = some (v', t) ∧ v'.toInt = v ∧ (t : Int) = pc + o := by
    intro j v o hj
    have e : (cs.map (fun q => (q.1.toInt, (q.2 : Int))))[j]? = some (v, (pc : Int) + o) := by rw [hcs, List.getElem?_map, hj]; rfl
    rw [List.getElem?_map] at e
    cases hc : cs[j]? with
    | none => rw [hc] at e; cases e
    | some q =>
      rw [hc] at e
      simp only [Option.map_some, Option.some.injEq, Prod.mk.injEq] at e
      exact ⟨q.1, q.2, rfl, e.1, e.2⟩
  have key2 : ∀ (j : Nat) v' t, cs[j]? = some (v', t) → ∃ v o, ps.toList[j]? = some (v, o) ∧ v'.toInt = v ∧ (t : Int) = pc + o := by
    intro j v t hj
    have e : (ps.toList.map (fun q => (q.1, (pc : Int) + q.2)))[j]? = some (v.toInt, (t : Int)) := by rw [← hcs, List.getElem?_map, hj]; rfl
    rw [List.getElem?_map] at e
    cases hc : ps.toList[j]? with
    | none => rw [hc] at e; cases e
    | some q =>
      rw [hc] at e
      simp only [Option.map_some, Option.some.injEq, Prod.mk.injEq] at e
      exact ⟨q.1, q.2, rfl, e.1.symm, e.2.symm⟩
  rcases look_off x.toInt dflt ps.toList with ⟨j, v, o, z1, z2, z3, z4⟩ | ⟨z1, z4⟩
  · obtain ⟨v', t, w1, w2, w3⟩ := key j v o z1
    refine ⟨t, by rw [z4]; exact w3.symm, ?_⟩
    rcases swL_get hx with ⟨j2, v2, t2, y1, y2, y3, y4⟩ | ⟨y1, y2⟩
    · have : j2 = j := by
        rcases Nat.lt_trichotomy j2 j with q | q | q
        · obtain ⟨v3, o3, u1, u2, u3⟩ := key2 j2 v2 t2 y1
          exact absurd (by rw [y2]; exact u2) (z3 j2 v3 o3 q u1)
        · exact q
        · exact absurd (i32_eq_of (by rw [z2, w2])) (y3 j v' t q w1)
      subst this
      rw [w1] at y1
      cases y1
      exact y4
    · exact absurd (i32_eq_of (by rw [z2, w2])) (y1 j v' t w1)
  · refine ⟨a, by rw [z4]; exact ha, ?_⟩
    rcases swL_get hx with ⟨j2, v2, t2, y1, y2, y3, y4⟩ | ⟨y1, y2⟩
    · obtain ⟨v3, o3, u1, u2, u3⟩ := key2 j2 v2 t2 y1
      exact absurd (by rw [y2]; exact u2) (z1 j2 v3 o3 u1)
    · exact y2
theorem sy_tableL {dflt lo hi : Int} {offs : Array Int} {len a : Nat} {x : Int32} {cs : List (Int32 × Nat)} (hd : decode (mcc id) pc = .ok (.tableswitch dflt lo hi offs, len)) (ha : (pc : Int) + dflt = (a : Int)) (hcs : cs.map (fun q => (q.1.toInt, (q.2 : Int))) = (List.range offs.size).map (fun (j : Nat) => (lo + (j : Int), (pc : Int) + (offs[j]?).getD 0))) (hhi : hi + 1 = lo + (offs.size : Int)) (hx : swL x a (fun t => Sy l id lim t ls st h P) cs) : Sy l id lim pc ls (.int x :: st) h P := by
  have key : ∀ (j : Nat), j < offs.size → ∃ v' t, cs[j]? = some (v', t) ∧ v'.toInt = lo + j ∧ (t : Int) = pc + (offs[j]?).getD 0 := by
    intro j hj
    have e : (cs.map (fun q => (q.1.toInt, (q.2 : Int))))[j]? = some (lo + (j : Int), (pc : Int) + (offs[j]?).getD 0) := by rw [hcs]; simp [hj]
    rw [List.getElem?_map] at e
    cases hc : cs[j]? with
    | none => rw [hc] at e; cases e
    | some q =>
      rw [hc] at e
      simp only [Option.map_some, Option.some.injEq, Prod.mk.injEq] at e
      exact ⟨q.1, q.2, rfl, e.1, e.2⟩
  have hlen : cs.length = offs.size := by
    have := congrArg List.length hcs
    simpa using this
  by_cases hr : x.toInt < lo ∨ hi < x.toInt
  · refine sy_tableOut hd hr ha ?_
    rcases swL_get hx with ⟨j2, v2, t2, y1, y2, y3, y4⟩ | ⟨y1, y2⟩
    · have hj : j2 < offs.size := by rw [← hlen]; exact (List.getElem?_eq_some_iff.mp y1).1
      obtain ⟨v', t, w1, w2, w3⟩ := key j2 hj
      rw [w1] at y1
      cases y1
      rw [y2, w2] at hr
      omega
    · exact y2
  · have hj : (x.toInt - lo).toNat < offs.size := by omega
    obtain ⟨v', t, w1, w2, w3⟩ := key _ hj
    have hxv : x = v' := i32_eq_of (by rw [w2]; omega)
    refine sy_tableIn (tgt := t) (off := (offs[(x.toInt - lo).toNat]?).getD 0) hd (by omega) (by omega) (by rw [Array.getElem?_eq_getElem hj]; rfl) w3.symm ?_
    rcases swL_get hx with ⟨j2, v2, t2, y1, y2, y3, y4⟩ | ⟨y1, y2⟩
    · have hj2 : j2 < offs.size := by rw [← hlen]; exact (List.getElem?_eq_some_iff.mp y1).1
      obtain ⟨v3, t3, u1, u2, u3⟩ := key j2 hj2
      rw [u1] at y1
      obtain ⟨rfl, rfl⟩ := Prod.mk.inj (Option.some.inj y1)
      have : j2 = (x.toInt - lo).toNat := by
        have e : v3.toInt = v'.toInt := by rw [← hxv, ← y2]
        rw [u2, w2] at e
        omega
      subst this
      rw [w1] at u1
      obtain ⟨rfl, rfl⟩ := Prod.mk.inj (Option.some.inj u1)
      exact y4
    · exact absurd hxv (y1 _ v' t w1)
end SND
end
section
section SNX
variable {l : Launch} {id : Nat} {lim : Nat × Nat} {pc : Nat} {ls : List (Option Value)} {st : List Value} {h : PH} {P : Option Value → PH → Prop}
theorem popN_ref {n : Nat} {As r : List Value} (hp : popN n [] st = some (As, r)) : st = As.reverse ++ r ∧ As.length = n := by
  obtain ⟨Bs, rfl, rfl, h3⟩ := popN_ok n [] st As r hp
  exact ⟨by simp, by simp [h3]⟩
theorem swL_mono {x : Int32} {a : Nat} {K K' : Nat → Prop} (hK : ∀ t, K t → K' t) : ∀ {cs : List (Int32 × Nat)}, swL x a K cs → swL x a K' cs := by
  intro cs
  induction cs with
  | nil => exact hK _
  | cons q r ih => intro hx; exact ⟨fun z => hK _ (hx.1 z), fun z => ih (hx.2 z)⟩
/-- ONE INSTRUCTION -/
theorem ex_ok {fn : Nat → Option FN} (hfn : fnOK l fn) {c : CX} (hok : okI id (pc, c)) {k : Nat → List (Option Value) → List Value → PH → Prop} (hk : ∀ pc ls st h, k pc ls st h → Sy l id lim pc ls st h P) (hx : ex l fn k (fun pc ls st h => Sy l id lim pc ls st h P) id lim P pc c ls st h) : Sy l id lim pc ls st h P := by
  obtain ⟨hd, hr⟩ := hok
  obtain ⟨i, len, a, b, v, cs, d⟩ := c
  dsimp only at hd hr
  cases i <;> first | exact hx.elim | skip
  case iload n =>
    obtain ⟨rfl, rfl⟩ := hr
    simp only [ex] at hx
    split at hx
    · next x e => exact sy_load hd e (Or.inl ⟨rfl, rfl, x, rfl⟩) (hk _ _ _ _ hx)
    · exact hx.elim
  case iload_n n =>
    obtain ⟨rfl, rfl⟩ := hr
    simp only [ex] at hx
    split at hx
    · next x e => exact sy_load hd e (Or.inr (Or.inl ⟨n, rfl, rfl, rfl, x, rfl⟩)) (hk _ _ _ _ hx)
    · exact hx.elim
  case aload n =>
    obtain ⟨rfl, rfl⟩ := hr
    simp only [ex] at hx
    split at hx
    · next x e => exact sy_load hd e (Or.inr (Or.inr (Or.inl ⟨rfl, rfl, some x, rfl⟩))) (hk _ _ _ _ hx)
    · next e => exact sy_load hd e (Or.inr (Or.inr (Or.inl ⟨rfl, rfl, none, rfl⟩))) (hk _ _ _ _ hx)
    · exact hx.elim
  case aload_n n =>
    obtain ⟨rfl, rfl⟩ := hr
    simp only [ex] at hx
    split at hx
    · next x e => exact sy_load hd e (Or.inr (Or.inr (Or.inr ⟨n, rfl, rfl, rfl, some x, rfl⟩))) (hk _ _ _ _ hx)
    · next e => exact sy_load hd e (Or.inr (Or.inr (Or.inr ⟨n, rfl, rfl, rfl, none, rfl⟩))) (hk _ _ _ _ hx)
    · exact hx.elim
  case istore n =>
    obtain ⟨rfl, rfl⟩ := hr
    simp only [ex] at hx
    split at hx
    · next x st => exact sy_store hd (List.getElem?_eq_getElem hx.1) (Or.inl ⟨rfl, rfl, x, rfl⟩) (hk _ _ _ _ hx.2)
    · exact hx.elim
  case istore_n n =>
    obtain ⟨rfl, rfl⟩ := hr
    simp only [ex] at hx
    split at hx
    · next x st => exact sy_store hd (List.getElem?_eq_getElem hx.1) (Or.inr (Or.inl ⟨n, rfl, rfl, rfl, x, rfl⟩)) (hk _ _ _ _ hx.2)
    · exact hx.elim
  case astore n =>
    obtain ⟨rfl, rfl⟩ := hr
    simp only [ex] at hx
    split at hx
    · next x st => exact sy_store hd (List.getElem?_eq_getElem hx.1) (Or.inr (Or.inr (Or.inl ⟨rfl, rfl, some x, rfl⟩))) (hk _ _ _ _ hx.2)
    · next st => exact sy_store hd (List.getElem?_eq_getElem hx.1) (Or.inr (Or.inr (Or.inl ⟨rfl, rfl, none, rfl⟩))) (hk _ _ _ _ hx.2)
    · exact hx.elim
  case astore_n n =>
    obtain ⟨rfl, rfl⟩ := hr
    simp only [ex] at hx
    split at hx
    · next x st => exact sy_store hd (List.getElem?_eq_getElem hx.1) (Or.inr (Or.inr (Or.inr ⟨n, rfl, rfl, rfl, some x, rfl⟩))) (hk _ _ _ _ hx.2)
    · next st => exact sy_store hd (List.getElem?_eq_getElem hx.1) (Or.inr (Or.inr (Or.inr ⟨n, rfl, rfl, rfl, none, rfl⟩))) (hk _ _ _ _ hx.2)
    · exact hx.elim
  case iinc n m =>
    obtain ⟨rfl, hv, rfl⟩ := hr
    simp only [ex] at hx
    split at hx
    · next x e => exact sy_iinc hd hv e (hk _ _ _ _ hx)
    · exact hx.elim
  case iconst n =>
    obtain ⟨hv, rfl⟩ := hr
    exact sy_const hd (Or.inl ⟨n, rfl, rfl, hv⟩) (hk _ _ _ _ hx)
  case bipush n =>
    obtain ⟨hv, rfl⟩ := hr
    exact sy_const hd (Or.inr (Or.inl ⟨n, rfl, rfl, hv⟩)) (hk _ _ _ _ hx)
  case sipush n =>
    obtain ⟨hv, rfl⟩ := hr
    exact sy_const hd (Or.inr (Or.inr (Or.inl ⟨n, rfl, rfl, hv⟩))) (hk _ _ _ _ hx)
  case ldc n =>
    obtain ⟨hv, rfl⟩ := hr
    exact sy_const hd (Or.inr (Or.inr (Or.inr ⟨n, rfl, rfl, hv⟩))) (hk _ _ _ _ hx)
  case aconst_null => cases hr; exact sy_null hd (hk _ _ _ _ hx)
  case iadd =>
    cases hr
    simp only [ex] at hx
    split at hx
    · exact sy_bin hd (Or.inl ⟨rfl, rfl⟩) (hk _ _ _ _ hx)
    · exact hx.elim
  case isub =>
    cases hr
    simp only [ex] at hx
    split at hx
    · exact sy_bin hd (Or.inr (Or.inl ⟨rfl, rfl⟩)) (hk _ _ _ _ hx)
    · exact hx.elim
  case imul =>
    cases hr
    simp only [ex] at hx
    split at hx
    · exact sy_bin hd (Or.inr (Or.inr (Or.inl ⟨rfl, rfl⟩))) (hk _ _ _ _ hx)
    · exact hx.elim
  case iand =>
    cases hr
    simp only [ex] at hx
    split at hx
    · exact sy_bin hd (Or.inr (Or.inr (Or.inr (Or.inl ⟨rfl, rfl⟩)))) (hk _ _ _ _ hx)
    · exact hx.elim
  case idiv =>
    cases hr
    simp only [ex] at hx
    split at hx
    · exact sy_bin hd (Or.inr (Or.inr (Or.inr (Or.inr (Or.inl ⟨rfl, hx.1, rfl⟩))))) (hk _ _ _ _ hx.2)
    · exact hx.elim
  case irem =>
    cases hr
    simp only [ex] at hx
    split at hx
    · exact sy_bin hd (Or.inr (Or.inr (Or.inr (Or.inr (Or.inr ⟨rfl, hx.1, rfl⟩))))) (hk _ _ _ _ hx.2)
    · exact hx.elim
  case ineg =>
    cases hr
    simp only [ex] at hx
    split at hx
    · exact sy_un hd (Or.inl ⟨rfl, rfl⟩) (hk _ _ _ _ hx)
    · exact hx.elim
  case i2c =>
    cases hr
    simp only [ex] at hx
    split at hx
    · exact sy_un hd (Or.inr ⟨rfl, rfl⟩) (hk _ _ _ _ hx)
    · exact hx.elim
  case dup =>
    cases hr
    simp only [ex] at hx
    split at hx
    · exact sy_dup hd (hk _ _ _ _ hx)
    · exact hx.elim
  case dup2 =>
    cases hr
    simp only [ex] at hx
    split at hx
    · exact sy_dup2 hd (hk _ _ _ _ hx)
    · exact hx.elim
  case pop =>
    cases hr
    simp only [ex] at hx
    split at hx
    · exact sy_pop hd (hk _ _ _ _ hx)
    · exact hx.elim
  case goto off =>
    obtain ⟨ht, rfl⟩ := hr
    exact sy_goto hd ht (hk _ _ _ _ hx)
  case ifCond cnd off =>
    obtain ⟨ht, rfl⟩ := hr
    cases cnd <;> (simp only [ex] at hx; split at hx <;> first | exact hx.elim | skip)
    · exact sy_if_eq hd ht ⟨fun z => hk _ _ _ _ (hx.1 z), fun z => hk _ _ _ _ (hx.2 z)⟩
    · exact sy_if_ne hd ht ⟨fun z => hk _ _ _ _ (hx.1 z), fun z => hk _ _ _ _ (hx.2 z)⟩
    · exact sy_if_lt hd ht ⟨fun z => hk _ _ _ _ (hx.1 z), fun z => hk _ _ _ _ (hx.2 z)⟩
    · exact sy_if_ge hd ht ⟨fun z => hk _ _ _ _ (hx.1 z), fun z => hk _ _ _ _ (hx.2 z)⟩
    · exact sy_if_gt hd ht ⟨fun z => hk _ _ _ _ (hx.1 z), fun z => hk _ _ _ _ (hx.2 z)⟩
    · exact sy_if_le hd ht ⟨fun z => hk _ _ _ _ (hx.1 z), fun z => hk _ _ _ _ (hx.2 z)⟩
  case if_icmp cnd off =>
    obtain ⟨ht, rfl⟩ := hr
    cases cnd <;> (simp only [ex] at hx; split at hx <;> first | exact hx.elim | skip)
    · exact sy_icmp_eq hd ht ⟨fun z => hk _ _ _ _ (hx.1 z), fun z => hk _ _ _ _ (hx.2 z)⟩
    · exact sy_icmp_ne hd ht ⟨fun z => hk _ _ _ _ (hx.1 z), fun z => hk _ _ _ _ (hx.2 z)⟩
    · exact sy_icmp_lt hd ht ⟨fun z => hk _ _ _ _ (hx.1 z), fun z => hk _ _ _ _ (hx.2 z)⟩
    · exact sy_icmp_ge hd ht ⟨fun z => hk _ _ _ _ (hx.1 z), fun z => hk _ _ _ _ (hx.2 z)⟩
    · exact sy_icmp_gt hd ht ⟨fun z => hk _ _ _ _ (hx.1 z), fun z => hk _ _ _ _ (hx.2 z)⟩
    · exact sy_icmp_le hd ht ⟨fun z => hk _ _ _ _ (hx.1 z), fun z => hk _ _ _ _ (hx.2 z)⟩
  case ifnull off =>
    obtain ⟨ht, rfl⟩ := hr
    simp only [ex] at hx
    split at hx
    · next x st => exact sy_ifnull (r := some x) hd ht ⟨fun z => absurd z (by simp), fun _ => hk _ _ _ _ hx⟩
    · next st => exact sy_ifnull (r := none) hd ht ⟨fun _ => hk _ _ _ _ hx, fun z => absurd rfl z⟩
    · exact hx.elim
  case ifnonnull off =>
    obtain ⟨ht, rfl⟩ := hr
    simp only [ex] at hx
    split at hx
    · next x st => exact sy_ifnonnull (r := some x) hd ht ⟨fun _ => hk _ _ _ _ hx, fun z => by cases z⟩
    · next st => exact sy_ifnonnull (r := none) hd ht ⟨fun z => absurd rfl z, fun _ => hk _ _ _ _ hx⟩
    · exact hx.elim
  case if_acmp cnd off =>
    obtain ⟨ht, rfl⟩ := hr
    cases cnd with
    | eq => simp only [ex] at hx
    | ne =>
      simp only [ex] at hx
      split at hx
      · next y x st => exact sy_acmpne (x := some x) (y := some y) hd ht (fun z e => by cases e; exact hx.1.1) (fun z e => by cases e; exact hx.1.2) ⟨fun z => hk _ _ _ _ (hx.2.1 (fun e => z (by rw [e]))), fun z => hk _ _ _ _ (hx.2.2 (Option.some.inj z))⟩
      · next y st => exact sy_acmpne (x := none) (y := some y) hd ht (fun z e => absurd e (by simp)) (fun z e => by cases e; exact hx.1) ⟨fun z => hk _ _ _ _ hx.2, fun z => absurd z (by simp)⟩
      · exact hx.elim
  case tableswitch dflt lo hi offs =>
    obtain ⟨h1, h2, h3⟩ := hr
    simp only [ex] at hx
    split at hx
    · exact sy_tableL hd h1 h2 h3 (swL_mono (fun t z => hk _ _ _ _ z) hx)
    · exact hx.elim
  case lookupswitch dflt ps =>
    obtain ⟨h1, h2, h3⟩ := hr
    simp only [ex] at hx
    split at hx
    · exact sy_lookupL hd h1 h2 h3 (swL_mono (fun t z => hk _ _ _ _ z) hx)
    · exact hx.elim
  case getfield idx =>
    obtain ⟨hb, ha, hw, hdd, rfl⟩ := hr
    simp only [ex] at hx
    split at hx
    · next p st =>
      refine sy_get hd hb ha hw hx.1.1 hx.1.2 ?_
      rcases hdd with ⟨rfl, e⟩ | ⟨rfl, e⟩
      · rw [e]; exact hk _ _ _ _ hx.2
      · rw [e]; exact hk _ _ _ _ hx.2
    · exact hx.elim
  case putfield idx =>
    obtain ⟨hb, ha, hw, hfin, hdd, rfl⟩ := hr
    simp only [ex] at hx
    split at hx
    · next x p st =>
      rcases hdd with ⟨rfl, e⟩ | ⟨rfl, e⟩ | ⟨rfl, e⟩
      · exact sy_put (v := .int x) hd hb ha hw rfl hfin hx.1.1 hx.1.2 (by rw [e]; exact ⟨x, rfl⟩) (hk _ _ _ _ hx.2)
      · exact sy_put (v := .int x) hd hb ha hw rfl hfin hx.1.1 hx.1.2 (by rw [e]; exact hx.2.1.elim (fun z => Or.inl (by rw [z])) (fun z => Or.inr (by rw [z]))) (hk _ _ _ _ hx.2.2)
      · exact hx.2.elim
    · next q p st =>
      rcases hdd with ⟨rfl, e⟩ | ⟨rfl, e⟩ | ⟨rfl, ⟨n, e⟩ | ⟨n, e⟩⟩
      · exact hx.2.elim
      · exact hx.2.elim
      · exact sy_put (v := .ref q) hd hb ha hw rfl hfin hx.1.1 hx.1.2 (by rw [e]; exact ⟨some q, rfl⟩) (hk _ _ _ _ hx.2)
      · exact sy_put (v := .ref q) hd hb ha hw rfl hfin hx.1.1 hx.1.2 (by rw [e]; exact ⟨some q, rfl⟩) (hk _ _ _ _ hx.2)
    · exact hx.elim
  case iaload =>
    cases hr
    simp only [ex] at hx
    split at hx
    · exact sy_iald hd hx.1 hx.2.1 (hk _ _ _ _ hx.2.2)
    · exact hx.elim
  case caload =>
    cases hr
    simp only [ex] at hx
    split at hx
    · exact sy_cald hd hx.1.1 hx.1.2 hx.2.1 (hk _ _ _ _ hx.2.2)
    · exact hx.elim
  case aaload =>
    cases hr
    simp only [ex] at hx
    split at hx
    · exact sy_aald hd hx.1.1 hx.1.2 hx.2.1 (hk _ _ _ _ hx.2.2)
    · exact hx.elim
  case iastore =>
    cases hr
    simp only [ex] at hx
    split at hx
    · exact sy_iast hd hx.1.1 hx.1.2 hx.2.1 (hk _ _ _ _ hx.2.2)
    · exact hx.elim
  case castore =>
    cases hr
    simp only [ex] at hx
    split at hx
    · exact sy_cast hd hx.1.1 hx.1.2 hx.2.1 (hk _ _ _ _ hx.2.2)
    · exact hx.elim
  case aastore =>
    cases hr
    simp only [ex] at hx
    split at hx
    · exact sy_aast hd hx.1.1 hx.1.2.1 hx.1.2.2 hx.2.1 (hk _ _ _ _ hx.2.2)
    · exact hx.elim
  case arraylength =>
    cases hr
    simp only [ex] at hx
    split at hx
    · exact sy_alen hd hx.1 (hk _ _ _ _ hx.2)
    · exact hx.elim
  case getstatic idx =>
    obtain ⟨ha, hw, rfl⟩ := hr
    exact sy_gets hd ha hw (hk _ _ _ _ hx)
  case new idx =>
    obtain ⟨ha, hw, rfl⟩ := hr
    obtain ⟨⟨n1, n2, n3, n4, n5, n6⟩, hx⟩ := hx
    exact sy_new hd ha hw n1 n2 n3 n4 n5 n6 (hk _ _ _ _ hx)
  case newarray t =>
    obtain ⟨hw, rfl⟩ := hr
    simp only [ex] at hx
    split at hx
    · obtain ⟨⟨m1, m2⟩, ⟨n1, n2, n3, n4, n5, n6⟩, hx⟩ := hx
      rcases hw with ⟨rfl, rfl, hw⟩ | ⟨rfl, rfl, hw⟩
      · exact sy_newa hd (Or.inl ⟨rfl, rfl, rfl⟩) hw m1 rfl m2 n1 n2 n3 n4 n5 n6 (hk _ _ _ _ hx)
      · exact sy_newa hd (Or.inr ⟨rfl, rfl, rfl⟩) hw m1 rfl m2 n1 n2 n3 n4 n5 n6 (hk _ _ _ _ hx)
    · exact hx.elim
  case anewarray idx =>
    obtain ⟨hw, rfl⟩ := hr
    simp only [ex] at hx
    split at hx
    · obtain ⟨⟨m1, m2⟩, ⟨n1, n2, n3, n4, n5, n6⟩, hx⟩ := hx
      rcases hw with ⟨rfl, hw⟩ | ⟨rfl, hw⟩
      · exact sy_newq hd (Or.inl ⟨rfl, rfl⟩) hw m1 rfl m2 n1 n2 n3 n4 n5 n6 (hk _ _ _ _ hx)
      · exact sy_newq hd (Or.inr ⟨rfl, rfl⟩) hw m1 rfl m2 n1 n2 n3 n4 n5 n6 (hk _ _ _ _ hx)
    · exact hx.elim
  case invokevirtual idx =>
    obtain ⟨hM, hw, hroom, hkd, rfl, rfl, hmc, rfl⟩ := hr
    simp only [ex] at hx
    split at hx
    · next As p st' e =>
      obtain ⟨⟨hp, hkk⟩, hc, hg⟩ := hx
      obtain ⟨rfl, hn⟩ := popN_ref e
      obtain ⟨hl1, hl2⟩ := callOK_lim hc
      exact sy_callV hd hM hw hroom hc.1 hp (Option.some.inj hkk).symm hkd hn hl1 hmc hl2 (goC_ok hfn (k := fun w h' => k (pc + 3) ls (w ++ st') h') (sy := fun w h' => Sy l id lim (pc + 3) ls (w ++ st') h' P) (fun w h' z => hk _ _ _ _ z) hg)
    · exact hx.elim
  case invokestatic idx =>
    obtain ⟨hw, rfl⟩ := hr
    simp only [ex] at hx
    rcases hw with ⟨rfl, hw, hroom⟩ | ⟨ha, hM, hw, hroom, rfl, rfl, hmc⟩
    · split at hx
      · split at hx
        · obtain ⟨h1, h2, h3, h4, h5, hx⟩ := hx
          rcases h3 with h3 | h3
          · exact sy_copy hd hw hroom h1 h2.1 h2.2 h3.1 h3.2 h4.1 h4.2.1 h4.2.2 h5.1 h5.2 (hk _ _ _ _ hx)
          · exact sy_copyS hd hw hroom h1 h2.1 h2.2 h3.1 h3.2 h4.1 h4.2.1 h4.2.2 h5.1 h5.2 (hk _ _ _ _ hx)
        · exact hx.elim
      · next hne => exact (hne rfl).elim
    · split at hx
      · exact absurd rfl ha
      · split at hx
        · next As st' e =>
          obtain ⟨hc, hg⟩ := hx
          obtain ⟨rfl, hn⟩ := popN_ref e
          obtain ⟨hl1, hl2⟩ := callOK_lim hc
          exact sy_callS hd hM hw hroom hc.1 hn hl1 hmc hl2 (goC_ok hfn (k := fun w h' => k (pc + 3) ls (w ++ st') h') (sy := fun w h' => Sy l id lim (pc + 3) ls (w ++ st') h' P) (fun w h' z => hk _ _ _ _ z) hg)
        · exact hx.elim
  case invokespecial idx =>
    obtain ⟨hw, rfl⟩ := hr
    simp only [ex] at hx
    rcases hw with ⟨rfl, hw, hroom⟩ | ⟨ha, hM, hnm, hr0, hw, hroom, rfl, rfl, hmc⟩
    · split at hx
      · split at hx
        · exact sy_objInit hd hw hroom (hk _ _ _ _ hx)
        · exact hx.elim
      · next hne => exact (hne rfl).elim
    · split at hx
      · exact absurd rfl ha
      · split at hx
        · next As p st' e =>
          obtain ⟨hc, hg⟩ := hx
          obtain ⟨rfl, hn⟩ := popN_ref e
          obtain ⟨hl1, hl2⟩ := callOK_lim hc
          have hg' := goC_ok hfn (k := fun w h' => k (pc + 3) ls (w ++ st') h') (sy := fun w h' => Sy l id lim (pc + 3) ls (w ++ st') h' P) (fun w h' z => hk _ _ _ _ z) hg
          rcases hw with ⟨hw | ⟨e1, e2, e3, e4⟩, hw2⟩
          · exact sy_callI hd hM hnm hr0 ⟨hw, hw2⟩ hroom hc.1 hn hl1 hmc hl2 hg'
          · subst e2
            have : As = [] := List.eq_nil_of_length_eq_zero (by rw [hn]; exact e4)
            subst this
            exact sy_callIN e1 hd e3 hM hr0 hw2 hroom hc.1 (by rw [e4]) hl1 hmc hl2 hg'
        · exact hx.elim
  case ireturn =>
    obtain ⟨hr, rfl⟩ := hr
    simp only [ex] at hx
    split at hx
    · next x =>
      obtain ⟨h1, h2, h3⟩ := hx
      refine sy_ret (v := some (.int x)) ?_ rfl h1 h3
      rcases hr with ⟨rfl, e⟩ | ⟨rfl, e⟩ | ⟨rfl, e⟩
      · exact Or.inr (Or.inl ⟨x, _, rfl, e, rfl, hd⟩)
      · refine Or.inr (Or.inl ⟨x, _, rfl, e, ?_, hd⟩)
        rcases h2 with rfl | rfl
        · decide
        · decide
      · exact Or.inr (Or.inl ⟨x, _, rfl, e, h2, hd⟩)
    · exact hx.elim
  case areturn =>
    obtain ⟨⟨n, e⟩, rfl⟩ := hr
    simp only [ex] at hx
    split at hx
    · next x => exact sy_ret (v := some (.ref x)) (Or.inr (Or.inr ⟨n, some x, rfl, e, hd⟩)) rfl hx.1 hx.2
    · exact sy_ret (v := some .null) (Or.inr (Or.inr ⟨n, none, rfl, e, hd⟩)) rfl hx.1 hx.2
    · exact hx.elim
  case return_ =>
    obtain ⟨e, rfl⟩ := hr
    simp only [ex] at hx
    split at hx
    · exact sy_ret (v := none) (Or.inl ⟨rfl, e, hd⟩) rfl hx.1 hx.2
    · exact hx.elim
end SNX
end
