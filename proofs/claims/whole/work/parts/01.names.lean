-- begun from the kit's printed starting texts (SKELETON part A, NAMES)
-- ===== PART A: goes FIRST, ahead of the names: the tables' words, and 'selects' of the private methods out of them =====
/-- a private method of a class that the tables say can be made, by its rows of tables_1 -/
def lw_okq (q : MethodName × Nat) : Prop := (q.1.cls ≠ "java/lang/invoke/MethodHandle" ∧ q.1.cls ≠ "java/lang/invoke/VarHandle") ∧ Cond.instantiable q.1.cls q.2 ∈ tables_1 ∧ Cond.privateMethod q.1 ∈ tables_1 ∧ Cond.instanceMethod q.1 ∈ tables_1
theorem lw_p0 : lw_okq (⟨"TaxiRank$Town", "register", "(I)LTaxiRank$Taxi;"⟩, 12) := ⟨⟨by decide +kernel, by decide +kernel⟩, List.mem_of_getElem? (i := 19) (by decide +kernel), List.mem_of_getElem? (i := 280) (by decide +kernel), List.mem_of_getElem? (i := 281) (by decide +kernel)⟩
theorem lw_p1 : lw_okq (⟨"TaxiRank$Town", "standLast", "(LTaxiRank$Taxi;)V"⟩, 12) := ⟨⟨by decide +kernel, by decide +kernel⟩, List.mem_of_getElem? (i := 19) (by decide +kernel), List.mem_of_getElem? (i := 284) (by decide +kernel), List.mem_of_getElem? (i := 285) (by decide +kernel)⟩
theorem lw_p2 : lw_okq (⟨"TaxiRank$Town", "standAt", "(LTaxiRank$Taxi;IZ)V"⟩, 12) := ⟨⟨by decide +kernel, by decide +kernel⟩, List.mem_of_getElem? (i := 19) (by decide +kernel), List.mem_of_getElem? (i := 288) (by decide +kernel), List.mem_of_getElem? (i := 289) (by decide +kernel)⟩
theorem lw_p3 : lw_okq (⟨"TaxiRank", "recorded", "(I)I"⟩, 10) := ⟨⟨by decide +kernel, by decide +kernel⟩, List.mem_of_getElem? (i := 11) (by decide +kernel), List.mem_of_getElem? (i := 292) (by decide +kernel), List.mem_of_getElem? (i := 293) (by decide +kernel)⟩
theorem lw_p4 : lw_okq (⟨"TaxiRank$History", "dropOldest", "()V"⟩, 2) := ⟨⟨by decide +kernel, by decide +kernel⟩, List.mem_of_getElem? (i := 174) (by decide +kernel), List.mem_of_getElem? (i := 300) (by decide +kernel), List.mem_of_getElem? (i := 301) (by decide +kernel)⟩
theorem lw_p5 : lw_okq (⟨"TaxiRank$Town", "leaveLine", "(LTaxiRank$Taxi;)V"⟩, 12) := ⟨⟨by decide +kernel, by decide +kernel⟩, List.mem_of_getElem? (i := 19) (by decide +kernel), List.mem_of_getElem? (i := 317) (by decide +kernel), List.mem_of_getElem? (i := 318) (by decide +kernel)⟩
theorem lw_p6 : lw_okq (⟨"TaxiRank$Town", "nearer", "(LTaxiRank$Taxi;LTaxiRank$Taxi;I)LTaxiRank$Taxi;"⟩, 12) := ⟨⟨by decide +kernel, by decide +kernel⟩, List.mem_of_getElem? (i := 19) (by decide +kernel), List.mem_of_getElem? (i := 371) (by decide +kernel), List.mem_of_getElem? (i := 372) (by decide +kernel)⟩
theorem lw_p7 : lw_okq (⟨"TaxiRank$Town", "acceptFare", "(LTaxiRank$Taxi;II)V"⟩, 12) := ⟨⟨by decide +kernel, by decide +kernel⟩, List.mem_of_getElem? (i := 19) (by decide +kernel), List.mem_of_getElem? (i := 394) (by decide +kernel), List.mem_of_getElem? (i := 395) (by decide +kernel)⟩
theorem lw_p8 : lw_okq (⟨"TaxiRank$Town", "startRide", "(LTaxiRank$Taxi;)V"⟩, 12) := ⟨⟨by decide +kernel, by decide +kernel⟩, List.mem_of_getElem? (i := 19) (by decide +kernel), List.mem_of_getElem? (i := 402) (by decide +kernel), List.mem_of_getElem? (i := 403) (by decide +kernel)⟩
theorem lw_p9 : lw_okq (⟨"TaxiRank$Town", "minute", "()V"⟩, 12) := ⟨⟨by decide +kernel, by decide +kernel⟩, List.mem_of_getElem? (i := 19) (by decide +kernel), List.mem_of_getElem? (i := 415) (by decide +kernel), List.mem_of_getElem? (i := 416) (by decide +kernel)⟩
theorem lw_p10 : lw_okq (⟨"TaxiRank$Town", "goOn", "(LTaxiRank$Taxi;)V"⟩, 12) := ⟨⟨by decide +kernel, by decide +kernel⟩, List.mem_of_getElem? (i := 19) (by decide +kernel), List.mem_of_getElem? (i := 419) (by decide +kernel), List.mem_of_getElem? (i := 420) (by decide +kernel)⟩
theorem lw_p11 : lw_okq (⟨"TaxiRank$Town", "payFare", "(LTaxiRank$Taxi;)V"⟩, 12) := ⟨⟨by decide +kernel, by decide +kernel⟩, List.mem_of_getElem? (i := 19) (by decide +kernel), List.mem_of_getElem? (i := 423) (by decide +kernel), List.mem_of_getElem? (i := 424) (by decide +kernel)⟩
theorem lw_p12 : lw_okq (⟨"TaxiRank$Town", "comeBack", "(LTaxiRank$Taxi;)V"⟩, 12) := ⟨⟨by decide +kernel, by decide +kernel⟩, List.mem_of_getElem? (i := 19) (by decide +kernel), List.mem_of_getElem? (i := 430) (by decide +kernel), List.mem_of_getElem? (i := 431) (by decide +kernel)⟩
theorem lw_p13 : lw_okq (⟨"TaxiRank$Town", "standQuickly", "(LTaxiRank$Taxi;)V"⟩, 12) := ⟨⟨by decide +kernel, by decide +kernel⟩, List.mem_of_getElem? (i := 19) (by decide +kernel), List.mem_of_getElem? (i := 434) (by decide +kernel), List.mem_of_getElem? (i := 435) (by decide +kernel)⟩
theorem lw_p14 : lw_okq (⟨"TaxiRank$Town", "dismissImpatient", "()V"⟩, 12) := ⟨⟨by decide +kernel, by decide +kernel⟩, List.mem_of_getElem? (i := 19) (by decide +kernel), List.mem_of_getElem? (i := 438) (by decide +kernel), List.mem_of_getElem? (i := 439) (by decide +kernel)⟩
theorem lw_p15 : lw_okq (⟨"TaxiRank$Town", "seatPassengers", "()V"⟩, 12) := ⟨⟨by decide +kernel, by decide +kernel⟩, List.mem_of_getElem? (i := 19) (by decide +kernel), List.mem_of_getElem? (i := 446) (by decide +kernel), List.mem_of_getElem? (i := 447) (by decide +kernel)⟩
def lw_privs_1 : List (MethodName × Nat) := [(⟨"TaxiRank$Town", "register", "(I)LTaxiRank$Taxi;"⟩, 12), (⟨"TaxiRank$Town", "standLast", "(LTaxiRank$Taxi;)V"⟩, 12), (⟨"TaxiRank$Town", "standAt", "(LTaxiRank$Taxi;IZ)V"⟩, 12), (⟨"TaxiRank", "recorded", "(I)I"⟩, 10), (⟨"TaxiRank$History", "dropOldest", "()V"⟩, 2), (⟨"TaxiRank$Town", "leaveLine", "(LTaxiRank$Taxi;)V"⟩, 12), (⟨"TaxiRank$Town", "nearer", "(LTaxiRank$Taxi;LTaxiRank$Taxi;I)LTaxiRank$Taxi;"⟩, 12), (⟨"TaxiRank$Town", "acceptFare", "(LTaxiRank$Taxi;II)V"⟩, 12), (⟨"TaxiRank$Town", "startRide", "(LTaxiRank$Taxi;)V"⟩, 12), (⟨"TaxiRank$Town", "minute", "()V"⟩, 12), (⟨"TaxiRank$Town", "goOn", "(LTaxiRank$Taxi;)V"⟩, 12), (⟨"TaxiRank$Town", "payFare", "(LTaxiRank$Taxi;)V"⟩, 12), (⟨"TaxiRank$Town", "comeBack", "(LTaxiRank$Taxi;)V"⟩, 12), (⟨"TaxiRank$Town", "standQuickly", "(LTaxiRank$Taxi;)V"⟩, 12), (⟨"TaxiRank$Town", "dismissImpatient", "()V"⟩, 12), (⟨"TaxiRank$Town", "seatPassengers", "()V"⟩, 12)]
theorem lw_r1 : ∀ q ∈ lw_privs_1, lw_okq q := List.forall_mem_cons.mpr ⟨lw_p0, List.forall_mem_cons.mpr ⟨lw_p1, List.forall_mem_cons.mpr ⟨lw_p2, List.forall_mem_cons.mpr ⟨lw_p3, List.forall_mem_cons.mpr ⟨lw_p4, List.forall_mem_cons.mpr ⟨lw_p5, List.forall_mem_cons.mpr ⟨lw_p6, List.forall_mem_cons.mpr ⟨lw_p7, List.forall_mem_cons.mpr ⟨lw_p8, List.forall_mem_cons.mpr ⟨lw_p9, List.forall_mem_cons.mpr ⟨lw_p10, List.forall_mem_cons.mpr ⟨lw_p11, List.forall_mem_cons.mpr ⟨lw_p12, List.forall_mem_cons.mpr ⟨lw_p13, List.forall_mem_cons.mpr ⟨lw_p14, List.forall_mem_cons.mpr ⟨lw_p15, fun _ h => absurd h List.not_mem_nil⟩⟩⟩⟩⟩⟩⟩⟩⟩⟩⟩⟩⟩⟩⟩⟩
theorem lw_p16 : lw_okq (⟨"TaxiRank$Orders", "readOrder", "()Z"⟩, 7) := ⟨⟨by decide +kernel, by decide +kernel⟩, List.mem_of_getElem? (i := 191) (by decide +kernel), List.mem_of_getElem? (i := 470) (by decide +kernel), List.mem_of_getElem? (i := 471) (by decide +kernel)⟩
theorem lw_p17 : lw_okq (⟨"TaxiRank$Orders", "here", "()C"⟩, 7) := ⟨⟨by decide +kernel, by decide +kernel⟩, List.mem_of_getElem? (i := 191) (by decide +kernel), List.mem_of_getElem? (i := 474) (by decide +kernel), List.mem_of_getElem? (i := 475) (by decide +kernel)⟩
theorem lw_p18 : lw_okq (⟨"TaxiRank$Orders", "readNumber", "(II)I"⟩, 7) := ⟨⟨by decide +kernel, by decide +kernel⟩, List.mem_of_getElem? (i := 191) (by decide +kernel), List.mem_of_getElem? (i := 478) (by decide +kernel), List.mem_of_getElem? (i := 479) (by decide +kernel)⟩
theorem lw_p19 : lw_okq (⟨"TaxiRank$Orders", "digitHere", "()I"⟩, 7) := ⟨⟨by decide +kernel, by decide +kernel⟩, List.mem_of_getElem? (i := 191) (by decide +kernel), List.mem_of_getElem? (i := 482) (by decide +kernel), List.mem_of_getElem? (i := 483) (by decide +kernel)⟩
theorem lw_p20 : lw_okq (⟨"TaxiRank$Orders", "note", "(CII)V"⟩, 7) := ⟨⟨by decide +kernel, by decide +kernel⟩, List.mem_of_getElem? (i := 191) (by decide +kernel), List.mem_of_getElem? (i := 486) (by decide +kernel), List.mem_of_getElem? (i := 487) (by decide +kernel)⟩
theorem lw_p21 : lw_okq (⟨"TaxiRankModel", "record", "()V"⟩, 15) := ⟨⟨by decide +kernel, by decide +kernel⟩, List.mem_of_getElem? (i := 577) (by decide +kernel), List.mem_of_getElem? (i := 644) (by decide +kernel), List.mem_of_getElem? (i := 645) (by decide +kernel)⟩
theorem lw_p22 : lw_okq (⟨"TaxiRankModel", "recordRow", "([I)V"⟩, 15) := ⟨⟨by decide +kernel, by decide +kernel⟩, List.mem_of_getElem? (i := 577) (by decide +kernel), List.mem_of_getElem? (i := 648) (by decide +kernel), List.mem_of_getElem? (i := 649) (by decide +kernel)⟩
theorem lw_p23 : lw_okq (⟨"TaxiRankModel", "taxiWith", "(I)I"⟩, 15) := ⟨⟨by decide +kernel, by decide +kernel⟩, List.mem_of_getElem? (i := 577) (by decide +kernel), List.mem_of_getElem? (i := 659) (by decide +kernel), List.mem_of_getElem? (i := 660) (by decide +kernel)⟩
theorem lw_p24 : lw_okq (⟨"TaxiRankModel", "of", "(II)I"⟩, 15) := ⟨⟨by decide +kernel, by decide +kernel⟩, List.mem_of_getElem? (i := 577) (by decide +kernel), List.mem_of_getElem? (i := 663) (by decide +kernel), List.mem_of_getElem? (i := 664) (by decide +kernel)⟩
theorem lw_p25 : lw_okq (⟨"TaxiRankModel", "lay", "(III)V"⟩, 15) := ⟨⟨by decide +kernel, by decide +kernel⟩, List.mem_of_getElem? (i := 577) (by decide +kernel), List.mem_of_getElem? (i := 667) (by decide +kernel), List.mem_of_getElem? (i := 668) (by decide +kernel)⟩
theorem lw_p26 : lw_okq (⟨"TaxiRankModel", "standAt", "(II)V"⟩, 15) := ⟨⟨by decide +kernel, by decide +kernel⟩, List.mem_of_getElem? (i := 577) (by decide +kernel), List.mem_of_getElem? (i := 671) (by decide +kernel), List.mem_of_getElem? (i := 672) (by decide +kernel)⟩
theorem lw_p27 : lw_okq (⟨"TaxiRankModel", "leaveLine", "(I)V"⟩, 15) := ⟨⟨by decide +kernel, by decide +kernel⟩, List.mem_of_getElem? (i := 577) (by decide +kernel), List.mem_of_getElem? (i := 679) (by decide +kernel), List.mem_of_getElem? (i := 680) (by decide +kernel)⟩
theorem lw_p28 : lw_okq (⟨"TaxiRankModel", "placeInLine", "(I)I"⟩, 15) := ⟨⟨by decide +kernel, by decide +kernel⟩, List.mem_of_getElem? (i := 577) (by decide +kernel), List.mem_of_getElem? (i := 683) (by decide +kernel), List.mem_of_getElem? (i := 684) (by decide +kernel)⟩
theorem lw_p29 : lw_okq (⟨"TaxiRankModel", "begin", "(III)V"⟩, 15) := ⟨⟨by decide +kernel, by decide +kernel⟩, List.mem_of_getElem? (i := 577) (by decide +kernel), List.mem_of_getElem? (i := 687) (by decide +kernel), List.mem_of_getElem? (i := 688) (by decide +kernel)⟩
theorem lw_p30 : lw_okq (⟨"TaxiRankModel", "whyNotArrive", "(I)I"⟩, 15) := ⟨⟨by decide +kernel, by decide +kernel⟩, List.mem_of_getElem? (i := 577) (by decide +kernel), List.mem_of_getElem? (i := 702) (by decide +kernel), List.mem_of_getElem? (i := 703) (by decide +kernel)⟩
theorem lw_p31 : lw_okq (⟨"TaxiRankModel", "arriveNow", "(I)I"⟩, 15) := ⟨⟨by decide +kernel, by decide +kernel⟩, List.mem_of_getElem? (i := 577) (by decide +kernel), List.mem_of_getElem? (i := 709) (by decide +kernel), List.mem_of_getElem? (i := 710) (by decide +kernel)⟩
def lw_privs_2 : List (MethodName × Nat) := [(⟨"TaxiRank$Orders", "readOrder", "()Z"⟩, 7), (⟨"TaxiRank$Orders", "here", "()C"⟩, 7), (⟨"TaxiRank$Orders", "readNumber", "(II)I"⟩, 7), (⟨"TaxiRank$Orders", "digitHere", "()I"⟩, 7), (⟨"TaxiRank$Orders", "note", "(CII)V"⟩, 7), (⟨"TaxiRankModel", "record", "()V"⟩, 15), (⟨"TaxiRankModel", "recordRow", "([I)V"⟩, 15), (⟨"TaxiRankModel", "taxiWith", "(I)I"⟩, 15), (⟨"TaxiRankModel", "of", "(II)I"⟩, 15), (⟨"TaxiRankModel", "lay", "(III)V"⟩, 15), (⟨"TaxiRankModel", "standAt", "(II)V"⟩, 15), (⟨"TaxiRankModel", "leaveLine", "(I)V"⟩, 15), (⟨"TaxiRankModel", "placeInLine", "(I)I"⟩, 15), (⟨"TaxiRankModel", "begin", "(III)V"⟩, 15), (⟨"TaxiRankModel", "whyNotArrive", "(I)I"⟩, 15), (⟨"TaxiRankModel", "arriveNow", "(I)I"⟩, 15)]
theorem lw_r2 : ∀ q ∈ lw_privs_2, lw_okq q := List.forall_mem_cons.mpr ⟨lw_p16, List.forall_mem_cons.mpr ⟨lw_p17, List.forall_mem_cons.mpr ⟨lw_p18, List.forall_mem_cons.mpr ⟨lw_p19, List.forall_mem_cons.mpr ⟨lw_p20, List.forall_mem_cons.mpr ⟨lw_p21, List.forall_mem_cons.mpr ⟨lw_p22, List.forall_mem_cons.mpr ⟨lw_p23, List.forall_mem_cons.mpr ⟨lw_p24, List.forall_mem_cons.mpr ⟨lw_p25, List.forall_mem_cons.mpr ⟨lw_p26, List.forall_mem_cons.mpr ⟨lw_p27, List.forall_mem_cons.mpr ⟨lw_p28, List.forall_mem_cons.mpr ⟨lw_p29, List.forall_mem_cons.mpr ⟨lw_p30, List.forall_mem_cons.mpr ⟨lw_p31, fun _ h => absurd h List.not_mem_nil⟩⟩⟩⟩⟩⟩⟩⟩⟩⟩⟩⟩⟩⟩⟩⟩
theorem lw_p32 : lw_okq (⟨"TaxiRankModel", "whyNotCall", "(II)I"⟩, 15) := ⟨⟨by decide +kernel, by decide +kernel⟩, List.mem_of_getElem? (i := 577) (by decide +kernel), List.mem_of_getElem? (i := 717) (by decide +kernel), List.mem_of_getElem? (i := 718) (by decide +kernel)⟩
theorem lw_p33 : lw_okq (⟨"TaxiRankModel", "callee", "(I)I"⟩, 15) := ⟨⟨by decide +kernel, by decide +kernel⟩, List.mem_of_getElem? (i := 577) (by decide +kernel), List.mem_of_getElem? (i := 721) (by decide +kernel), List.mem_of_getElem? (i := 722) (by decide +kernel)⟩
theorem lw_p34 : lw_okq (⟨"TaxiRankModel", "needs", "(II)I"⟩, 15) := ⟨⟨by decide +kernel, by decide +kernel⟩, List.mem_of_getElem? (i := 577) (by decide +kernel), List.mem_of_getElem? (i := 725) (by decide +kernel), List.mem_of_getElem? (i := 726) (by decide +kernel)⟩
theorem lw_p35 : lw_okq (⟨"TaxiRankModel", "mayTake", "(I)Z"⟩, 15) := ⟨⟨by decide +kernel, by decide +kernel⟩, List.mem_of_getElem? (i := 577) (by decide +kernel), List.mem_of_getElem? (i := 729) (by decide +kernel), List.mem_of_getElem? (i := 730) (by decide +kernel)⟩
theorem lw_p36 : lw_okq (⟨"TaxiRankModel", "staysHome", "(I)Z"⟩, 15) := ⟨⟨by decide +kernel, by decide +kernel⟩, List.mem_of_getElem? (i := 577) (by decide +kernel), List.mem_of_getElem? (i := 733) (by decide +kernel), List.mem_of_getElem? (i := 734) (by decide +kernel)⟩
theorem lw_p37 : lw_okq (⟨"TaxiRankModel", "isTired", "(I)Z"⟩, 15) := ⟨⟨by decide +kernel, by decide +kernel⟩, List.mem_of_getElem? (i := 577) (by decide +kernel), List.mem_of_getElem? (i := 737) (by decide +kernel), List.mem_of_getElem? (i := 738) (by decide +kernel)⟩
theorem lw_p38 : lw_okq (⟨"TaxiRankModel", "callNow", "(II)I"⟩, 15) := ⟨⟨by decide +kernel, by decide +kernel⟩, List.mem_of_getElem? (i := 577) (by decide +kernel), List.mem_of_getElem? (i := 744) (by decide +kernel), List.mem_of_getElem? (i := 745) (by decide +kernel)⟩
theorem lw_p39 : lw_okq (⟨"TaxiRankModel", "takeFare", "(IIIZ)V"⟩, 15) := ⟨⟨by decide +kernel, by decide +kernel⟩, List.mem_of_getElem? (i := 577) (by decide +kernel), List.mem_of_getElem? (i := 748) (by decide +kernel), List.mem_of_getElem? (i := 749) (by decide +kernel)⟩
theorem lw_p40 : lw_okq (⟨"TaxiRankModel", "tally", "(II)V"⟩, 15) := ⟨⟨by decide +kernel, by decide +kernel⟩, List.mem_of_getElem? (i := 577) (by decide +kernel), List.mem_of_getElem? (i := 752) (by decide +kernel), List.mem_of_getElem? (i := 753) (by decide +kernel)⟩
theorem lw_p41 : lw_okq (⟨"TaxiRankModel", "ride", "(I)V"⟩, 15) := ⟨⟨by decide +kernel, by decide +kernel⟩, List.mem_of_getElem? (i := 577) (by decide +kernel), List.mem_of_getElem? (i := 756) (by decide +kernel), List.mem_of_getElem? (i := 757) (by decide +kernel)⟩
theorem lw_p42 : lw_okq (⟨"TaxiRankModel", "whyNotPass", "(I)I"⟩, 15) := ⟨⟨by decide +kernel, by decide +kernel⟩, List.mem_of_getElem? (i := 577) (by decide +kernel), List.mem_of_getElem? (i := 764) (by decide +kernel), List.mem_of_getElem? (i := 765) (by decide +kernel)⟩
theorem lw_p43 : lw_okq (⟨"TaxiRankModel", "passNow", "(I)I"⟩, 15) := ⟨⟨by decide +kernel, by decide +kernel⟩, List.mem_of_getElem? (i := 577) (by decide +kernel), List.mem_of_getElem? (i := 769) (by decide +kernel), List.mem_of_getElem? (i := 770) (by decide +kernel)⟩
theorem lw_p44 : lw_okq (⟨"TaxiRankModel", "minute", "()V"⟩, 15) := ⟨⟨by decide +kernel, by decide +kernel⟩, List.mem_of_getElem? (i := 577) (by decide +kernel), List.mem_of_getElem? (i := 773) (by decide +kernel), List.mem_of_getElem? (i := 774) (by decide +kernel)⟩
theorem lw_p45 : lw_okq (⟨"TaxiRankModel", "end", "(I)V"⟩, 15) := ⟨⟨by decide +kernel, by decide +kernel⟩, List.mem_of_getElem? (i := 577) (by decide +kernel), List.mem_of_getElem? (i := 777) (by decide +kernel), List.mem_of_getElem? (i := 778) (by decide +kernel)⟩
theorem lw_p46 : lw_okq (⟨"TaxiRankModel", "bePaid", "(I)V"⟩, 15) := ⟨⟨by decide +kernel, by decide +kernel⟩, List.mem_of_getElem? (i := 577) (by decide +kernel), List.mem_of_getElem? (i := 781) (by decide +kernel), List.mem_of_getElem? (i := 782) (by decide +kernel)⟩
theorem lw_p47 : lw_okq (⟨"TaxiRankModel", "comeBack", "(I)V"⟩, 15) := ⟨⟨by decide +kernel, by decide +kernel⟩, List.mem_of_getElem? (i := 577) (by decide +kernel), List.mem_of_getElem? (i := 788) (by decide +kernel), List.mem_of_getElem? (i := 789) (by decide +kernel)⟩
def lw_privs_3 : List (MethodName × Nat) := [(⟨"TaxiRankModel", "whyNotCall", "(II)I"⟩, 15), (⟨"TaxiRankModel", "callee", "(I)I"⟩, 15), (⟨"TaxiRankModel", "needs", "(II)I"⟩, 15), (⟨"TaxiRankModel", "mayTake", "(I)Z"⟩, 15), (⟨"TaxiRankModel", "staysHome", "(I)Z"⟩, 15), (⟨"TaxiRankModel", "isTired", "(I)Z"⟩, 15), (⟨"TaxiRankModel", "callNow", "(II)I"⟩, 15), (⟨"TaxiRankModel", "takeFare", "(IIIZ)V"⟩, 15), (⟨"TaxiRankModel", "tally", "(II)V"⟩, 15), (⟨"TaxiRankModel", "ride", "(I)V"⟩, 15), (⟨"TaxiRankModel", "whyNotPass", "(I)I"⟩, 15), (⟨"TaxiRankModel", "passNow", "(I)I"⟩, 15), (⟨"TaxiRankModel", "minute", "()V"⟩, 15), (⟨"TaxiRankModel", "end", "(I)V"⟩, 15), (⟨"TaxiRankModel", "bePaid", "(I)V"⟩, 15), (⟨"TaxiRankModel", "comeBack", "(I)V"⟩, 15)]
theorem lw_r3 : ∀ q ∈ lw_privs_3, lw_okq q := List.forall_mem_cons.mpr ⟨lw_p32, List.forall_mem_cons.mpr ⟨lw_p33, List.forall_mem_cons.mpr ⟨lw_p34, List.forall_mem_cons.mpr ⟨lw_p35, List.forall_mem_cons.mpr ⟨lw_p36, List.forall_mem_cons.mpr ⟨lw_p37, List.forall_mem_cons.mpr ⟨lw_p38, List.forall_mem_cons.mpr ⟨lw_p39, List.forall_mem_cons.mpr ⟨lw_p40, List.forall_mem_cons.mpr ⟨lw_p41, List.forall_mem_cons.mpr ⟨lw_p42, List.forall_mem_cons.mpr ⟨lw_p43, List.forall_mem_cons.mpr ⟨lw_p44, List.forall_mem_cons.mpr ⟨lw_p45, List.forall_mem_cons.mpr ⟨lw_p46, List.forall_mem_cons.mpr ⟨lw_p47, fun _ h => absurd h List.not_mem_nil⟩⟩⟩⟩⟩⟩⟩⟩⟩⟩⟩⟩⟩⟩⟩⟩
theorem lw_p48 : lw_okq (⟨"TaxiRankModel", "quickOnes", "()I"⟩, 15) := ⟨⟨by decide +kernel, by decide +kernel⟩, List.mem_of_getElem? (i := 577) (by decide +kernel), List.mem_of_getElem? (i := 792) (by decide +kernel), List.mem_of_getElem? (i := 793) (by decide +kernel)⟩
theorem lw_p49 : lw_okq (⟨"TaxiRankModel", "waits", "(II)I"⟩, 15) := ⟨⟨by decide +kernel, by decide +kernel⟩, List.mem_of_getElem? (i := 577) (by decide +kernel), List.mem_of_getElem? (i := 796) (by decide +kernel), List.mem_of_getElem? (i := 797) (by decide +kernel)⟩
theorem lw_p50 : lw_okq (⟨"TaxiRankModel", "goes", "(I)V"⟩, 15) := ⟨⟨by decide +kernel, by decide +kernel⟩, List.mem_of_getElem? (i := 577) (by decide +kernel), List.mem_of_getElem? (i := 800) (by decide +kernel), List.mem_of_getElem? (i := 801) (by decide +kernel)⟩
theorem lw_p51 : lw_okq (⟨"TaxiRankModel", "riderTo", "(I)I"⟩, 15) := ⟨⟨by decide +kernel, by decide +kernel⟩, List.mem_of_getElem? (i := 577) (by decide +kernel), List.mem_of_getElem? (i := 804) (by decide +kernel), List.mem_of_getElem? (i := 805) (by decide +kernel)⟩
theorem lw_p52 : lw_okq (⟨"TaxiRankModel", "readText", "()Z"⟩, 15) := ⟨⟨by decide +kernel, by decide +kernel⟩, List.mem_of_getElem? (i := 577) (by decide +kernel), List.mem_of_getElem? (i := 820) (by decide +kernel), List.mem_of_getElem? (i := 821) (by decide +kernel)⟩
theorem lw_p53 : lw_okq (⟨"TaxiRankModel", "readOrder", "()Z"⟩, 15) := ⟨⟨by decide +kernel, by decide +kernel⟩, List.mem_of_getElem? (i := 577) (by decide +kernel), List.mem_of_getElem? (i := 824) (by decide +kernel), List.mem_of_getElem? (i := 825) (by decide +kernel)⟩
theorem lw_p54 : lw_okq (⟨"TaxiRankModel", "takes", "(I)Z"⟩, 15) := ⟨⟨by decide +kernel, by decide +kernel⟩, List.mem_of_getElem? (i := 577) (by decide +kernel), List.mem_of_getElem? (i := 828) (by decide +kernel), List.mem_of_getElem? (i := 829) (by decide +kernel)⟩
theorem lw_p55 : lw_okq (⟨"TaxiRankModel", "sees", "(II)Z"⟩, 15) := ⟨⟨by decide +kernel, by decide +kernel⟩, List.mem_of_getElem? (i := 577) (by decide +kernel), List.mem_of_getElem? (i := 832) (by decide +kernel), List.mem_of_getElem? (i := 833) (by decide +kernel)⟩
theorem lw_p56 : lw_okq (⟨"TaxiRankModel", "number", "(II)I"⟩, 15) := ⟨⟨by decide +kernel, by decide +kernel⟩, List.mem_of_getElem? (i := 577) (by decide +kernel), List.mem_of_getElem? (i := 836) (by decide +kernel), List.mem_of_getElem? (i := 837) (by decide +kernel)⟩
theorem lw_p57 : lw_okq (⟨"TaxiRankModel", "whyNotOrder", "(I)I"⟩, 15) := ⟨⟨by decide +kernel, by decide +kernel⟩, List.mem_of_getElem? (i := 577) (by decide +kernel), List.mem_of_getElem? (i := 840) (by decide +kernel), List.mem_of_getElem? (i := 841) (by decide +kernel)⟩
theorem lw_p58 : lw_okq (⟨"TaxiRankModel", "doOrder", "(I)V"⟩, 15) := ⟨⟨by decide +kernel, by decide +kernel⟩, List.mem_of_getElem? (i := 577) (by decide +kernel), List.mem_of_getElem? (i := 844) (by decide +kernel), List.mem_of_getElem? (i := 845) (by decide +kernel)⟩
def lw_privs_4 : List (MethodName × Nat) := [(⟨"TaxiRankModel", "quickOnes", "()I"⟩, 15), (⟨"TaxiRankModel", "waits", "(II)I"⟩, 15), (⟨"TaxiRankModel", "goes", "(I)V"⟩, 15), (⟨"TaxiRankModel", "riderTo", "(I)I"⟩, 15), (⟨"TaxiRankModel", "readText", "()Z"⟩, 15), (⟨"TaxiRankModel", "readOrder", "()Z"⟩, 15), (⟨"TaxiRankModel", "takes", "(I)Z"⟩, 15), (⟨"TaxiRankModel", "sees", "(II)Z"⟩, 15), (⟨"TaxiRankModel", "number", "(II)I"⟩, 15), (⟨"TaxiRankModel", "whyNotOrder", "(I)I"⟩, 15), (⟨"TaxiRankModel", "doOrder", "(I)V"⟩, 15)]
theorem lw_r4 : ∀ q ∈ lw_privs_4, lw_okq q := List.forall_mem_cons.mpr ⟨lw_p48, List.forall_mem_cons.mpr ⟨lw_p49, List.forall_mem_cons.mpr ⟨lw_p50, List.forall_mem_cons.mpr ⟨lw_p51, List.forall_mem_cons.mpr ⟨lw_p52, List.forall_mem_cons.mpr ⟨lw_p53, List.forall_mem_cons.mpr ⟨lw_p54, List.forall_mem_cons.mpr ⟨lw_p55, List.forall_mem_cons.mpr ⟨lw_p56, List.forall_mem_cons.mpr ⟨lw_p57, List.forall_mem_cons.mpr ⟨lw_p58, fun _ h => absurd h List.not_mem_nil⟩⟩⟩⟩⟩⟩⟩⟩⟩⟩⟩
def lw_privs : List (MethodName × Nat) := lw_privs_1 ++ (lw_privs_2 ++ (lw_privs_3 ++ (lw_privs_4)))
def lw_tbl : List Cond := k2_sels lw_privs ++ tables_1
theorem lw_privs_ok : ∀ q ∈ lw_privs, lw_okq q := by
  show ∀ q ∈ lw_privs_1 ++ (lw_privs_2 ++ (lw_privs_3 ++ (lw_privs_4))), lw_okq q
  exact List.forall_mem_append.mpr ⟨lw_r1, List.forall_mem_append.mpr ⟨lw_r2, List.forall_mem_append.mpr ⟨lw_r3, lw_r4⟩⟩⟩

def RX0 : String := "TaxiRank$History"
def TX0 : u_T := fun k => match k with
  | 0 => ("TaxiRank$History", "states", "[LTaxiRank$Town;", true)
  | _ => ("TaxiRank$History", "amount", "I", false)
def tyX0 : Nat → FieldType := fun k => match k with
  | 0 => .array (.object "TaxiRank$Town")
  | _ => .int
abbrev wsX00 : List Cond := u_ws RX0 TX0 2
theorem nmX0 : ∀ a, a < 2 → ∀ b, b < 2 → a ≠ b → (TX0 a).2.1 ≠ (TX0 b).2.1 := by decide +kernel
theorem tyX0_ok : ∀ k, k < 2 → parseFieldDescriptor (TX0 k).2.2.1 = some (tyX0 k) := by decide +kernel
abbrev cX0_init : ByteArray := prog_2_method_1_code
def yX0_init : MethodName := ⟨RX0, "<init>", "()V"⟩
abbrev cX0_store : ByteArray := prog_2_method_2_code
def yX0_store : MethodName := ⟨RX0, "store", "(LTaxiRank$Town;)V"⟩
abbrev cX0_takeLatest : ByteArray := prog_2_method_3_code
def yX0_takeLatest : MethodName := ⟨RX0, "takeLatest", "(LTaxiRank$Town;)V"⟩
abbrev cX0_dropOldest : ByteArray := prog_2_method_4_code
def yX0_dropOldest : MethodName := ⟨RX0, "dropOldest", "()V"⟩
def RX1 : String := "TaxiRank$Orders"
def TX1 : u_T := fun k => match k with
  | 0 => ("TaxiRank$Orders", "amount", "I", false)
  | 1 => ("TaxiRank$Orders", "signs", "[C", true)
  | 2 => ("TaxiRank$Orders", "firsts", "[I", true)
  | 3 => ("TaxiRank$Orders", "seconds", "[I", true)
  | 4 => ("TaxiRank$Orders", "characters", "[C", false)
  | 5 => ("TaxiRank$Orders", "length", "I", false)
  | _ => ("TaxiRank$Orders", "at", "I", false)
def tyX1 : Nat → FieldType := fun k => match k with
  | 0 => .int
  | 1 => .array .char
  | 2 => .array .int
  | 3 => .array .int
  | 4 => .array .char
  | 5 => .int
  | _ => .int
abbrev wsX10 : List Cond := u_ws RX1 TX1 7
theorem nmX1 : ∀ a, a < 7 → ∀ b, b < 7 → a ≠ b → (TX1 a).2.1 ≠ (TX1 b).2.1 := by decide +kernel
theorem tyX1_ok : ∀ k, k < 7 → parseFieldDescriptor (TX1 k).2.2.1 = some (tyX1 k) := by decide +kernel
abbrev cX1_init : ByteArray := prog_3_method_1_code
def yX1_init : MethodName := ⟨RX1, "<init>", "()V"⟩
abbrev cX1_read : ByteArray := prog_3_method_2_code
def yX1_read : MethodName := ⟨RX1, "read", "([CI)I"⟩
abbrev cX1_readOrder : ByteArray := prog_3_method_3_code
def yX1_readOrder : MethodName := ⟨RX1, "readOrder", "()Z"⟩
abbrev cX1_readNumber : ByteArray := prog_3_method_4_code
def yX1_readNumber : MethodName := ⟨RX1, "readNumber", "(II)I"⟩
abbrev cX1_digitHere : ByteArray := prog_3_method_5_code
def yX1_digitHere : MethodName := ⟨RX1, "digitHere", "()I"⟩
abbrev cX1_here : ByteArray := prog_3_method_6_code
def yX1_here : MethodName := ⟨RX1, "here", "()C"⟩
abbrev cX1_note : ByteArray := prog_3_method_7_code
def yX1_note : MethodName := ⟨RX1, "note", "(CII)V"⟩
def RX2 : String := "TaxiRank$Queue"
def TX2 : u_T := fun k => match k with
  | 0 => ("TaxiRank$Queue", "length", "I", false)
  | 1 => ("TaxiRank$Queue", "wants", "[I", true)
  | 2 => ("TaxiRank$Queue", "came", "[I", true)
  | 3 => ("TaxiRank$Queue", "numbers", "[I", true)
  | _ => ("TaxiRank$Queue", "nextNumber", "I", false)
def tyX2 : Nat → FieldType := fun k => match k with
  | 0 => .int
  | 1 => .array .int
  | 2 => .array .int
  | 3 => .array .int
  | _ => .int
abbrev wsX20 : List Cond := u_ws RX2 TX2 5
theorem nmX2 : ∀ a, a < 5 → ∀ b, b < 5 → a ≠ b → (TX2 a).2.1 ≠ (TX2 b).2.1 := by decide +kernel
theorem tyX2_ok : ∀ k, k < 5 → parseFieldDescriptor (TX2 k).2.2.1 = some (tyX2 k) := by decide +kernel
abbrev cX2_init : ByteArray := prog_4_method_1_code
def yX2_init : MethodName := ⟨RX2, "<init>", "()V"⟩
abbrev cX2_copyFrom : ByteArray := prog_4_method_2_code
def yX2_copyFrom : MethodName := ⟨RX2, "copyFrom", "(LTaxiRank$Queue;)V"⟩
abbrev cX2_join : ByteArray := prog_4_method_3_code
def yX2_join : MethodName := ⟨RX2, "join", "(II)V"⟩
abbrev cX2_removeAt : ByteArray := prog_4_method_4_code
def yX2_removeAt : MethodName := ⟨RX2, "removeAt", "(I)V"⟩
abbrev cX2_holds : ByteArray := prog_4_method_5_code
def yX2_holds : MethodName := ⟨RX2, "holds", "(I)Z"⟩
def RX3 : String := "TaxiRank$Taxi"
def TX3 : u_T := fun k => match k with
  | 0 => ("TaxiRank$Taxi", "plate", "I", false)
  | 1 => ("TaxiRank$Taxi", "doing", "I", false)
  | 2 => ("TaxiRank$Taxi", "left", "I", false)
  | 3 => ("TaxiRank$Taxi", "atWheel", "I", false)
  | 4 => ("TaxiRank$Taxi", "fares", "I", false)
  | 5 => ("TaxiRank$Taxi", "longFares", "I", false)
  | 6 => ("TaxiRank$Taxi", "coins", "I", false)
  | 7 => ("TaxiRank$Taxi", "quickReturns", "I", false)
  | 8 => ("TaxiRank$Taxi", "quick", "Z", false)
  | 9 => ("TaxiRank$Taxi", "shortOfRank", "Z", false)
  | 10 => ("TaxiRank$Taxi", "from", "I", false)
  | _ => ("TaxiRank$Taxi", "to", "I", false)
def tyX3 : Nat → FieldType := fun k => match k with
  | 0 => .int
  | 1 => .int
  | 2 => .int
  | 3 => .int
  | 4 => .int
  | 5 => .int
  | 6 => .int
  | 7 => .int
  | 8 => .boolean
  | 9 => .boolean
  | 10 => .int
  | _ => .int
abbrev wsX30 : List Cond := u_ws RX3 TX3 12
theorem nmX3 : ∀ a, a < 12 → ∀ b, b < 12 → a ≠ b → (TX3 a).2.1 ≠ (TX3 b).2.1 := by decide +kernel
theorem tyX3_ok : ∀ k, k < 12 → parseFieldDescriptor (TX3 k).2.2.1 = some (tyX3 k) := by decide +kernel
abbrev cX3_init : ByteArray := prog_5_method_1_code
def yX3_init : MethodName := ⟨RX3, "<init>", "()V"⟩
abbrev cX3_copyFrom : ByteArray := prog_5_method_2_code
def yX3_copyFrom : MethodName := ⟨RX3, "copyFrom", "(LTaxiRank$Taxi;)V"⟩
abbrev cX3_isAtWheel : ByteArray := prog_5_method_3_code
def yX3_isAtWheel : MethodName := ⟨RX3, "isAtWheel", "()Z"⟩
abbrev cX3_begin : ByteArray := prog_5_method_4_code
def yX3_begin : MethodName := ⟨RX3, "begin", "(II)V"⟩
def RX4 : String := "TaxiRank$Town"
def TX4 : u_T := fun k => match k with
  | 0 => ("TaxiRank$Town", "taxis", "[LTaxiRank$Taxi;", true)
  | 1 => ("TaxiRank$Town", "taxiCount", "I", false)
  | 2 => ("TaxiRank$Town", "inLine", "[I", true)
  | 3 => ("TaxiRank$Town", "lineLength", "I", false)
  | 4 => ("TaxiRank$Town", "queue", "LTaxiRank$Queue;", true)
  | 5 => ("TaxiRank$Town", "settings", "[I", true)
  | 6 => ("TaxiRank$Town", "clock", "I", false)
  | 7 => ("TaxiRank$Town", "taken", "I", false)
  | 8 => ("TaxiRank$Town", "gone", "I", false)
  | 9 => ("TaxiRank$Town", "calls", "I", false)
  | 10 => ("TaxiRank$Town", "paid", "I", false)
  | _ => ("TaxiRank$Town", "minutesAtWheel", "I", false)
def tyX4 : Nat → FieldType := fun k => match k with
  | 0 => .array (.object "TaxiRank$Taxi")
  | 1 => .int
  | 2 => .array .int
  | 3 => .int
  | 4 => .object "TaxiRank$Queue"
  | 5 => .array .int
  | 6 => .int
  | 7 => .int
  | 8 => .int
  | 9 => .int
  | 10 => .int
  | _ => .int
abbrev wsX40 : List Cond := u_ws RX4 TX4 12
theorem nmX4 : ∀ a, a < 12 → ∀ b, b < 12 → a ≠ b → (TX4 a).2.1 ≠ (TX4 b).2.1 := by decide +kernel
theorem tyX4_ok : ∀ k, k < 12 → parseFieldDescriptor (TX4 k).2.2.1 = some (tyX4 k) := by decide +kernel
abbrev cX4_init : ByteArray := prog_6_method_1_code
def yX4_init : MethodName := ⟨RX4, "<init>", "()V"⟩
abbrev cX4_copyFrom : ByteArray := prog_6_method_2_code
def yX4_copyFrom : MethodName := ⟨RX4, "copyFrom", "(LTaxiRank$Town;)V"⟩
abbrev cX4_isPlace : ByteArray := prog_6_method_3_code
def yX4_isPlace : MethodName := ⟨RX4, "isPlace", "(I)Z"⟩
abbrev cX4_isSetting : ByteArray := prog_6_method_4_code
def yX4_isSetting : MethodName := ⟨RX4, "isSetting", "(I)Z"⟩
abbrev cX4_fareFor : ByteArray := prog_6_method_5_code
def yX4_fareFor : MethodName := ⟨RX4, "fareFor", "(II)I"⟩
abbrev cX4_welcome : ByteArray := prog_6_method_6_code
def yX4_welcome : MethodName := ⟨RX4, "welcome", "(I)I"⟩
abbrev cX4_sendHome : ByteArray := prog_6_method_7_code
def yX4_sendHome : MethodName := ⟨RX4, "sendHome", "(I)I"⟩
abbrev cX4_change : ByteArray := prog_6_method_8_code
def yX4_change : MethodName := ⟨RX4, "change", "(II)I"⟩
abbrev cX4_letJoin : ByteArray := prog_6_method_9_code
def yX4_letJoin : MethodName := ⟨RX4, "letJoin", "(I)I"⟩
abbrev cX4_takeCall : ByteArray := prog_6_method_10_code
def yX4_takeCall : MethodName := ⟨RX4, "takeCall", "(II)I"⟩
abbrev cX4_letPass : ByteArray := prog_6_method_11_code
def yX4_letPass : MethodName := ⟨RX4, "letPass", "(I)I"⟩
abbrev cX4_find : ByteArray := prog_6_method_12_code
def yX4_find : MethodName := ⟨RX4, "find", "(I)LTaxiRank$Taxi;"⟩
abbrev cX4_placeOf : ByteArray := prog_6_method_13_code
def yX4_placeOf : MethodName := ⟨RX4, "placeOf", "(LTaxiRank$Taxi;)I"⟩
abbrev cX4_staysHomeToday : ByteArray := prog_6_method_14_code
def yX4_staysHomeToday : MethodName := ⟨RX4, "staysHomeToday", "(LTaxiRank$Taxi;)Z"⟩
abbrev cX4_wasLongAtWheel : ByteArray := prog_6_method_15_code
def yX4_wasLongAtWheel : MethodName := ⟨RX4, "wasLongAtWheel", "(LTaxiRank$Taxi;)Z"⟩
abbrev cX4_mayTakeFare : ByteArray := prog_6_method_16_code
def yX4_mayTakeFare : MethodName := ⟨RX4, "mayTakeFare", "(LTaxiRank$Taxi;)Z"⟩
abbrev cX4_isLong : ByteArray := prog_6_method_17_code
def yX4_isLong : MethodName := ⟨RX4, "isLong", "(II)Z"⟩
abbrev cX4_taxiForRide : ByteArray := prog_6_method_18_code
def yX4_taxiForRide : MethodName := ⟨RX4, "taxiForRide", "(I)LTaxiRank$Taxi;"⟩
abbrev cX4_taxiForCall : ByteArray := prog_6_method_19_code
def yX4_taxiForCall : MethodName := ⟨RX4, "taxiForCall", "(I)LTaxiRank$Taxi;"⟩
abbrev cX4_nearer : ByteArray := prog_6_method_20_code
def yX4_nearer : MethodName := ⟨RX4, "nearer", "(LTaxiRank$Taxi;LTaxiRank$Taxi;I)LTaxiRank$Taxi;"⟩
abbrev cX4_minutesTo : ByteArray := prog_6_method_21_code
def yX4_minutesTo : MethodName := ⟨RX4, "minutesTo", "(LTaxiRank$Taxi;I)I"⟩
abbrev cX4_minutesUntilRide : ByteArray := prog_6_method_22_code
def yX4_minutesUntilRide : MethodName := ⟨RX4, "minutesUntilRide", "(I)I"⟩
abbrev cX4_minutesUntilInLine : ByteArray := prog_6_method_23_code
def yX4_minutesUntilInLine : MethodName := ⟨RX4, "minutesUntilInLine", "(LTaxiRank$Taxi;)I"⟩
abbrev cX4_minute : ByteArray := prog_6_method_24_code
def yX4_minute : MethodName := ⟨RX4, "minute", "()V"⟩
abbrev cX4_goOn : ByteArray := prog_6_method_25_code
def yX4_goOn : MethodName := ⟨RX4, "goOn", "(LTaxiRank$Taxi;)V"⟩
abbrev cX4_dismissImpatient : ByteArray := prog_6_method_26_code
def yX4_dismissImpatient : MethodName := ⟨RX4, "dismissImpatient", "()V"⟩
abbrev cX4_seatPassengers : ByteArray := prog_6_method_27_code
def yX4_seatPassengers : MethodName := ⟨RX4, "seatPassengers", "()V"⟩
abbrev cX4_acceptFare : ByteArray := prog_6_method_28_code
def yX4_acceptFare : MethodName := ⟨RX4, "acceptFare", "(LTaxiRank$Taxi;II)V"⟩
abbrev cX4_startRide : ByteArray := prog_6_method_29_code
def yX4_startRide : MethodName := ⟨RX4, "startRide", "(LTaxiRank$Taxi;)V"⟩
abbrev cX4_payFare : ByteArray := prog_6_method_30_code
def yX4_payFare : MethodName := ⟨RX4, "payFare", "(LTaxiRank$Taxi;)V"⟩
abbrev cX4_comeBack : ByteArray := prog_6_method_31_code
def yX4_comeBack : MethodName := ⟨RX4, "comeBack", "(LTaxiRank$Taxi;)V"⟩
abbrev cX4_standLast : ByteArray := prog_6_method_32_code
def yX4_standLast : MethodName := ⟨RX4, "standLast", "(LTaxiRank$Taxi;)V"⟩
abbrev cX4_standQuickly : ByteArray := prog_6_method_33_code
def yX4_standQuickly : MethodName := ⟨RX4, "standQuickly", "(LTaxiRank$Taxi;)V"⟩
abbrev cX4_standAt : ByteArray := prog_6_method_34_code
def yX4_standAt : MethodName := ⟨RX4, "standAt", "(LTaxiRank$Taxi;IZ)V"⟩
abbrev cX4_leaveLine : ByteArray := prog_6_method_35_code
def yX4_leaveLine : MethodName := ⟨RX4, "leaveLine", "(LTaxiRank$Taxi;)V"⟩
abbrev cX4_register : ByteArray := prog_6_method_36_code
def yX4_register : MethodName := ⟨RX4, "register", "(I)LTaxiRank$Taxi;"⟩
def RX5 : String := "TaxiRank"
def TX5 : u_T := fun k => match k with
  | 0 => ("TaxiRank", "town", "LTaxiRank$Town;", true)
  | 1 => ("TaxiRank", "spare", "LTaxiRank$Town;", true)
  | 2 => ("TaxiRank", "snapshot", "LTaxiRank$Town;", true)
  | 3 => ("TaxiRank", "hasSnapshot", "Z", false)
  | 4 => ("TaxiRank", "history", "LTaxiRank$History;", true)
  | 5 => ("TaxiRank", "text", "[C", true)
  | 6 => ("TaxiRank", "textLength", "I", false)
  | 7 => ("TaxiRank", "orders", "LTaxiRank$Orders;", true)
  | 8 => ("TaxiRank", "stoppedOrder", "I", false)
  | _ => ("TaxiRank", "stoppedError", "I", false)
def tyX5 : Nat → FieldType := fun k => match k with
  | 0 => .object "TaxiRank$Town"
  | 1 => .object "TaxiRank$Town"
  | 2 => .object "TaxiRank$Town"
  | 3 => .boolean
  | 4 => .object "TaxiRank$History"
  | 5 => .array .char
  | 6 => .int
  | 7 => .object "TaxiRank$Orders"
  | 8 => .int
  | _ => .int
abbrev wsX50 : List Cond := u_ws RX5 TX5 10
theorem nmX5 : ∀ a, a < 10 → ∀ b, b < 10 → a ≠ b → (TX5 a).2.1 ≠ (TX5 b).2.1 := by decide +kernel
theorem tyX5_ok : ∀ k, k < 10 → parseFieldDescriptor (TX5 k).2.2.1 = some (tyX5 k) := by decide +kernel
abbrev cX5_init : ByteArray := prog_1_method_1_code
def yX5_init : MethodName := ⟨RX5, "<init>", "()V"⟩
abbrev cX5_come : ByteArray := prog_1_method_2_code
def yX5_come : MethodName := ⟨RX5, "come", "(I)I"⟩
abbrev cX5_goHome : ByteArray := prog_1_method_3_code
def yX5_goHome : MethodName := ⟨RX5, "goHome", "(I)I"⟩
abbrev cX5_set : ByteArray := prog_1_method_4_code
def yX5_set : MethodName := ⟨RX5, "set", "(II)I"⟩
abbrev cX5_arrive : ByteArray := prog_1_method_5_code
def yX5_arrive : MethodName := ⟨RX5, "arrive", "(I)I"⟩
abbrev cX5_call : ByteArray := prog_1_method_6_code
def yX5_call : MethodName := ⟨RX5, "call", "(II)I"⟩
abbrev cX5_pass : ByteArray := prog_1_method_7_code
def yX5_pass : MethodName := ⟨RX5, "pass", "(I)I"⟩
abbrev cX5_type : ByteArray := prog_1_method_8_code
def yX5_type : MethodName := ⟨RX5, "type", "(C)I"⟩
abbrev cX5_clearText : ByteArray := prog_1_method_9_code
def yX5_clearText : MethodName := ⟨RX5, "clearText", "()I"⟩
abbrev cX5_perform : ByteArray := prog_1_method_10_code
def yX5_perform : MethodName := ⟨RX5, "perform", "()I"⟩
abbrev cX5_stopped : ByteArray := prog_1_method_11_code
def yX5_stopped : MethodName := ⟨RX5, "stopped", "(I)I"⟩
abbrev cX5_undo : ByteArray := prog_1_method_12_code
def yX5_undo : MethodName := ⟨RX5, "undo", "()I"⟩
abbrev cX5_keep : ByteArray := prog_1_method_13_code
def yX5_keep : MethodName := ⟨RX5, "keep", "()I"⟩
abbrev cX5_restore : ByteArray := prog_1_method_14_code
def yX5_restore : MethodName := ⟨RX5, "restore", "()I"⟩
abbrev cX5_taxi : ByteArray := prog_1_method_15_code
def yX5_taxi : MethodName := ⟨RX5, "taxi", "(II)I"⟩
abbrev cX5_line : ByteArray := prog_1_method_16_code
def yX5_line : MethodName := ⟨RX5, "line", "(I)I"⟩
abbrev cX5_plate : ByteArray := prog_1_method_17_code
def yX5_plate : MethodName := ⟨RX5, "plate", "(I)I"⟩
abbrev cX5_waiting : ByteArray := prog_1_method_18_code
def yX5_waiting : MethodName := ⟨RX5, "waiting", "(II)I"⟩
abbrev cX5_rides : ByteArray := prog_1_method_19_code
def yX5_rides : MethodName := ⟨RX5, "rides", "(I)I"⟩
abbrev cX5_ifCalled : ByteArray := prog_1_method_20_code
def yX5_ifCalled : MethodName := ⟨RX5, "ifCalled", "(III)I"⟩
abbrev cX5_reason : ByteArray := prog_1_method_21_code
def yX5_reason : MethodName := ⟨RX5, "reason", "(II)I"⟩
abbrev cX5_ridesIn : ByteArray := prog_1_method_22_code
def yX5_ridesIn : MethodName := ⟨RX5, "ridesIn", "(I)I"⟩
abbrev cX5_inLineIn : ByteArray := prog_1_method_23_code
def yX5_inLineIn : MethodName := ⟨RX5, "inLineIn", "(I)I"⟩
abbrev cX5_shares : ByteArray := prog_1_method_24_code
def yX5_shares : MethodName := ⟨RX5, "shares", "(I)I"⟩
abbrev cX5_count : ByteArray := prog_1_method_25_code
def yX5_count : MethodName := ⟨RX5, "count", "(I)I"⟩
abbrev cX5_recorded : ByteArray := prog_1_method_26_code
def yX5_recorded : MethodName := ⟨RX5, "recorded", "(I)I"⟩
def RX6 : String := "TaxiRankModel"
def TX6 : u_T := fun k => match k with
  | 0 => ("TaxiRankModel", "z", "[I", true)
  | 1 => ("TaxiRankModel", "spare", "[I", true)
  | 2 => ("TaxiRankModel", "past", "[I", true)
  | 3 => ("TaxiRankModel", "states", "I", false)
  | 4 => ("TaxiRankModel", "kept", "[I", true)
  | 5 => ("TaxiRankModel", "isKept", "Z", false)
  | 6 => ("TaxiRankModel", "text", "[I", true)
  | 7 => ("TaxiRankModel", "length", "I", false)
  | 8 => ("TaxiRankModel", "stopNumber", "I", false)
  | 9 => ("TaxiRankModel", "stopError", "I", false)
  | 10 => ("TaxiRankModel", "sought", "I", false)
  | 11 => ("TaxiRankModel", "hasRidden", "Z", false)
  | 12 => ("TaxiRankModel", "told", "[I", true)
  | 13 => ("TaxiRankModel", "toldMany", "I", false)
  | _ => ("TaxiRankModel", "spot", "I", false)
def tyX6 : Nat → FieldType := fun k => match k with
  | 0 => .array .int
  | 1 => .array .int
  | 2 => .array .int
  | 3 => .int
  | 4 => .array .int
  | 5 => .boolean
  | 6 => .array .int
  | 7 => .int
  | 8 => .int
  | 9 => .int
  | 10 => .int
  | 11 => .boolean
  | 12 => .array .int
  | 13 => .int
  | _ => .int
abbrev wsX60 : List Cond := u_ws RX6 TX6 15
theorem nmX6 : ∀ a, a < 15 → ∀ b, b < 15 → a ≠ b → (TX6 a).2.1 ≠ (TX6 b).2.1 := by decide +kernel
theorem tyX6_ok : ∀ k, k < 15 → parseFieldDescriptor (TX6 k).2.2.1 = some (tyX6 k) := by decide +kernel
abbrev cX6_init : ByteArray := prog_8_method_1_code
def yX6_init : MethodName := ⟨RX6, "<init>", "()V"⟩
abbrev cX6_in : ByteArray := prog_8_method_2_code
def yX6_in : MethodName := ⟨RX6, "in", "(III)Z"⟩
abbrev cX6_size : ByteArray := prog_8_method_3_code
def yX6_size : MethodName := ⟨RX6, "size", "(I)I"⟩
abbrev cX6_isPlace : ByteArray := prog_8_method_4_code
def yX6_isPlace : MethodName := ⟨RX6, "isPlace", "(I)Z"⟩
abbrev cX6_of : ByteArray := prog_8_method_5_code
def yX6_of : MethodName := ⟨RX6, "of", "(II)I"⟩
abbrev cX6_lay : ByteArray := prog_8_method_6_code
def yX6_lay : MethodName := ⟨RX6, "lay", "(III)V"⟩
abbrev cX6_tally : ByteArray := prog_8_method_7_code
def yX6_tally : MethodName := ⟨RX6, "tally", "(II)V"⟩
abbrev cX6_taxiWith : ByteArray := prog_8_method_8_code
def yX6_taxiWith : MethodName := ⟨RX6, "taxiWith", "(I)I"⟩
abbrev cX6_copyState : ByteArray := prog_8_method_9_code
def yX6_copyState : MethodName := ⟨RX6, "copyState", "([II[II)V"⟩
abbrev cX6_recordRow : ByteArray := prog_8_method_10_code
def yX6_recordRow : MethodName := ⟨RX6, "recordRow", "([I)V"⟩
abbrev cX6_record : ByteArray := prog_8_method_11_code
def yX6_record : MethodName := ⟨RX6, "record", "()V"⟩
abbrev cX6_undo : ByteArray := prog_8_method_12_code
def yX6_undo : MethodName := ⟨RX6, "undo", "()I"⟩
abbrev cX6_keep : ByteArray := prog_8_method_13_code
def yX6_keep : MethodName := ⟨RX6, "keep", "()I"⟩
abbrev cX6_restore : ByteArray := prog_8_method_14_code
def yX6_restore : MethodName := ⟨RX6, "restore", "()I"⟩
abbrev cX6_placeInLine : ByteArray := prog_8_method_15_code
def yX6_placeInLine : MethodName := ⟨RX6, "placeInLine", "(I)I"⟩
abbrev cX6_standAt : ByteArray := prog_8_method_16_code
def yX6_standAt : MethodName := ⟨RX6, "standAt", "(II)V"⟩
abbrev cX6_leaveLine : ByteArray := prog_8_method_17_code
def yX6_leaveLine : MethodName := ⟨RX6, "leaveLine", "(I)V"⟩
abbrev cX6_quickOnes : ByteArray := prog_8_method_18_code
def yX6_quickOnes : MethodName := ⟨RX6, "quickOnes", "()I"⟩
abbrev cX6_staysHome : ByteArray := prog_8_method_19_code
def yX6_staysHome : MethodName := ⟨RX6, "staysHome", "(I)Z"⟩
abbrev cX6_isTired : ByteArray := prog_8_method_20_code
def yX6_isTired : MethodName := ⟨RX6, "isTired", "(I)Z"⟩
abbrev cX6_mayTake : ByteArray := prog_8_method_21_code
def yX6_mayTake : MethodName := ⟨RX6, "mayTake", "(I)Z"⟩
abbrev cX6_riderTo : ByteArray := prog_8_method_22_code
def yX6_riderTo : MethodName := ⟨RX6, "riderTo", "(I)I"⟩
abbrev cX6_takeFare : ByteArray := prog_8_method_23_code
def yX6_takeFare : MethodName := ⟨RX6, "takeFare", "(IIIZ)V"⟩
abbrev cX6_begin : ByteArray := prog_8_method_24_code
def yX6_begin : MethodName := ⟨RX6, "begin", "(III)V"⟩
abbrev cX6_ride : ByteArray := prog_8_method_25_code
def yX6_ride : MethodName := ⟨RX6, "ride", "(I)V"⟩
abbrev cX6_fare : ByteArray := prog_8_method_26_code
def yX6_fare : MethodName := ⟨RX6, "fare", "(II)I"⟩
abbrev cX6_comeBack : ByteArray := prog_8_method_27_code
def yX6_comeBack : MethodName := ⟨RX6, "comeBack", "(I)V"⟩
abbrev cX6_bePaid : ByteArray := prog_8_method_28_code
def yX6_bePaid : MethodName := ⟨RX6, "bePaid", "(I)V"⟩
abbrev cX6_end : ByteArray := prog_8_method_29_code
def yX6_end : MethodName := ⟨RX6, "end", "(I)V"⟩
abbrev cX6_waits : ByteArray := prog_8_method_30_code
def yX6_waits : MethodName := ⟨RX6, "waits", "(II)I"⟩
abbrev cX6_goes : ByteArray := prog_8_method_31_code
def yX6_goes : MethodName := ⟨RX6, "goes", "(I)V"⟩
abbrev cX6_minute : ByteArray := prog_8_method_32_code
def yX6_minute : MethodName := ⟨RX6, "minute", "()V"⟩
abbrev cX6_come : ByteArray := prog_8_method_33_code
def yX6_come : MethodName := ⟨RX6, "come", "(I)I"⟩
abbrev cX6_goHome : ByteArray := prog_8_method_34_code
def yX6_goHome : MethodName := ⟨RX6, "goHome", "(I)I"⟩
abbrev cX6_isValue : ByteArray := prog_8_method_35_code
def yX6_isValue : MethodName := ⟨RX6, "isValue", "(II)Z"⟩
abbrev cX6_set : ByteArray := prog_8_method_36_code
def yX6_set : MethodName := ⟨RX6, "set", "(II)I"⟩
abbrev cX6_whyNotArrive : ByteArray := prog_8_method_37_code
def yX6_whyNotArrive : MethodName := ⟨RX6, "whyNotArrive", "(I)I"⟩
abbrev cX6_arriveNow : ByteArray := prog_8_method_38_code
def yX6_arriveNow : MethodName := ⟨RX6, "arriveNow", "(I)I"⟩
abbrev cX6_arrive : ByteArray := prog_8_method_39_code
def yX6_arrive : MethodName := ⟨RX6, "arrive", "(I)I"⟩
abbrev cX6_needs : ByteArray := prog_8_method_40_code
def yX6_needs : MethodName := ⟨RX6, "needs", "(II)I"⟩
abbrev cX6_callee : ByteArray := prog_8_method_41_code
def yX6_callee : MethodName := ⟨RX6, "callee", "(I)I"⟩
abbrev cX6_whyNotCall : ByteArray := prog_8_method_42_code
def yX6_whyNotCall : MethodName := ⟨RX6, "whyNotCall", "(II)I"⟩
abbrev cX6_callNow : ByteArray := prog_8_method_43_code
def yX6_callNow : MethodName := ⟨RX6, "callNow", "(II)I"⟩
abbrev cX6_call : ByteArray := prog_8_method_44_code
def yX6_call : MethodName := ⟨RX6, "call", "(II)I"⟩
abbrev cX6_whyNotPass : ByteArray := prog_8_method_45_code
def yX6_whyNotPass : MethodName := ⟨RX6, "whyNotPass", "(I)I"⟩
abbrev cX6_passNow : ByteArray := prog_8_method_46_code
def yX6_passNow : MethodName := ⟨RX6, "passNow", "(I)I"⟩
abbrev cX6_pass : ByteArray := prog_8_method_47_code
def yX6_pass : MethodName := ⟨RX6, "pass", "(I)I"⟩
abbrev cX6_type : ByteArray := prog_8_method_48_code
def yX6_type : MethodName := ⟨RX6, "type", "(C)I"⟩
abbrev cX6_clearText : ByteArray := prog_8_method_49_code
def yX6_clearText : MethodName := ⟨RX6, "clearText", "()I"⟩
abbrev cX6_sees : ByteArray := prog_8_method_50_code
def yX6_sees : MethodName := ⟨RX6, "sees", "(II)Z"⟩
abbrev cX6_takes : ByteArray := prog_8_method_51_code
def yX6_takes : MethodName := ⟨RX6, "takes", "(I)Z"⟩
abbrev cX6_number : ByteArray := prog_8_method_52_code
def yX6_number : MethodName := ⟨RX6, "number", "(II)I"⟩
abbrev cX6_readOrder : ByteArray := prog_8_method_53_code
def yX6_readOrder : MethodName := ⟨RX6, "readOrder", "()Z"⟩
abbrev cX6_readText : ByteArray := prog_8_method_54_code
def yX6_readText : MethodName := ⟨RX6, "readText", "()Z"⟩
abbrev cX6_whyNotOrder : ByteArray := prog_8_method_55_code
def yX6_whyNotOrder : MethodName := ⟨RX6, "whyNotOrder", "(I)I"⟩
abbrev cX6_doOrder : ByteArray := prog_8_method_56_code
def yX6_doOrder : MethodName := ⟨RX6, "doOrder", "(I)V"⟩
abbrev cX6_perform : ByteArray := prog_8_method_57_code
def yX6_perform : MethodName := ⟨RX6, "perform", "()I"⟩
abbrev cX6_stopped : ByteArray := prog_8_method_58_code
def yX6_stopped : MethodName := ⟨RX6, "stopped", "(I)I"⟩
abbrev cX6_taxi : ByteArray := prog_8_method_59_code
def yX6_taxi : MethodName := ⟨RX6, "taxi", "(II)I"⟩
abbrev cX6_line : ByteArray := prog_8_method_60_code
def yX6_line : MethodName := ⟨RX6, "line", "(I)I"⟩
abbrev cX6_plate : ByteArray := prog_8_method_61_code
def yX6_plate : MethodName := ⟨RX6, "plate", "(I)I"⟩
abbrev cX6_waiting : ByteArray := prog_8_method_62_code
def yX6_waiting : MethodName := ⟨RX6, "waiting", "(II)I"⟩
abbrev cX6_rides : ByteArray := prog_8_method_63_code
def yX6_rides : MethodName := ⟨RX6, "rides", "(I)I"⟩
abbrev cX6_ifCalled : ByteArray := prog_8_method_64_code
def yX6_ifCalled : MethodName := ⟨RX6, "ifCalled", "(III)I"⟩
abbrev cX6_reason : ByteArray := prog_8_method_65_code
def yX6_reason : MethodName := ⟨RX6, "reason", "(II)I"⟩
abbrev cX6_ridesIn : ByteArray := prog_8_method_66_code
def yX6_ridesIn : MethodName := ⟨RX6, "ridesIn", "(I)I"⟩
abbrev cX6_inLineIn : ByteArray := prog_8_method_67_code
def yX6_inLineIn : MethodName := ⟨RX6, "inLineIn", "(I)I"⟩
abbrev cX6_shares : ByteArray := prog_8_method_68_code
def yX6_shares : MethodName := ⟨RX6, "shares", "(I)I"⟩
abbrev cX6_count : ByteArray := prog_8_method_69_code
def yX6_count : MethodName := ⟨RX6, "count", "(I)I"⟩
def RJ9 : String := "java/lang/Math"
def TJ9 : u_T := fun k => match k with
  | _ => ("", "", "", false)
def tyJ9 : Nat → FieldType := fun k => match k with
  | _ => .int
abbrev wsJ90 : List Cond := u_ws RJ9 TJ9 0
theorem nmJ9 : ∀ a, a < 0 → ∀ b, b < 0 → a ≠ b → (TJ9 a).2.1 ≠ (TJ9 b).2.1 := by decide +kernel
theorem tyJ9_ok : ∀ k, k < 0 → parseFieldDescriptor (TJ9 k).2.2.1 = some (tyJ9 k) := by decide +kernel
abbrev cJ9_abs_0f7a4 : ByteArray := prog_9_method_59_code
def yJ9_abs_0f7a4 : MethodName := ⟨RJ9, "abs", "(I)I"⟩
def RJ10 : String := "java/lang/System"
def TJ10 : u_T := fun k => match k with
  | _ => ("", "", "", false)
def tyJ10 : Nat → FieldType := fun k => match k with
  | _ => .int
abbrev wsJ100 : List Cond := u_ws RJ10 TJ10 0
theorem nmJ10 : ∀ a, a < 0 → ∀ b, b < 0 → a ≠ b → (TJ10 a).2.1 ≠ (TJ10 b).2.1 := by decide +kernel
theorem tyJ10_ok : ∀ k, k < 0 → parseFieldDescriptor (TJ10 k).2.2.1 = some (tyJ10 k) := by decide +kernel
def RL : String := "TaxiRankLaw"
abbrev cL_law : ByteArray := code
def yL_law : MethodName := ⟨RL, "law", "([I)Z"⟩
abbrev vwCl : List vw_C := [(RX0, TX0, 2), (RX1, TX1, 7), (RX2, TX2, 5), (RX3, TX3, 12), (RX4, TX4, 12), (RX5, TX5, 10), (RX6, TX6, 15)]
