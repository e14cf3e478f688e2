-- ===== PART A: goes FIRST, ahead of the names: the tables' words, and 'selects' of the private methods out of them =====
/-- a private method of a class that the tables say can be made, by its rows of tables_1 -/
noncomputable def lw_okq (q : MethodName × Nat) : Prop := (q.1.cls ≠ "java/lang/invoke/MethodHandle" ∧ q.1.cls ≠ "java/lang/invoke/VarHandle") ∧ Cond.instantiable q.1.cls q.2 ∈ tables_1 ∧ Cond.privateMethod q.1 ∈ tables_1 ∧ Cond.instanceMethod q.1 ∈ tables_1
theorem lw_p0 : lw_okq (⟨"LargerPacket", "find", "(I)I"⟩, 17) := ⟨⟨by decide +kernel, by decide +kernel⟩, List.mem_of_getElem? (i := 15) (by decide +kernel), List.mem_of_getElem? (i := 255) (by decide +kernel), List.mem_of_getElem? (i := 256) (by decide +kernel)⟩
theorem lw_p1 : lw_okq (⟨"LargerPacket$Reader", "begin", "(LLargerPacket$Rows;I)V"⟩, 5) := ⟨⟨by decide +kernel, by decide +kernel⟩, List.mem_of_getElem? (i := 42) (by decide +kernel), List.mem_of_getElem? (i := 339) (by decide +kernel), List.mem_of_getElem? (i := 340) (by decide +kernel)⟩
theorem lw_p2 : lw_okq (⟨"LargerPacket$Reader", "skipBlanks", "()V"⟩, 5) := ⟨⟨by decide +kernel, by decide +kernel⟩, List.mem_of_getElem? (i := 42) (by decide +kernel), List.mem_of_getElem? (i := 345) (by decide +kernel), List.mem_of_getElem? (i := 346) (by decide +kernel)⟩
theorem lw_p3 : lw_okq (⟨"LargerPacket$Reader", "readNeeds", "()V"⟩, 5) := ⟨⟨by decide +kernel, by decide +kernel⟩, List.mem_of_getElem? (i := 42) (by decide +kernel), List.mem_of_getElem? (i := 349) (by decide +kernel), List.mem_of_getElem? (i := 350) (by decide +kernel)⟩
theorem lw_p4 : lw_okq (⟨"LargerPacket$Reader", "goesOn", "()Z"⟩, 5) := ⟨⟨by decide +kernel, by decide +kernel⟩, List.mem_of_getElem? (i := 42) (by decide +kernel), List.mem_of_getElem? (i := 353) (by decide +kernel), List.mem_of_getElem? (i := 354) (by decide +kernel)⟩
theorem lw_p5 : lw_okq (⟨"LargerPacket$Reader", "readFigure", "(I)I"⟩, 5) := ⟨⟨by decide +kernel, by decide +kernel⟩, List.mem_of_getElem? (i := 42) (by decide +kernel), List.mem_of_getElem? (i := 357) (by decide +kernel), List.mem_of_getElem? (i := 358) (by decide +kernel)⟩
theorem lw_p6 : lw_okq (⟨"LargerPacket$Reader", "faultHere", "()V"⟩, 5) := ⟨⟨by decide +kernel, by decide +kernel⟩, List.mem_of_getElem? (i := 42) (by decide +kernel), List.mem_of_getElem? (i := 361) (by decide +kernel), List.mem_of_getElem? (i := 362) (by decide +kernel)⟩
theorem lw_p7 : lw_okq (⟨"LargerPacket$Reader", "readTwoFigures", "()I"⟩, 5) := ⟨⟨by decide +kernel, by decide +kernel⟩, List.mem_of_getElem? (i := 42) (by decide +kernel), List.mem_of_getElem? (i := 365) (by decide +kernel), List.mem_of_getElem? (i := 366) (by decide +kernel)⟩
theorem lw_p8 : lw_okq (⟨"LargerPacket$Reader", "readPacket", "()V"⟩, 5) := ⟨⟨by decide +kernel, by decide +kernel⟩, List.mem_of_getElem? (i := 42) (by decide +kernel), List.mem_of_getElem? (i := 369) (by decide +kernel), List.mem_of_getElem? (i := 370) (by decide +kernel)⟩
theorem lw_p9 : lw_okq (⟨"LargerPacket$Reader", "readKind", "()I"⟩, 5) := ⟨⟨by decide +kernel, by decide +kernel⟩, List.mem_of_getElem? (i := 42) (by decide +kernel), List.mem_of_getElem? (i := 373) (by decide +kernel), List.mem_of_getElem? (i := 374) (by decide +kernel)⟩
theorem lw_p10 : lw_okq (⟨"LargerPacket$House", "takeStanding", "(LLargerPacket$House;)V"⟩, 16) := ⟨⟨by decide +kernel, by decide +kernel⟩, List.mem_of_getElem? (i := 48) (by decide +kernel), List.mem_of_getElem? (i := 391) (by decide +kernel), List.mem_of_getElem? (i := 392) (by decide +kernel)⟩
theorem lw_p11 : lw_okq (⟨"LargerPacket$House", "bringHome", "(II)I"⟩, 16) := ⟨⟨by decide +kernel, by decide +kernel⟩, List.mem_of_getElem? (i := 48) (by decide +kernel), List.mem_of_getElem? (i := 482) (by decide +kernel), List.mem_of_getElem? (i := 483) (by decide +kernel)⟩
theorem lw_p12 : lw_okq (⟨"LargerPacket$House", "passWeek", "()I"⟩, 16) := ⟨⟨by decide +kernel, by decide +kernel⟩, List.mem_of_getElem? (i := 48) (by decide +kernel), List.mem_of_getElem? (i := 490) (by decide +kernel), List.mem_of_getElem? (i := 491) (by decide +kernel)⟩
theorem lw_p13 : lw_okq (⟨"LargerPacket", "tellRatio", "(JJ)V"⟩, 17) := ⟨⟨by decide +kernel, by decide +kernel⟩, List.mem_of_getElem? (i := 15) (by decide +kernel), List.mem_of_getElem? (i := 552) (by decide +kernel), List.mem_of_getElem? (i := 553) (by decide +kernel)⟩
theorem lw_p14 : lw_okq (⟨"LargerPacket$Basket", "leastFrom", "(LLargerPacket$House;II)I"⟩, 1) := ⟨⟨by decide +kernel, by decide +kernel⟩, List.mem_of_getElem? (i := 150) (by decide +kernel), List.mem_of_getElem? (i := 588) (by decide +kernel), List.mem_of_getElem? (i := 589) (by decide +kernel)⟩
theorem lw_p15 : lw_okq (⟨"LargerPacket$Basket", "penniesWith", "(LLargerPacket$House;III)I"⟩, 1) := ⟨⟨by decide +kernel, by decide +kernel⟩, List.mem_of_getElem? (i := 150) (by decide +kernel), List.mem_of_getElem? (i := 592) (by decide +kernel), List.mem_of_getElem? (i := 593) (by decide +kernel)⟩
noncomputable def lw_privs_1 : List (MethodName × Nat) := [(⟨"LargerPacket", "find", "(I)I"⟩, 17), (⟨"LargerPacket$Reader", "begin", "(LLargerPacket$Rows;I)V"⟩, 5), (⟨"LargerPacket$Reader", "skipBlanks", "()V"⟩, 5), (⟨"LargerPacket$Reader", "readNeeds", "()V"⟩, 5), (⟨"LargerPacket$Reader", "goesOn", "()Z"⟩, 5), (⟨"LargerPacket$Reader", "readFigure", "(I)I"⟩, 5), (⟨"LargerPacket$Reader", "faultHere", "()V"⟩, 5), (⟨"LargerPacket$Reader", "readTwoFigures", "()I"⟩, 5), (⟨"LargerPacket$Reader", "readPacket", "()V"⟩, 5), (⟨"LargerPacket$Reader", "readKind", "()I"⟩, 5), (⟨"LargerPacket$House", "takeStanding", "(LLargerPacket$House;)V"⟩, 16), (⟨"LargerPacket$House", "bringHome", "(II)I"⟩, 16), (⟨"LargerPacket$House", "passWeek", "()I"⟩, 16), (⟨"LargerPacket", "tellRatio", "(JJ)V"⟩, 17), (⟨"LargerPacket$Basket", "leastFrom", "(LLargerPacket$House;II)I"⟩, 1), (⟨"LargerPacket$Basket", "penniesWith", "(LLargerPacket$House;III)I"⟩, 1)]
theorem lw_r1 : ∀ q ∈ lw_privs_1, lw_okq q := List.forall_mem_cons.mpr ⟨lw_p0, List.forall_mem_cons.mpr ⟨lw_p1, List.forall_mem_cons.mpr ⟨lw_p2, List.forall_mem_cons.mpr ⟨lw_p3, List.forall_mem_cons.mpr ⟨lw_p4, List.forall_mem_cons.mpr ⟨lw_p5, List.forall_mem_cons.mpr ⟨lw_p6, List.forall_mem_cons.mpr ⟨lw_p7, List.forall_mem_cons.mpr ⟨lw_p8, List.forall_mem_cons.mpr ⟨lw_p9, List.forall_mem_cons.mpr ⟨lw_p10, List.forall_mem_cons.mpr ⟨lw_p11, List.forall_mem_cons.mpr ⟨lw_p12, List.forall_mem_cons.mpr ⟨lw_p13, List.forall_mem_cons.mpr ⟨lw_p14, List.forall_mem_cons.mpr ⟨lw_p15, fun _ h => absurd h List.not_mem_nil⟩⟩⟩⟩⟩⟩⟩⟩⟩⟩⟩⟩⟩⟩⟩⟩
theorem lw_p16 : lw_okq (⟨"LargerPacket$Planner", "goOn", "(LLargerPacket$House;III)V"⟩, 6) := ⟨⟨by decide +kernel, by decide +kernel⟩, List.mem_of_getElem? (i := 162) (by decide +kernel), List.mem_of_getElem? (i := 619) (by decide +kernel), List.mem_of_getElem? (i := 620) (by decide +kernel)⟩
theorem lw_p17 : lw_okq (⟨"LargerPacket$Planner", "weigh", "(II)V"⟩, 6) := ⟨⟨by decide +kernel, by decide +kernel⟩, List.mem_of_getElem? (i := 162) (by decide +kernel), List.mem_of_getElem? (i := 623) (by decide +kernel), List.mem_of_getElem? (i := 624) (by decide +kernel)⟩
theorem lw_p18 : lw_okq (⟨"LargerPacket$Planner", "liveWeek", "(LLargerPacket$House;IIII)V"⟩, 6) := ⟨⟨by decide +kernel, by decide +kernel⟩, List.mem_of_getElem? (i := 162) (by decide +kernel), List.mem_of_getElem? (i := 628) (by decide +kernel), List.mem_of_getElem? (i := 629) (by decide +kernel)⟩
theorem lw_p19 : lw_okq (⟨"LargerPacket", "troubleOfPairs", "(I)I"⟩, 17) := ⟨⟨by decide +kernel, by decide +kernel⟩, List.mem_of_getElem? (i := 15) (by decide +kernel), List.mem_of_getElem? (i := 663) (by decide +kernel), List.mem_of_getElem? (i := 664) (by decide +kernel)⟩
theorem lw_p20 : lw_okq (⟨"LargerPacket", "fitsPairs", "(III)Z"⟩, 17) := ⟨⟨by decide +kernel, by decide +kernel⟩, List.mem_of_getElem? (i := 15) (by decide +kernel), List.mem_of_getElem? (i := 667) (by decide +kernel), List.mem_of_getElem? (i := 668) (by decide +kernel)⟩
theorem lw_p21 : lw_okq (⟨"LargerPacket", "weighWays", "(I)J"⟩, 17) := ⟨⟨by decide +kernel, by decide +kernel⟩, List.mem_of_getElem? (i := 15) (by decide +kernel), List.mem_of_getElem? (i := 696) (by decide +kernel), List.mem_of_getElem? (i := 697) (by decide +kernel)⟩
theorem lw_p22 : lw_okq (⟨"LargerPacket", "counted", "(I)I"⟩, 17) := ⟨⟨by decide +kernel, by decide +kernel⟩, List.mem_of_getElem? (i := 15) (by decide +kernel), List.mem_of_getElem? (i := 740) (by decide +kernel), List.mem_of_getElem? (i := 741) (by decide +kernel)⟩
theorem lw_p23 : lw_okq (⟨"LargerPacket", "keptHouses", "()I"⟩, 17) := ⟨⟨by decide +kernel, by decide +kernel⟩, List.mem_of_getElem? (i := 15) (by decide +kernel), List.mem_of_getElem? (i := 748) (by decide +kernel), List.mem_of_getElem? (i := 749) (by decide +kernel)⟩
theorem lw_p24 : lw_okq (⟨"LargerPacket$House", "packetsOf", "(I)I"⟩, 16) := ⟨⟨by decide +kernel, by decide +kernel⟩, List.mem_of_getElem? (i := 48) (by decide +kernel), List.mem_of_getElem? (i := 756) (by decide +kernel), List.mem_of_getElem? (i := 757) (by decide +kernel)⟩
theorem lw_p25 : lw_okq (⟨"LargerPacketModel", "find", "(I)I"⟩, 23) := ⟨⟨by decide +kernel, by decide +kernel⟩, List.mem_of_getElem? (i := 780) (by decide +kernel), List.mem_of_getElem? (i := 867) (by decide +kernel), List.mem_of_getElem? (i := 868) (by decide +kernel)⟩
theorem lw_p26 : lw_okq (⟨"LargerPacketModel", "makeRow", "(II)V"⟩, 23) := ⟨⟨by decide +kernel, by decide +kernel⟩, List.mem_of_getElem? (i := 780) (by decide +kernel), List.mem_of_getElem? (i := 871) (by decide +kernel), List.mem_of_getElem? (i := 872) (by decide +kernel)⟩
theorem lw_p27 : lw_okq (⟨"LargerPacketModel", "refused", "(II)I"⟩, 23) := ⟨⟨by decide +kernel, by decide +kernel⟩, List.mem_of_getElem? (i := 780) (by decide +kernel), List.mem_of_getElem? (i := 879) (by decide +kernel), List.mem_of_getElem? (i := 880) (by decide +kernel)⟩
theorem lw_p28 : lw_okq (⟨"LargerPacketModel", "tell", "(I)I"⟩, 23) := ⟨⟨by decide +kernel, by decide +kernel⟩, List.mem_of_getElem? (i := 780) (by decide +kernel), List.mem_of_getElem? (i := 883) (by decide +kernel), List.mem_of_getElem? (i := 884) (by decide +kernel)⟩
theorem lw_p29 : lw_okq (⟨"LargerPacketModel", "isSpan", "(III)Z"⟩, 23) := ⟨⟨by decide +kernel, by decide +kernel⟩, List.mem_of_getElem? (i := 780) (by decide +kernel), List.mem_of_getElem? (i := 899) (by decide +kernel), List.mem_of_getElem? (i := 900) (by decide +kernel)⟩
theorem lw_p30 : lw_okq (⟨"LargerPacketModel", "faultOf", "(I)I"⟩, 23) := ⟨⟨by decide +kernel, by decide +kernel⟩, List.mem_of_getElem? (i := 780) (by decide +kernel), List.mem_of_getElem? (i := 923) (by decide +kernel), List.mem_of_getElem? (i := 924) (by decide +kernel)⟩
theorem lw_p31 : lw_okq (⟨"LargerPacketModel", "readsNeed", "()Z"⟩, 23) := ⟨⟨by decide +kernel, by decide +kernel⟩, List.mem_of_getElem? (i := 780) (by decide +kernel), List.mem_of_getElem? (i := 927) (by decide +kernel), List.mem_of_getElem? (i := 928) (by decide +kernel)⟩
noncomputable def lw_privs_2 : List (MethodName × Nat) := [(⟨"LargerPacket$Planner", "goOn", "(LLargerPacket$House;III)V"⟩, 6), (⟨"LargerPacket$Planner", "weigh", "(II)V"⟩, 6), (⟨"LargerPacket$Planner", "liveWeek", "(LLargerPacket$House;IIII)V"⟩, 6), (⟨"LargerPacket", "troubleOfPairs", "(I)I"⟩, 17), (⟨"LargerPacket", "fitsPairs", "(III)Z"⟩, 17), (⟨"LargerPacket", "weighWays", "(I)J"⟩, 17), (⟨"LargerPacket", "counted", "(I)I"⟩, 17), (⟨"LargerPacket", "keptHouses", "()I"⟩, 17), (⟨"LargerPacket$House", "packetsOf", "(I)I"⟩, 16), (⟨"LargerPacketModel", "find", "(I)I"⟩, 23), (⟨"LargerPacketModel", "makeRow", "(II)V"⟩, 23), (⟨"LargerPacketModel", "refused", "(II)I"⟩, 23), (⟨"LargerPacketModel", "tell", "(I)I"⟩, 23), (⟨"LargerPacketModel", "isSpan", "(III)Z"⟩, 23), (⟨"LargerPacketModel", "faultOf", "(I)I"⟩, 23), (⟨"LargerPacketModel", "readsNeed", "()Z"⟩, 23)]
theorem lw_r2 : ∀ q ∈ lw_privs_2, lw_okq q := List.forall_mem_cons.mpr ⟨lw_p16, List.forall_mem_cons.mpr ⟨lw_p17, List.forall_mem_cons.mpr ⟨lw_p18, List.forall_mem_cons.mpr ⟨lw_p19, List.forall_mem_cons.mpr ⟨lw_p20, List.forall_mem_cons.mpr ⟨lw_p21, List.forall_mem_cons.mpr ⟨lw_p22, List.forall_mem_cons.mpr ⟨lw_p23, List.forall_mem_cons.mpr ⟨lw_p24, List.forall_mem_cons.mpr ⟨lw_p25, List.forall_mem_cons.mpr ⟨lw_p26, List.forall_mem_cons.mpr ⟨lw_p27, List.forall_mem_cons.mpr ⟨lw_p28, List.forall_mem_cons.mpr ⟨lw_p29, List.forall_mem_cons.mpr ⟨lw_p30, List.forall_mem_cons.mpr ⟨lw_p31, fun _ h => absurd h List.not_mem_nil⟩⟩⟩⟩⟩⟩⟩⟩⟩⟩⟩⟩⟩⟩⟩⟩
theorem lw_p32 : lw_okq (⟨"LargerPacketModel", "skip", "()V"⟩, 23) := ⟨⟨by decide +kernel, by decide +kernel⟩, List.mem_of_getElem? (i := 780) (by decide +kernel), List.mem_of_getElem? (i := 931) (by decide +kernel), List.mem_of_getElem? (i := 932) (by decide +kernel)⟩
theorem lw_p33 : lw_okq (⟨"LargerPacketModel", "here", "()I"⟩, 23) := ⟨⟨by decide +kernel, by decide +kernel⟩, List.mem_of_getElem? (i := 780) (by decide +kernel), List.mem_of_getElem? (i := 935) (by decide +kernel), List.mem_of_getElem? (i := 936) (by decide +kernel)⟩
theorem lw_p34 : lw_okq (⟨"LargerPacketModel", "figure", "(II)I"⟩, 23) := ⟨⟨by decide +kernel, by decide +kernel⟩, List.mem_of_getElem? (i := 780) (by decide +kernel), List.mem_of_getElem? (i := 939) (by decide +kernel), List.mem_of_getElem? (i := 940) (by decide +kernel)⟩
theorem lw_p35 : lw_okq (⟨"LargerPacketModel", "twoFigures", "()I"⟩, 23) := ⟨⟨by decide +kernel, by decide +kernel⟩, List.mem_of_getElem? (i := 780) (by decide +kernel), List.mem_of_getElem? (i := 943) (by decide +kernel), List.mem_of_getElem? (i := 944) (by decide +kernel)⟩
theorem lw_p36 : lw_okq (⟨"LargerPacketModel", "readsPacket", "()Z"⟩, 23) := ⟨⟨by decide +kernel, by decide +kernel⟩, List.mem_of_getElem? (i := 780) (by decide +kernel), List.mem_of_getElem? (i := 947) (by decide +kernel), List.mem_of_getElem? (i := 948) (by decide +kernel)⟩
theorem lw_p37 : lw_okq (⟨"LargerPacketModel", "isPacket", "(I)Z"⟩, 23) := ⟨⟨by decide +kernel, by decide +kernel⟩, List.mem_of_getElem? (i := 780) (by decide +kernel), List.mem_of_getElem? (i := 962) (by decide +kernel), List.mem_of_getElem? (i := 963) (by decide +kernel)⟩
theorem lw_p38 : lw_okq (⟨"LargerPacketModel", "toldOf", "(II)I"⟩, 23) := ⟨⟨by decide +kernel, by decide +kernel⟩, List.mem_of_getElem? (i := 780) (by decide +kernel), List.mem_of_getElem? (i := 966) (by decide +kernel), List.mem_of_getElem? (i := 967) (by decide +kernel)⟩
theorem lw_p39 : lw_okq (⟨"LargerPacketModel", "keepsOf", "(I)I"⟩, 23) := ⟨⟨by decide +kernel, by decide +kernel⟩, List.mem_of_getElem? (i := 780) (by decide +kernel), List.mem_of_getElem? (i := 970) (by decide +kernel), List.mem_of_getElem? (i := 971) (by decide +kernel)⟩
theorem lw_p40 : lw_okq (⟨"LargerPacketModel", "costOf", "(III)I"⟩, 23) := ⟨⟨by decide +kernel, by decide +kernel⟩, List.mem_of_getElem? (i := 780) (by decide +kernel), List.mem_of_getElem? (i := 974) (by decide +kernel), List.mem_of_getElem? (i := 975) (by decide +kernel)⟩
theorem lw_p41 : lw_okq (⟨"LargerPacketModel", "got", "(II)I"⟩, 23) := ⟨⟨by decide +kernel, by decide +kernel⟩, List.mem_of_getElem? (i := 780) (by decide +kernel), List.mem_of_getElem? (i := 984) (by decide +kernel), List.mem_of_getElem? (i := 985) (by decide +kernel)⟩
theorem lw_p42 : lw_okq (⟨"LargerPacketModel", "isOf", "(II)Z"⟩, 23) := ⟨⟨by decide +kernel, by decide +kernel⟩, List.mem_of_getElem? (i := 780) (by decide +kernel), List.mem_of_getElem? (i := 995) (by decide +kernel), List.mem_of_getElem? (i := 996) (by decide +kernel)⟩
theorem lw_p43 : lw_okq (⟨"LargerPacketModel", "hasRoom", "(III)Z"⟩, 23) := ⟨⟨by decide +kernel, by decide +kernel⟩, List.mem_of_getElem? (i := 780) (by decide +kernel), List.mem_of_getElem? (i := 1008) (by decide +kernel), List.mem_of_getElem? (i := 1009) (by decide +kernel)⟩
theorem lw_p44 : lw_okq (⟨"LargerPacketModel", "inLarder", "(I)I"⟩, 23) := ⟨⟨by decide +kernel, by decide +kernel⟩, List.mem_of_getElem? (i := 780) (by decide +kernel), List.mem_of_getElem? (i := 1012) (by decide +kernel), List.mem_of_getElem? (i := 1013) (by decide +kernel)⟩
theorem lw_p45 : lw_okq (⟨"LargerPacketModel", "keepPast", "()V"⟩, 23) := ⟨⟨by decide +kernel, by decide +kernel⟩, List.mem_of_getElem? (i := 780) (by decide +kernel), List.mem_of_getElem? (i := 1016) (by decide +kernel), List.mem_of_getElem? (i := 1017) (by decide +kernel)⟩
theorem lw_p46 : lw_okq (⟨"LargerPacketModel", "buysAt", "(III)I"⟩, 23) := ⟨⟨by decide +kernel, by decide +kernel⟩, List.mem_of_getElem? (i := 780) (by decide +kernel), List.mem_of_getElem? (i := 1020) (by decide +kernel), List.mem_of_getElem? (i := 1021) (by decide +kernel)⟩
theorem lw_p47 : lw_okq (⟨"LargerPacketModel", "pass", "(I)I"⟩, 23) := ⟨⟨by decide +kernel, by decide +kernel⟩, List.mem_of_getElem? (i := 780) (by decide +kernel), List.mem_of_getElem? (i := 1028) (by decide +kernel), List.mem_of_getElem? (i := 1029) (by decide +kernel)⟩
noncomputable def lw_privs_3 : List (MethodName × Nat) := [(⟨"LargerPacketModel", "skip", "()V"⟩, 23), (⟨"LargerPacketModel", "here", "()I"⟩, 23), (⟨"LargerPacketModel", "figure", "(II)I"⟩, 23), (⟨"LargerPacketModel", "twoFigures", "()I"⟩, 23), (⟨"LargerPacketModel", "readsPacket", "()Z"⟩, 23), (⟨"LargerPacketModel", "isPacket", "(I)Z"⟩, 23), (⟨"LargerPacketModel", "toldOf", "(II)I"⟩, 23), (⟨"LargerPacketModel", "keepsOf", "(I)I"⟩, 23), (⟨"LargerPacketModel", "costOf", "(III)I"⟩, 23), (⟨"LargerPacketModel", "got", "(II)I"⟩, 23), (⟨"LargerPacketModel", "isOf", "(II)Z"⟩, 23), (⟨"LargerPacketModel", "hasRoom", "(III)Z"⟩, 23), (⟨"LargerPacketModel", "inLarder", "(I)I"⟩, 23), (⟨"LargerPacketModel", "keepPast", "()V"⟩, 23), (⟨"LargerPacketModel", "buysAt", "(III)I"⟩, 23), (⟨"LargerPacketModel", "pass", "(I)I"⟩, 23)]
theorem lw_r3 : ∀ q ∈ lw_privs_3, lw_okq q := List.forall_mem_cons.mpr ⟨lw_p32, List.forall_mem_cons.mpr ⟨lw_p33, List.forall_mem_cons.mpr ⟨lw_p34, List.forall_mem_cons.mpr ⟨lw_p35, List.forall_mem_cons.mpr ⟨lw_p36, List.forall_mem_cons.mpr ⟨lw_p37, List.forall_mem_cons.mpr ⟨lw_p38, List.forall_mem_cons.mpr ⟨lw_p39, List.forall_mem_cons.mpr ⟨lw_p40, List.forall_mem_cons.mpr ⟨lw_p41, List.forall_mem_cons.mpr ⟨lw_p42, List.forall_mem_cons.mpr ⟨lw_p43, List.forall_mem_cons.mpr ⟨lw_p44, List.forall_mem_cons.mpr ⟨lw_p45, List.forall_mem_cons.mpr ⟨lw_p46, List.forall_mem_cons.mpr ⟨lw_p47, fun _ h => absurd h List.not_mem_nil⟩⟩⟩⟩⟩⟩⟩⟩⟩⟩⟩⟩⟩⟩⟩⟩
theorem lw_p48 : lw_okq (⟨"LargerPacketModel", "becomes", "(II)I"⟩, 23) := ⟨⟨by decide +kernel, by decide +kernel⟩, List.mem_of_getElem? (i := 780) (by decide +kernel), List.mem_of_getElem? (i := 1041) (by decide +kernel), List.mem_of_getElem? (i := 1042) (by decide +kernel)⟩
theorem lw_p49 : lw_okq (⟨"LargerPacketModel", "copyHouse", "(II)V"⟩, 23) := ⟨⟨by decide +kernel, by decide +kernel⟩, List.mem_of_getElem? (i := 780) (by decide +kernel), List.mem_of_getElem? (i := 1058) (by decide +kernel), List.mem_of_getElem? (i := 1059) (by decide +kernel)⟩
theorem lw_p50 : lw_okq (⟨"LargerPacketModel", "tellParts", "(JJ)I"⟩, 23) := ⟨⟨by decide +kernel, by decide +kernel⟩, List.mem_of_getElem? (i := 780) (by decide +kernel), List.mem_of_getElem? (i := 1075) (by decide +kernel), List.mem_of_getElem? (i := 1076) (by decide +kernel)⟩
theorem lw_p51 : lw_okq (⟨"LargerPacketModel", "rateTo", "(II)I"⟩, 23) := ⟨⟨by decide +kernel, by decide +kernel⟩, List.mem_of_getElem? (i := 780) (by decide +kernel), List.mem_of_getElem? (i := 1083) (by decide +kernel), List.mem_of_getElem? (i := 1084) (by decide +kernel)⟩
theorem lw_p52 : lw_okq (⟨"LargerPacketModel", "isWell", "(II)Z"⟩, 23) := ⟨⟨by decide +kernel, by decide +kernel⟩, List.mem_of_getElem? (i := 780) (by decide +kernel), List.mem_of_getElem? (i := 1104) (by decide +kernel), List.mem_of_getElem? (i := 1105) (by decide +kernel)⟩
theorem lw_p53 : lw_okq (⟨"LargerPacketModel", "layTried", "()V"⟩, 23) := ⟨⟨by decide +kernel, by decide +kernel⟩, List.mem_of_getElem? (i := 780) (by decide +kernel), List.mem_of_getElem? (i := 1108) (by decide +kernel), List.mem_of_getElem? (i := 1109) (by decide +kernel)⟩
theorem lw_p54 : lw_okq (⟨"LargerPacketModel", "chosen", "(III)I"⟩, 23) := ⟨⟨by decide +kernel, by decide +kernel⟩, List.mem_of_getElem? (i := 780) (by decide +kernel), List.mem_of_getElem? (i := 1112) (by decide +kernel), List.mem_of_getElem? (i := 1113) (by decide +kernel)⟩
theorem lw_p55 : lw_okq (⟨"LargerPacketModel", "noPairs", "(I)I"⟩, 23) := ⟨⟨by decide +kernel, by decide +kernel⟩, List.mem_of_getElem? (i := 780) (by decide +kernel), List.mem_of_getElem? (i := 1137) (by decide +kernel), List.mem_of_getElem? (i := 1138) (by decide +kernel)⟩
theorem lw_p56 : lw_okq (⟨"LargerPacketModel", "isSo", "(III)Z"⟩, 23) := ⟨⟨by decide +kernel, by decide +kernel⟩, List.mem_of_getElem? (i := 780) (by decide +kernel), List.mem_of_getElem? (i := 1141) (by decide +kernel), List.mem_of_getElem? (i := 1142) (by decide +kernel)⟩
theorem lw_p57 : lw_okq (⟨"LargerPacketModel", "lastShop", "(I)I"⟩, 23) := ⟨⟨by decide +kernel, by decide +kernel⟩, List.mem_of_getElem? (i := 780) (by decide +kernel), List.mem_of_getElem? (i := 1158) (by decide +kernel), List.mem_of_getElem? (i := 1159) (by decide +kernel)⟩
theorem lw_p58 : lw_okq (⟨"LargerPacketModel", "layShop", "(II)V"⟩, 23) := ⟨⟨by decide +kernel, by decide +kernel⟩, List.mem_of_getElem? (i := 780) (by decide +kernel), List.mem_of_getElem? (i := 1163) (by decide +kernel), List.mem_of_getElem? (i := 1164) (by decide +kernel)⟩
theorem lw_p59 : lw_okq (⟨"LargerPacketModel", "leastWorth", "(I)I"⟩, 23) := ⟨⟨by decide +kernel, by decide +kernel⟩, List.mem_of_getElem? (i := 780) (by decide +kernel), List.mem_of_getElem? (i := 1167) (by decide +kernel), List.mem_of_getElem? (i := 1168) (by decide +kernel)⟩
theorem lw_p60 : lw_okq (⟨"LargerPacketModel", "worthAt", "(II)I"⟩, 23) := ⟨⟨by decide +kernel, by decide +kernel⟩, List.mem_of_getElem? (i := 780) (by decide +kernel), List.mem_of_getElem? (i := 1171) (by decide +kernel), List.mem_of_getElem? (i := 1172) (by decide +kernel)⟩
theorem lw_p61 : lw_okq (⟨"LargerPacketModel", "firstShop", "()I"⟩, 23) := ⟨⟨by decide +kernel, by decide +kernel⟩, List.mem_of_getElem? (i := 780) (by decide +kernel), List.mem_of_getElem? (i := 1175) (by decide +kernel), List.mem_of_getElem? (i := 1176) (by decide +kernel)⟩
theorem lw_p62 : lw_okq (⟨"LargerPacketModel", "tellThere", "(IIZ)I"⟩, 23) := ⟨⟨by decide +kernel, by decide +kernel⟩, List.mem_of_getElem? (i := 780) (by decide +kernel), List.mem_of_getElem? (i := 1185) (by decide +kernel), List.mem_of_getElem? (i := 1186) (by decide +kernel)⟩
theorem lw_p63 : lw_okq (⟨"LargerPacketModel", "countOf", "(I)I"⟩, 23) := ⟨⟨by decide +kernel, by decide +kernel⟩, List.mem_of_getElem? (i := 780) (by decide +kernel), List.mem_of_getElem? (i := 1222) (by decide +kernel), List.mem_of_getElem? (i := 1223) (by decide +kernel)⟩
noncomputable def lw_privs_4 : List (MethodName × Nat) := [(⟨"LargerPacketModel", "becomes", "(II)I"⟩, 23), (⟨"LargerPacketModel", "copyHouse", "(II)V"⟩, 23), (⟨"LargerPacketModel", "tellParts", "(JJ)I"⟩, 23), (⟨"LargerPacketModel", "rateTo", "(II)I"⟩, 23), (⟨"LargerPacketModel", "isWell", "(II)Z"⟩, 23), (⟨"LargerPacketModel", "layTried", "()V"⟩, 23), (⟨"LargerPacketModel", "chosen", "(III)I"⟩, 23), (⟨"LargerPacketModel", "noPairs", "(I)I"⟩, 23), (⟨"LargerPacketModel", "isSo", "(III)Z"⟩, 23), (⟨"LargerPacketModel", "lastShop", "(I)I"⟩, 23), (⟨"LargerPacketModel", "layShop", "(II)V"⟩, 23), (⟨"LargerPacketModel", "leastWorth", "(I)I"⟩, 23), (⟨"LargerPacketModel", "worthAt", "(II)I"⟩, 23), (⟨"LargerPacketModel", "firstShop", "()I"⟩, 23), (⟨"LargerPacketModel", "tellThere", "(IIZ)I"⟩, 23), (⟨"LargerPacketModel", "countOf", "(I)I"⟩, 23)]
theorem lw_r4 : ∀ q ∈ lw_privs_4, lw_okq q := List.forall_mem_cons.mpr ⟨lw_p48, List.forall_mem_cons.mpr ⟨lw_p49, List.forall_mem_cons.mpr ⟨lw_p50, List.forall_mem_cons.mpr ⟨lw_p51, List.forall_mem_cons.mpr ⟨lw_p52, List.forall_mem_cons.mpr ⟨lw_p53, List.forall_mem_cons.mpr ⟨lw_p54, List.forall_mem_cons.mpr ⟨lw_p55, List.forall_mem_cons.mpr ⟨lw_p56, List.forall_mem_cons.mpr ⟨lw_p57, List.forall_mem_cons.mpr ⟨lw_p58, List.forall_mem_cons.mpr ⟨lw_p59, List.forall_mem_cons.mpr ⟨lw_p60, List.forall_mem_cons.mpr ⟨lw_p61, List.forall_mem_cons.mpr ⟨lw_p62, List.forall_mem_cons.mpr ⟨lw_p63, fun _ h => absurd h List.not_mem_nil⟩⟩⟩⟩⟩⟩⟩⟩⟩⟩⟩⟩⟩⟩⟩⟩
theorem lw_p64 : lw_okq (⟨"LargerPacketModel", "those", "(I)I"⟩, 23) := ⟨⟨by decide +kernel, by decide +kernel⟩, List.mem_of_getElem? (i := 780) (by decide +kernel), List.mem_of_getElem? (i := 1226) (by decide +kernel), List.mem_of_getElem? (i := 1227) (by decide +kernel)⟩
theorem lw_p65 : lw_okq (⟨"LargerPacketModel", "thereOf", "(I)I"⟩, 23) := ⟨⟨by decide +kernel, by decide +kernel⟩, List.mem_of_getElem? (i := 780) (by decide +kernel), List.mem_of_getElem? (i := 1230) (by decide +kernel), List.mem_of_getElem? (i := 1231) (by decide +kernel)⟩
noncomputable def lw_privs_5 : List (MethodName × Nat) := [(⟨"LargerPacketModel", "those", "(I)I"⟩, 23), (⟨"LargerPacketModel", "thereOf", "(I)I"⟩, 23)]
theorem lw_r5 : ∀ q ∈ lw_privs_5, lw_okq q := List.forall_mem_cons.mpr ⟨lw_p64, List.forall_mem_cons.mpr ⟨lw_p65, fun _ h => absurd h List.not_mem_nil⟩⟩
noncomputable def lw_privs : List (MethodName × Nat) := lw_privs_1 ++ (lw_privs_2 ++ (lw_privs_3 ++ (lw_privs_4 ++ (lw_privs_5))))
noncomputable def lw_tbl : List Cond := k2_sels lw_privs ++ tables_1
theorem lw_privs_ok : ∀ q ∈ lw_privs, lw_okq q := by
  show ∀ q ∈ lw_privs_1 ++ (lw_privs_2 ++ (lw_privs_3 ++ (lw_privs_4 ++ (lw_privs_5)))), lw_okq q
  exact List.forall_mem_append.mpr ⟨lw_r1, List.forall_mem_append.mpr ⟨lw_r2, List.forall_mem_append.mpr ⟨lw_r3, List.forall_mem_append.mpr ⟨lw_r4, lw_r5⟩⟩⟩⟩
/-! ===== BEGIN words of one list among another's, by their places ===== -/
theorem goodIn_r {big : List Cond} (ws : List Cond) (ps : List Nat) (hp : ws = ps.filterMap (fun i => big[i]?)) (h : ws.all goodWord = true) : GoodIn big ws := by
  intro w hw
  have h1 := List.all_eq_true.mp h w hw
  rw [hp] at hw
  obtain ⟨i, -, hi⟩ := List.mem_filterMap.mp hw
  have hm : w ∈ big := by first | exact List.mem_of_getElem? hi | exact List.getElem?_mem hi
  exact ⟨hm, good_of_word h1⟩
theorem goodIn_app {big a b : List Cond} (ha : GoodIn big a) (hb : GoodIn big b) : GoodIn big (a ++ b) := fun w h => (List.mem_append.mp h).elim (ha w) (hb w)
theorem goodIn_ca {big a b : List Cond} {c : Cond} (ha : GoodIn big (c :: a)) (hb : GoodIn big b) : GoodIn big (c :: (a ++ b)) := fun w h => (List.mem_cons.mp h).elim (fun e => ha w (List.mem_cons.mpr (Or.inl e))) (fun h => (List.mem_append.mp h).elim (fun h => ha w (List.mem_cons.mpr (Or.inr h))) (hb w))
theorem goodIn_sub {big ws : List Cond} (hm : ∀ w ∈ ws, w ∈ big) (h : ws.all goodWord = true) : GoodIn big ws := fun w hw => ⟨hm w hw, good_of_word (List.all_eq_true.mp h w hw)⟩
/-! ===== END ===== -/

/-! ===== BEGIN new T[n][m]: the outer array a place, the inner ones among the pooled ===== -/
/-- f, but v at every address of l -/
noncomputable def vr_up {α : Type} (f : Nat → α) (l : List Nat) (v : α) : Nat → α := fun a => if a ∈ l then v else f a
theorem vr_up_in {α : Type} {f : Nat → α} {l : List Nat} {v : α} {a : Nat} (h : a ∈ l) : vr_up f l v a = v := if_pos h
theorem vr_up_ne {α : Type} {f : Nat → α} {l : List Nat} {v : α} {a : Nat} (h : a ∉ l) : vr_up f l v a = f a := if_neg h
theorem vr_rows {L l : List Nat} {f : Nat → va_E} {e : va_E} (h : ∀ a, a ∈ l → a ∉ L) : va_pl L f ++ l.map (fun a => (a, e)) = va_pl (L ++ l) (vr_up f l e) := by
  unfold va_pl
  rw [List.map_append]
  congr 1
  · apply List.map_congr_left
    intro a ha
    rw [vr_up_ne (fun q => h a q ha)]
  · apply List.map_congr_left
    intro a ha
    rw [vr_up_in ha]
theorem vr_lay {X rows : va_W} {x : Nat × va_E} {pl : va_W} {D : va_G} {cl : List vw_C} {H : Heap} (hP : va_P D cl (((X ++ pl) ++ [x]) ++ rows) H) : va_P D cl ((X ++ [x]) ++ (pl ++ rows)) H := by
  rw [List.append_assoc (X ++ pl)] at hP
  have h := va_P.swap hP
  rw [← List.append_assoc X] at h
  have h2 := va_P.swap h
  rw [List.append_assoc (X ++ [x])] at h2
  exact h2
theorem vr_layD {X rows : va_W} {x : Nat × va_E} {pl : va_W} {A : Nat → Prop} (hD : va_D A (((X ++ pl) ++ [x]) ++ rows)) : va_D A ((X ++ [x]) ++ (pl ++ rows)) := by
  rw [List.append_assoc (X ++ pl)] at hD
  have h := va_D.swap hD
  rw [← List.append_assoc X] at h
  have h2 := va_D.swap h
  rw [List.append_assoc (X ++ [x])] at h2
  exact h2
theorem vr_outer (c : ClassId) (N h0 : Nat) : ∀ i : Nat, Jvm.Free.Multi.outerC c N h0 i = arrV c N (fun j => va_rf (if j < i then some (h0 + 1 + j) else none))
  | 0 => by
    show ({ cls := c, slots := Array.replicate N .null, vm := .none } : Cell) = _
    rw [arrV_new]
    refine congrArg (arrV c N) (funext fun j => ?_)
    simp [va_rf]
  | i + 1 => by
    show (Jvm.Free.Multi.outerC c N h0 i).setSlot i (.ref (h0 + 1 + i)) = _
    rw [vr_outer c N h0 i, arrV_store]
    refine congrArg (arrV c N) (funext fun j => ?_)
    by_cases e : j = i
    · subst e
      simp [updV, va_rf]
    · by_cases h : j < i
      · simp [updV, e, h, Nat.lt_succ_of_lt h]
      · simp [updV, e, h, show ¬ j < i + 1 by omega]
/-! ===== END ===== -/

noncomputable def RX0 : String := "LargerPacket$Basket"
noncomputable def TX0 : u_T := fun k => match k with
  | _ => ("LargerPacket$Basket", "pennies", "[[I", true)
noncomputable def tyX0 : Nat → FieldType := fun k => match k with
  | _ => .array (.array .int)
noncomputable abbrev wsX00 : List Cond := u_ws RX0 TX0 1
theorem nmX0 : ∀ a, a < 1 → ∀ b, b < 1 → a ≠ b → (TX0 a).2.1 ≠ (TX0 b).2.1 := by decide +kernel
theorem tyX0_ok : ∀ k, k < 1 → parseFieldDescriptor (TX0 k).2.2.1 = some (tyX0 k) := by decide +kernel
noncomputable abbrev cX0_init : ByteArray := prog_2_method_1_code
noncomputable def yX0_init : MethodName := ⟨RX0, "<init>", "()V"⟩
noncomputable abbrev cX0_fill : ByteArray := prog_2_method_2_code
noncomputable def yX0_fill : MethodName := ⟨RX0, "fill", "(LLargerPacket$House;I)I"⟩
noncomputable abbrev cX0_leastFrom : ByteArray := prog_2_method_3_code
noncomputable def yX0_leastFrom : MethodName := ⟨RX0, "leastFrom", "(LLargerPacket$House;II)I"⟩
noncomputable abbrev cX0_penniesWith : ByteArray := prog_2_method_4_code
noncomputable def yX0_penniesWith : MethodName := ⟨RX0, "penniesWith", "(LLargerPacket$House;III)I"⟩
noncomputable abbrev cX0_leftBehind : ByteArray := prog_2_method_5_code
noncomputable def yX0_leftBehind : MethodName := ⟨RX0, "leftBehind", "(LLargerPacket$House;III)I"⟩
noncomputable abbrev cX0_firstNumber : ByteArray := prog_2_method_6_code
noncomputable def yX0_firstNumber : MethodName := ⟨RX0, "firstNumber", "(LLargerPacket$House;II)I"⟩
noncomputable def RX1 : String := "LargerPacket$House"
noncomputable def TX1 : u_T := fun k => match k with
  | 0 => ("LargerPacket$House", "kinds", "[I", true)
  | 1 => ("LargerPacket$House", "grams", "[I", true)
  | 2 => ("LargerPacket$House", "prices", "[I", true)
  | 3 => ("LargerPacket$House", "keepings", "[I", true)
  | 4 => ("LargerPacket$House", "larder", "LLargerPacket$Larder;", true)
  | 5 => ("LargerPacket$House", "log", "[I", true)
  | 6 => ("LargerPacket$House", "packets", "I", false)
  | 7 => ("LargerPacket$House", "need", "I", false)
  | 8 => ("LargerPacket$House", "room", "I", false)
  | 9 => ("LargerPacket$House", "week", "I", false)
  | 10 => ("LargerPacket$House", "pennies", "I", false)
  | 11 => ("LargerPacket$House", "eaten", "I", false)
  | 12 => ("LargerPacket$House", "hunger", "I", false)
  | 13 => ("LargerPacket$House", "waste", "I", false)
  | 14 => ("LargerPacket$House", "hasCard", "Z", false)
  | _ => ("LargerPacket$House", "deeds", "I", false)
noncomputable def tyX1 : Nat → FieldType := fun k => match k with
  | 0 => .array .int
  | 1 => .array .int
  | 2 => .array .int
  | 3 => .array .int
  | 4 => .object "LargerPacket$Larder"
  | 5 => .array .int
  | 6 => .int
  | 7 => .int
  | 8 => .int
  | 9 => .int
  | 10 => .int
  | 11 => .int
  | 12 => .int
  | 13 => .int
  | 14 => .boolean
  | _ => .int
noncomputable abbrev wsX10 : List Cond := u_ws RX1 TX1 16
theorem nmX1 : ∀ a, a < 16 → ∀ b, b < 16 → a ≠ b → (TX1 a).2.1 ≠ (TX1 b).2.1 := by decide +kernel
theorem tyX1_ok : ∀ k, k < 16 → parseFieldDescriptor (TX1 k).2.2.1 = some (tyX1 k) := by decide +kernel
noncomputable abbrev cX1_init : ByteArray := prog_3_method_1_code
noncomputable def yX1_init : MethodName := ⟨RX1, "<init>", "()V"⟩
noncomputable abbrev cX1_takeAll : ByteArray := prog_3_method_2_code
noncomputable def yX1_takeAll : MethodName := ⟨RX1, "takeAll", "(LLargerPacket$House;)V"⟩
noncomputable abbrev cX1_takeStanding : ByteArray := prog_3_method_3_code
noncomputable def yX1_takeStanding : MethodName := ⟨RX1, "takeStanding", "(LLargerPacket$House;)V"⟩
noncomputable abbrev cX1_doAgain : ByteArray := prog_3_method_4_code
noncomputable def yX1_doAgain : MethodName := ⟨RX1, "doAgain", "(LLargerPacket$House;I)V"⟩
noncomputable abbrev cX1_has : ByteArray := prog_3_method_5_code
noncomputable def yX1_has : MethodName := ⟨RX1, "has", "(I)Z"⟩
noncomputable abbrev cX1_hasDeedsFor : ByteArray := prog_3_method_6_code
noncomputable def yX1_hasDeedsFor : MethodName := ⟨RX1, "hasDeedsFor", "(I)Z"⟩
noncomputable abbrev cX1_hasRoomFor : ByteArray := prog_3_method_7_code
noncomputable def yX1_hasRoomFor : MethodName := ⟨RX1, "hasRoomFor", "(II)Z"⟩
noncomputable abbrev cX1_canShrink : ByteArray := prog_3_method_8_code
noncomputable def yX1_canShrink : MethodName := ⟨RX1, "canShrink", "(I)Z"⟩
noncomputable abbrev cX1_costOf : ByteArray := prog_3_method_9_code
noncomputable def yX1_costOf : MethodName := ⟨RX1, "costOf", "(II)I"⟩
noncomputable abbrev cX1_getsBy : ByteArray := prog_3_method_10_code
noncomputable def yX1_getsBy : MethodName := ⟨RX1, "getsBy", "(I)I"⟩
noncomputable abbrev cX1_keepsFor : ByteArray := prog_3_method_11_code
noncomputable def yX1_keepsFor : MethodName := ⟨RX1, "keepsFor", "(I)I"⟩
noncomputable abbrev cX1_compareRates : ByteArray := prog_3_method_12_code
noncomputable def yX1_compareRates : MethodName := ⟨RX1, "compareRates", "(II)I"⟩
noncomputable abbrev cX1_isLargerOneDearer : ByteArray := prog_3_method_13_code
noncomputable def yX1_isLargerOneDearer : MethodName := ⟨RX1, "isLargerOneDearer", "(II)Z"⟩
noncomputable abbrev cX1_tell : ByteArray := prog_3_method_14_code
noncomputable def yX1_tell : MethodName := ⟨RX1, "tell", "(II)I"⟩
noncomputable abbrev cX1_markOf : ByteArray := prog_3_method_15_code
noncomputable def yX1_markOf : MethodName := ⟨RX1, "markOf", "(II)I"⟩
noncomputable abbrev cX1_counted : ByteArray := prog_3_method_16_code
noncomputable def yX1_counted : MethodName := ⟨RX1, "counted", "(I)I"⟩
noncomputable abbrev cX1_packetsOf : ByteArray := prog_3_method_17_code
noncomputable def yX1_packetsOf : MethodName := ⟨RX1, "packetsOf", "(I)I"⟩
noncomputable abbrev cX1_perform : ByteArray := prog_3_method_18_code
noncomputable def yX1_perform : MethodName := ⟨RX1, "perform", "(III)I"⟩
noncomputable abbrev cX1_bringHome : ByteArray := prog_3_method_19_code
noncomputable def yX1_bringHome : MethodName := ⟨RX1, "bringHome", "(II)I"⟩
noncomputable abbrev cX1_passWeek : ByteArray := prog_3_method_20_code
noncomputable def yX1_passWeek : MethodName := ⟨RX1, "passWeek", "()I"⟩
noncomputable abbrev cX1_performLot : ByteArray := prog_3_method_21_code
noncomputable def yX1_performLot : MethodName := ⟨RX1, "performLot", "(J)V"⟩
noncomputable abbrev cX1_addPacket : ByteArray := prog_3_method_22_code
noncomputable def yX1_addPacket : MethodName := ⟨RX1, "addPacket", "(IIII)V"⟩
noncomputable def RX2 : String := "LargerPacket$Kinds"
noncomputable def TX2 : u_T := fun k => match k with
  | _ => ("", "", "", false)
noncomputable def tyX2 : Nat → FieldType := fun k => match k with
  | _ => .int
noncomputable abbrev wsX20 : List Cond := u_ws RX2 TX2 0
theorem nmX2 : ∀ a, a < 0 → ∀ b, b < 0 → a ≠ b → (TX2 a).2.1 ≠ (TX2 b).2.1 := by decide +kernel
theorem tyX2_ok : ∀ k, k < 0 → parseFieldDescriptor (TX2 k).2.2.1 = some (tyX2 k) := by decide +kernel
noncomputable abbrev cX2_isA : ByteArray := prog_4_method_2_code
noncomputable def yX2_isA : MethodName := ⟨RX2, "isA", "(II)Z"⟩
noncomputable abbrev cX2_parent : ByteArray := prog_4_method_3_code
noncomputable def yX2_parent : MethodName := ⟨RX2, "parent", "(I)I"⟩
noncomputable abbrev cX2_cost : ByteArray := prog_4_method_4_code
noncomputable def yX2_cost : MethodName := ⟨RX2, "cost", "(IIIZ)I"⟩
noncomputable abbrev cX2_costByCard : ByteArray := prog_4_method_5_code
noncomputable def yX2_costByCard : MethodName := ⟨RX2, "costByCard", "(IZ)I"⟩
noncomputable abbrev cX2_got : ByteArray := prog_4_method_6_code
noncomputable def yX2_got : MethodName := ⟨RX2, "got", "(II)I"⟩
noncomputable abbrev cX2_keeping : ByteArray := prog_4_method_7_code
noncomputable def yX2_keeping : MethodName := ⟨RX2, "keeping", "(II)I"⟩
noncomputable def RX3 : String := "LargerPacket$Larder"
noncomputable def TX3 : u_T := fun k => match k with
  | _ => ("LargerPacket$Larder", "grams", "[I", true)
noncomputable def tyX3 : Nat → FieldType := fun k => match k with
  | _ => .array .int
noncomputable abbrev wsX30 : List Cond := u_ws RX3 TX3 1
theorem nmX3 : ∀ a, a < 1 → ∀ b, b < 1 → a ≠ b → (TX3 a).2.1 ≠ (TX3 b).2.1 := by decide +kernel
theorem tyX3_ok : ∀ k, k < 1 → parseFieldDescriptor (TX3 k).2.2.1 = some (tyX3 k) := by decide +kernel
noncomputable abbrev cX3_init : ByteArray := prog_5_method_1_code
noncomputable def yX3_init : MethodName := ⟨RX3, "<init>", "()V"⟩
noncomputable abbrev cX3_keeping : ByteArray := prog_5_method_2_code
noncomputable def yX3_keeping : MethodName := ⟨RX3, "keeping", "(I)I"⟩
noncomputable abbrev cX3_all : ByteArray := prog_5_method_3_code
noncomputable def yX3_all : MethodName := ⟨RX3, "all", "()I"⟩
noncomputable abbrev cX3_take : ByteArray := prog_5_method_4_code
noncomputable def yX3_take : MethodName := ⟨RX3, "take", "(LLargerPacket$Larder;)V"⟩
noncomputable abbrev cX3_add : ByteArray := prog_5_method_5_code
noncomputable def yX3_add : MethodName := ⟨RX3, "add", "(II)V"⟩
noncomputable abbrev cX3_eat : ByteArray := prog_5_method_6_code
noncomputable def yX3_eat : MethodName := ⟨RX3, "eat", "(I)I"⟩
noncomputable abbrev cX3_goOff : ByteArray := prog_5_method_7_code
noncomputable def yX3_goOff : MethodName := ⟨RX3, "goOff", "()I"⟩
noncomputable def RX4 : String := "LargerPacket$Planner"
noncomputable def TX4 : u_T := fun k => match k with
  | 0 => ("LargerPacket$Planner", "larders", "[LLargerPacket$Larder;", true)
  | 1 => ("LargerPacket$Planner", "plan", "[I", true)
  | 2 => ("LargerPacket$Planner", "best", "[I", true)
  | 3 => ("LargerPacket$Planner", "weeks", "I", false)
  | 4 => ("LargerPacket$Planner", "leastPennies", "I", false)
  | _ => ("LargerPacket$Planner", "leastWaste", "I", false)
noncomputable def tyX4 : Nat → FieldType := fun k => match k with
  | 0 => .array (.object "LargerPacket$Larder")
  | 1 => .array .int
  | 2 => .array .int
  | 3 => .int
  | 4 => .int
  | _ => .int
noncomputable abbrev wsX40 : List Cond := u_ws RX4 TX4 6
theorem nmX4 : ∀ a, a < 6 → ∀ b, b < 6 → a ≠ b → (TX4 a).2.1 ≠ (TX4 b).2.1 := by decide +kernel
theorem tyX4_ok : ∀ k, k < 6 → parseFieldDescriptor (TX4 k).2.2.1 = some (tyX4 k) := by decide +kernel
noncomputable abbrev cX4_init : ByteArray := prog_6_method_1_code
noncomputable def yX4_init : MethodName := ⟨RX4, "<init>", "()V"⟩
noncomputable abbrev cX4_search : ByteArray := prog_6_method_2_code
noncomputable def yX4_search : MethodName := ⟨RX4, "search", "(LLargerPacket$House;I)V"⟩
noncomputable abbrev cX4_goOn : ByteArray := prog_6_method_3_code
noncomputable def yX4_goOn : MethodName := ⟨RX4, "goOn", "(LLargerPacket$House;III)V"⟩
noncomputable abbrev cX4_liveWeek : ByteArray := prog_6_method_4_code
noncomputable def yX4_liveWeek : MethodName := ⟨RX4, "liveWeek", "(LLargerPacket$House;IIII)V"⟩
noncomputable abbrev cX4_weigh : ByteArray := prog_6_method_5_code
noncomputable def yX4_weigh : MethodName := ⟨RX4, "weigh", "(II)V"⟩
noncomputable def RX5 : String := "LargerPacket$Reader"
noncomputable def TX5 : u_T := fun k => match k with
  | 0 => ("LargerPacket$Reader", "found", "LLargerPacket$House;", true)
  | 1 => ("LargerPacket$Reader", "signs", "[I", true)
  | 2 => ("LargerPacket$Reader", "size", "I", false)
  | 3 => ("LargerPacket$Reader", "place", "I", false)
  | _ => ("LargerPacket$Reader", "trouble", "I", false)
noncomputable def tyX5 : Nat → FieldType := fun k => match k with
  | 0 => .object "LargerPacket$House"
  | 1 => .array .int
  | 2 => .int
  | 3 => .int
  | _ => .int
noncomputable abbrev wsX50 : List Cond := u_ws RX5 TX5 5
theorem nmX5 : ∀ a, a < 5 → ∀ b, b < 5 → a ≠ b → (TX5 a).2.1 ≠ (TX5 b).2.1 := by decide +kernel
theorem tyX5_ok : ∀ k, k < 5 → parseFieldDescriptor (TX5 k).2.2.1 = some (tyX5 k) := by decide +kernel
noncomputable abbrev cX5_init : ByteArray := prog_7_method_1_code
noncomputable def yX5_init : MethodName := ⟨RX5, "<init>", "()V"⟩
noncomputable abbrev cX5_read : ByteArray := prog_7_method_2_code
noncomputable def yX5_read : MethodName := ⟨RX5, "read", "(LLargerPacket$Rows;I)I"⟩
noncomputable abbrev cX5_begin : ByteArray := prog_7_method_3_code
noncomputable def yX5_begin : MethodName := ⟨RX5, "begin", "(LLargerPacket$Rows;I)V"⟩
noncomputable abbrev cX5_goesOn : ByteArray := prog_7_method_4_code
noncomputable def yX5_goesOn : MethodName := ⟨RX5, "goesOn", "()Z"⟩
noncomputable abbrev cX5_skipBlanks : ByteArray := prog_7_method_5_code
noncomputable def yX5_skipBlanks : MethodName := ⟨RX5, "skipBlanks", "()V"⟩
noncomputable abbrev cX5_readNeeds : ByteArray := prog_7_method_6_code
noncomputable def yX5_readNeeds : MethodName := ⟨RX5, "readNeeds", "()V"⟩
noncomputable abbrev cX5_readPacket : ByteArray := prog_7_method_7_code
noncomputable def yX5_readPacket : MethodName := ⟨RX5, "readPacket", "()V"⟩
noncomputable abbrev cX5_readKind : ByteArray := prog_7_method_8_code
noncomputable def yX5_readKind : MethodName := ⟨RX5, "readKind", "()I"⟩
noncomputable abbrev cX5_readTwoFigures : ByteArray := prog_7_method_9_code
noncomputable def yX5_readTwoFigures : MethodName := ⟨RX5, "readTwoFigures", "()I"⟩
noncomputable abbrev cX5_readFigure : ByteArray := prog_7_method_10_code
noncomputable def yX5_readFigure : MethodName := ⟨RX5, "readFigure", "(I)I"⟩
noncomputable abbrev cX5_faultHere : ByteArray := prog_7_method_11_code
noncomputable def yX5_faultHere : MethodName := ⟨RX5, "faultHere", "()V"⟩
noncomputable def RX6 : String := "LargerPacket$Rows"
noncomputable def TX6 : u_T := fun k => match k with
  | 0 => ("LargerPacket$Rows", "places", "[[I", true)
  | _ => ("LargerPacket$Rows", "sizes", "[I", true)
noncomputable def tyX6 : Nat → FieldType := fun k => match k with
  | 0 => .array (.array .int)
  | _ => .array .int
noncomputable abbrev wsX60 : List Cond := u_ws RX6 TX6 2
theorem nmX6 : ∀ a, a < 2 → ∀ b, b < 2 → a ≠ b → (TX6 a).2.1 ≠ (TX6 b).2.1 := by decide +kernel
theorem tyX6_ok : ∀ k, k < 2 → parseFieldDescriptor (TX6 k).2.2.1 = some (tyX6 k) := by decide +kernel
noncomputable abbrev cX6_init : ByteArray := prog_8_method_1_code
noncomputable def yX6_init : MethodName := ⟨RX6, "<init>", "(II)V"⟩
noncomputable abbrev cX6_names : ByteArray := prog_8_method_2_code
noncomputable def yX6_names : MethodName := ⟨RX6, "names", "(I)Z"⟩
noncomputable abbrev cX6_isThere : ByteArray := prog_8_method_3_code
noncomputable def yX6_isThere : MethodName := ⟨RX6, "isThere", "(I)Z"⟩
noncomputable abbrev cX6_sizeOf : ByteArray := prog_8_method_4_code
noncomputable def yX6_sizeOf : MethodName := ⟨RX6, "sizeOf", "(I)I"⟩
noncomputable abbrev cX6_get : ByteArray := prog_8_method_5_code
noncomputable def yX6_get : MethodName := ⟨RX6, "get", "(II)I"⟩
noncomputable abbrev cX6_set : ByteArray := prog_8_method_6_code
noncomputable def yX6_set : MethodName := ⟨RX6, "set", "(III)V"⟩
noncomputable abbrev cX6_makeAnew : ByteArray := prog_8_method_7_code
noncomputable def yX6_makeAnew : MethodName := ⟨RX6, "makeAnew", "(III)V"⟩
noncomputable abbrev cX6_remove : ByteArray := prog_8_method_8_code
noncomputable def yX6_remove : MethodName := ⟨RX6, "remove", "(I)V"⟩
noncomputable abbrev cX6_troubleAt : ByteArray := prog_8_method_9_code
noncomputable def yX6_troubleAt : MethodName := ⟨RX6, "troubleAt", "(II)I"⟩
noncomputable abbrev cX6_hasPlaces : ByteArray := prog_8_method_10_code
noncomputable def yX6_hasPlaces : MethodName := ⟨RX6, "hasPlaces", "(III)Z"⟩
noncomputable abbrev cX6_move : ByteArray := prog_8_method_11_code
noncomputable def yX6_move : MethodName := ⟨RX6, "move", "(IIIII)V"⟩
noncomputable abbrev cX6_sumOf : ByteArray := prog_8_method_12_code
noncomputable def yX6_sumOf : MethodName := ⟨RX6, "sumOf", "(I)J"⟩
noncomputable abbrev cX6_there : ByteArray := prog_8_method_13_code
noncomputable def yX6_there : MethodName := ⟨RX6, "there", "()I"⟩
noncomputable abbrev cX6_mixInto : ByteArray := prog_8_method_14_code
noncomputable def yX6_mixInto : MethodName := ⟨RX6, "mixInto", "(J)J"⟩
noncomputable def RX7 : String := "LargerPacket"
noncomputable def TX7 : u_T := fun k => match k with
  | 0 => ("LargerPacket", "rows", "LLargerPacket$Rows;", true)
  | 1 => ("LargerPacket", "texts", "LLargerPacket$Rows;", true)
  | 2 => ("LargerPacket", "reader", "LLargerPacket$Reader;", true)
  | 3 => ("LargerPacket", "start", "LLargerPacket$House;", true)
  | 4 => ("LargerPacket", "house", "LLargerPacket$House;", true)
  | 5 => ("LargerPacket", "kept", "[LLargerPacket$House;", true)
  | 6 => ("LargerPacket", "isKept", "[Z", true)
  | 7 => ("LargerPacket", "aside", "LLargerPacket$Larder;", true)
  | 8 => ("LargerPacket", "basket", "LLargerPacket$Basket;", true)
  | 9 => ("LargerPacket", "planner", "LLargerPacket$Planner;", true)
  | 10 => ("LargerPacket", "asking", "[I", true)
  | 11 => ("LargerPacket", "ways", "[J", true)
  | 12 => ("LargerPacket", "findings", "[I", true)
  | 13 => ("LargerPacket", "finding", "I", false)
  | 14 => ("LargerPacket", "asked", "I", false)
  | 15 => ("LargerPacket", "upper", "J", false)
  | _ => ("LargerPacket", "lower", "J", false)
noncomputable def tyX7 : Nat → FieldType := fun k => match k with
  | 0 => .object "LargerPacket$Rows"
  | 1 => .object "LargerPacket$Rows"
  | 2 => .object "LargerPacket$Reader"
  | 3 => .object "LargerPacket$House"
  | 4 => .object "LargerPacket$House"
  | 5 => .array (.object "LargerPacket$House")
  | 6 => .array .boolean
  | 7 => .object "LargerPacket$Larder"
  | 8 => .object "LargerPacket$Basket"
  | 9 => .object "LargerPacket$Planner"
  | 10 => .array .int
  | 11 => .array .long
  | 12 => .array .int
  | 13 => .int
  | 14 => .int
  | 15 => .long
  | _ => .long
noncomputable abbrev wsX70 : List Cond := u_ws RX7 TX7 17
theorem nmX7 : ∀ a, a < 17 → ∀ b, b < 17 → a ≠ b → (TX7 a).2.1 ≠ (TX7 b).2.1 := by decide +kernel
theorem tyX7_ok : ∀ k, k < 17 → parseFieldDescriptor (TX7 k).2.2.1 = some (tyX7 k) := by decide +kernel
noncomputable abbrev cX7_init : ByteArray := prog_1_method_1_code
noncomputable def yX7_init : MethodName := ⟨RX7, "<init>", "()V"⟩
noncomputable abbrev cX7_row : ByteArray := prog_1_method_2_code
noncomputable def yX7_row : MethodName := ⟨RX7, "row", "(II)I"⟩
noncomputable abbrev cX7_lay : ByteArray := prog_1_method_3_code
noncomputable def yX7_lay : MethodName := ⟨RX7, "lay", "(III)I"⟩
noncomputable abbrev cX7_at : ByteArray := prog_1_method_4_code
noncomputable def yX7_at : MethodName := ⟨RX7, "at", "(II)I"⟩
noncomputable abbrev cX7_tear : ByteArray := prog_1_method_5_code
noncomputable def yX7_tear : MethodName := ⟨RX7, "tear", "(I)I"⟩
noncomputable abbrev cX7_copy : ByteArray := prog_1_method_6_code
noncomputable def yX7_copy : MethodName := ⟨RX7, "copy", "(IIIII)I"⟩
noncomputable abbrev cX7_mean : ByteArray := prog_1_method_7_code
noncomputable def yX7_mean : MethodName := ⟨RX7, "mean", "(I)I"⟩
noncomputable abbrev cX7_text : ByteArray := prog_1_method_8_code
noncomputable def yX7_text : MethodName := ⟨RX7, "text", "(II)I"⟩
noncomputable abbrev cX7_put : ByteArray := prog_1_method_9_code
noncomputable def yX7_put : MethodName := ⟨RX7, "put", "(III)I"⟩
noncomputable abbrev cX7_fault : ByteArray := prog_1_method_10_code
noncomputable def yX7_fault : MethodName := ⟨RX7, "fault", "(I)I"⟩
noncomputable abbrev cX7_house : ByteArray := prog_1_method_11_code
noncomputable def yX7_house : MethodName := ⟨RX7, "house", "(I)I"⟩
noncomputable abbrev cX7_packet : ByteArray := prog_1_method_12_code
noncomputable def yX7_packet : MethodName := ⟨RX7, "packet", "(II)I"⟩
noncomputable abbrev cX7_mark : ByteArray := prog_1_method_13_code
noncomputable def yX7_mark : MethodName := ⟨RX7, "mark", "(II)I"⟩
noncomputable abbrev cX7_larder : ByteArray := prog_1_method_14_code
noncomputable def yX7_larder : MethodName := ⟨RX7, "larder", "(I)I"⟩
noncomputable abbrev cX7_buy : ByteArray := prog_1_method_15_code
noncomputable def yX7_buy : MethodName := ⟨RX7, "buy", "(II)I"⟩
noncomputable abbrev cX7_week : ByteArray := prog_1_method_16_code
noncomputable def yX7_week : MethodName := ⟨RX7, "week", "()I"⟩
noncomputable abbrev cX7_shrink : ByteArray := prog_1_method_17_code
noncomputable def yX7_shrink : MethodName := ⟨RX7, "shrink", "(I)I"⟩
noncomputable abbrev cX7_price : ByteArray := prog_1_method_18_code
noncomputable def yX7_price : MethodName := ⟨RX7, "price", "(II)I"⟩
noncomputable abbrev cX7_card : ByteArray := prog_1_method_19_code
noncomputable def yX7_card : MethodName := ⟨RX7, "card", "(I)I"⟩
noncomputable abbrev cX7_undo : ByteArray := prog_1_method_20_code
noncomputable def yX7_undo : MethodName := ⟨RX7, "undo", "(I)I"⟩
noncomputable abbrev cX7_keep : ByteArray := prog_1_method_21_code
noncomputable def yX7_keep : MethodName := ⟨RX7, "keep", "(I)I"⟩
noncomputable abbrev cX7_on : ByteArray := prog_1_method_22_code
noncomputable def yX7_on : MethodName := ⟨RX7, "on", "(I)I"⟩
noncomputable abbrev cX7_costs : ByteArray := prog_1_method_23_code
noncomputable def yX7_costs : MethodName := ⟨RX7, "costs", "(II)I"⟩
noncomputable abbrev cX7_rate : ByteArray := prog_1_method_24_code
noncomputable def yX7_rate : MethodName := ⟨RX7, "rate", "(I)I"⟩
noncomputable abbrev cX7_cheapest : ByteArray := prog_1_method_25_code
noncomputable def yX7_cheapest : MethodName := ⟨RX7, "cheapest", "()I"⟩
noncomputable abbrev cX7_larger : ByteArray := prog_1_method_26_code
noncomputable def yX7_larger : MethodName := ⟨RX7, "larger", "()I"⟩
noncomputable abbrev cX7_least : ByteArray := prog_1_method_27_code
noncomputable def yX7_least : MethodName := ⟨RX7, "least", "(II)I"⟩
noncomputable abbrev cX7_weeks : ByteArray := prog_1_method_28_code
noncomputable def yX7_weeks : MethodName := ⟨RX7, "weeks", "(II)I"⟩
noncomputable abbrev cX7_waste : ByteArray := prog_1_method_29_code
noncomputable def yX7_waste : MethodName := ⟨RX7, "waste", "(I)I"⟩
noncomputable abbrev cX7_off : ByteArray := prog_1_method_30_code
noncomputable def yX7_off : MethodName := ⟨RX7, "off", "(I)I"⟩
noncomputable abbrev cX7_lasts : ByteArray := prog_1_method_31_code
noncomputable def yX7_lasts : MethodName := ⟨RX7, "lasts", "()I"⟩
noncomputable abbrev cX7_looks : ByteArray := prog_1_method_32_code
noncomputable def yX7_looks : MethodName := ⟨RX7, "looks", "(II)I"⟩
noncomputable abbrev cX7_kinds : ByteArray := prog_1_method_33_code
noncomputable def yX7_kinds : MethodName := ⟨RX7, "kinds", "(II)I"⟩
noncomputable abbrev cX7_prices : ByteArray := prog_1_method_34_code
noncomputable def yX7_prices : MethodName := ⟨RX7, "prices", "(II)I"⟩
noncomputable abbrev cX7_grams : ByteArray := prog_1_method_35_code
noncomputable def yX7_grams : MethodName := ⟨RX7, "grams", "(III)I"⟩
noncomputable abbrev cX7_shop : ByteArray := prog_1_method_36_code
noncomputable def yX7_shop : MethodName := ⟨RX7, "shop", "(I)I"⟩
noncomputable abbrev cX7_odds : ByteArray := prog_1_method_37_code
noncomputable def yX7_odds : MethodName := ⟨RX7, "odds", "(II)I"⟩
noncomputable abbrev cX7_mid : ByteArray := prog_1_method_38_code
noncomputable def yX7_mid : MethodName := ⟨RX7, "mid", "(I)I"⟩
noncomputable abbrev cX7_lots : ByteArray := prog_1_method_39_code
noncomputable def yX7_lots : MethodName := ⟨RX7, "lots", "(II)I"⟩
noncomputable abbrev cX7_asked : ByteArray := prog_1_method_40_code
noncomputable def yX7_asked : MethodName := ⟨RX7, "asked", "()I"⟩
noncomputable abbrev cX7_upper : ByteArray := prog_1_method_41_code
noncomputable def yX7_upper : MethodName := ⟨RX7, "upper", "()J"⟩
noncomputable abbrev cX7_lower : ByteArray := prog_1_method_42_code
noncomputable def yX7_lower : MethodName := ⟨RX7, "lower", "()J"⟩
noncomputable abbrev cX7_count : ByteArray := prog_1_method_43_code
noncomputable def yX7_count : MethodName := ⟨RX7, "count", "(I)I"⟩
noncomputable abbrev cX7_finding : ByteArray := prog_1_method_44_code
noncomputable def yX7_finding : MethodName := ⟨RX7, "finding", "()I"⟩
noncomputable abbrev cX7_findings : ByteArray := prog_1_method_45_code
noncomputable def yX7_findings : MethodName := ⟨RX7, "findings", "(I)I"⟩
noncomputable abbrev cX7_digest : ByteArray := prog_1_method_46_code
noncomputable def yX7_digest : MethodName := ⟨RX7, "digest", "()J"⟩
noncomputable abbrev cX7_find : ByteArray := prog_1_method_47_code
noncomputable def yX7_find : MethodName := ⟨RX7, "find", "(I)I"⟩
noncomputable abbrev cX7_counted : ByteArray := prog_1_method_48_code
noncomputable def yX7_counted : MethodName := ⟨RX7, "counted", "(I)I"⟩
noncomputable abbrev cX7_keptHouses : ByteArray := prog_1_method_49_code
noncomputable def yX7_keptHouses : MethodName := ⟨RX7, "keptHouses", "()I"⟩
noncomputable abbrev cX7_tellRatio : ByteArray := prog_1_method_50_code
noncomputable def yX7_tellRatio : MethodName := ⟨RX7, "tellRatio", "(JJ)V"⟩
noncomputable abbrev cX7_commonDivisor : ByteArray := prog_1_method_51_code
noncomputable def yX7_commonDivisor : MethodName := ⟨RX7, "commonDivisor", "(JJ)J"⟩
noncomputable abbrev cX7_troubleOfPairs : ByteArray := prog_1_method_52_code
noncomputable def yX7_troubleOfPairs : MethodName := ⟨RX7, "troubleOfPairs", "(I)I"⟩
noncomputable abbrev cX7_fitsPairs : ByteArray := prog_1_method_53_code
noncomputable def yX7_fitsPairs : MethodName := ⟨RX7, "fitsPairs", "(III)Z"⟩
noncomputable abbrev cX7_shopTakes : ByteArray := prog_1_method_54_code
noncomputable def yX7_shopTakes : MethodName := ⟨RX7, "shopTakes", "(LLargerPacket$House;[II)I"⟩
noncomputable abbrev cX7_buyerPays : ByteArray := prog_1_method_55_code
noncomputable def yX7_buyerPays : MethodName := ⟨RX7, "buyerPays", "(LLargerPacket$House;[I)I"⟩
noncomputable abbrev cX7_weighWays : ByteArray := prog_1_method_56_code
noncomputable def yX7_weighWays : MethodName := ⟨RX7, "weighWays", "(I)J"⟩
noncomputable def RX8 : String := "LargerPacketModel"
noncomputable def TX8 : u_T := fun k => match k with
  | 0 => ("LargerPacketModel", "row", "[I", true)
  | 1 => ("LargerPacketModel", "need", "I", false)
  | 2 => ("LargerPacketModel", "room", "I", false)
  | 3 => ("LargerPacketModel", "packets", "I", false)
  | 4 => ("LargerPacketModel", "kinds", "[I", true)
  | 5 => ("LargerPacketModel", "keeps", "[I", true)
  | 6 => ("LargerPacketModel", "sizes", "[I", true)
  | 7 => ("LargerPacketModel", "items", "[I", true)
  | 8 => ("LargerPacketModel", "lengths", "[I", true)
  | 9 => ("LargerPacketModel", "bytes", "[I", true)
  | 10 => ("LargerPacketModel", "asked", "I", false)
  | 11 => ("LargerPacketModel", "upper", "J", false)
  | 12 => ("LargerPacketModel", "lower", "J", false)
  | 13 => ("LargerPacketModel", "finding", "I", false)
  | 14 => ("LargerPacketModel", "findings", "[I", true)
  | 15 => ("LargerPacketModel", "from", "I", false)
  | 16 => ("LargerPacketModel", "place", "I", false)
  | 17 => ("LargerPacketModel", "end", "I", false)
  | 18 => ("LargerPacketModel", "readNeed", "I", false)
  | 19 => ("LargerPacketModel", "readRoom", "I", false)
  | 20 => ("LargerPacketModel", "readPackets", "[I", true)
  | 21 => ("LargerPacketModel", "readMany", "I", false)
  | _ => ("LargerPacketModel", "shopPrices", "[I", true)
noncomputable def tyX8 : Nat → FieldType := fun k => match k with
  | 0 => .array .int
  | 1 => .int
  | 2 => .int
  | 3 => .int
  | 4 => .array .int
  | 5 => .array .int
  | 6 => .array .int
  | 7 => .array .int
  | 8 => .array .int
  | 9 => .array .int
  | 10 => .int
  | 11 => .long
  | 12 => .long
  | 13 => .int
  | 14 => .array .int
  | 15 => .int
  | 16 => .int
  | 17 => .int
  | 18 => .int
  | 19 => .int
  | 20 => .array .int
  | 21 => .int
  | _ => .array .int
noncomputable abbrev wsX80 : List Cond := u_ws RX8 TX8 23
theorem nmX8 : ∀ a, a < 23 → ∀ b, b < 23 → a ≠ b → (TX8 a).2.1 ≠ (TX8 b).2.1 := by decide +kernel
theorem tyX8_ok : ∀ k, k < 23 → parseFieldDescriptor (TX8 k).2.2.1 = some (tyX8 k) := by decide +kernel
noncomputable abbrev cX8_init : ByteArray := prog_10_method_1_code
noncomputable def yX8_init : MethodName := ⟨RX8, "<init>", "()V"⟩
noncomputable abbrev cX8_some : ByteArray := prog_10_method_2_code
noncomputable def yX8_some : MethodName := ⟨RX8, "some", "(I)I"⟩
noncomputable abbrev cX8_in : ByteArray := prog_10_method_3_code
noncomputable def yX8_in : MethodName := ⟨RX8, "in", "(JJJ)Z"⟩
noncomputable abbrev cX8_has : ByteArray := prog_10_method_4_code
noncomputable def yX8_has : MethodName := ⟨RX8, "has", "(II)Z"⟩
noncomputable abbrev cX8_find : ByteArray := prog_10_method_5_code
noncomputable def yX8_find : MethodName := ⟨RX8, "find", "(I)I"⟩
noncomputable abbrev cX8_tell : ByteArray := prog_10_method_6_code
noncomputable def yX8_tell : MethodName := ⟨RX8, "tell", "(I)I"⟩
noncomputable abbrev cX8_isRow : ByteArray := prog_10_method_7_code
noncomputable def yX8_isRow : MethodName := ⟨RX8, "isRow", "(I)Z"⟩
noncomputable abbrev cX8_isText : ByteArray := prog_10_method_8_code
noncomputable def yX8_isText : MethodName := ⟨RX8, "isText", "(I)Z"⟩
noncomputable abbrev cX8_row : ByteArray := prog_10_method_9_code
noncomputable def yX8_row : MethodName := ⟨RX8, "row", "(II)I"⟩
noncomputable abbrev cX8_makeRow : ByteArray := prog_10_method_10_code
noncomputable def yX8_makeRow : MethodName := ⟨RX8, "makeRow", "(II)V"⟩
noncomputable abbrev cX8_refused : ByteArray := prog_10_method_11_code
noncomputable def yX8_refused : MethodName := ⟨RX8, "refused", "(II)I"⟩
noncomputable abbrev cX8_lay : ByteArray := prog_10_method_12_code
noncomputable def yX8_lay : MethodName := ⟨RX8, "lay", "(III)I"⟩
noncomputable abbrev cX8_at : ByteArray := prog_10_method_13_code
noncomputable def yX8_at : MethodName := ⟨RX8, "at", "(II)I"⟩
noncomputable abbrev cX8_tear : ByteArray := prog_10_method_14_code
noncomputable def yX8_tear : MethodName := ⟨RX8, "tear", "(I)I"⟩
noncomputable abbrev cX8_isSpan : ByteArray := prog_10_method_15_code
noncomputable def yX8_isSpan : MethodName := ⟨RX8, "isSpan", "(III)Z"⟩
noncomputable abbrev cX8_copy : ByteArray := prog_10_method_16_code
noncomputable def yX8_copy : MethodName := ⟨RX8, "copy", "(IIIII)I"⟩
noncomputable abbrev cX8_mean : ByteArray := prog_10_method_17_code
noncomputable def yX8_mean : MethodName := ⟨RX8, "mean", "(I)I"⟩
noncomputable abbrev cX8_text : ByteArray := prog_10_method_18_code
noncomputable def yX8_text : MethodName := ⟨RX8, "text", "(II)I"⟩
noncomputable abbrev cX8_put : ByteArray := prog_10_method_19_code
noncomputable def yX8_put : MethodName := ⟨RX8, "put", "(III)I"⟩
noncomputable abbrev cX8_here : ByteArray := prog_10_method_20_code
noncomputable def yX8_here : MethodName := ⟨RX8, "here", "()I"⟩
noncomputable abbrev cX8_skip : ByteArray := prog_10_method_21_code
noncomputable def yX8_skip : MethodName := ⟨RX8, "skip", "()V"⟩
noncomputable abbrev cX8_figure : ByteArray := prog_10_method_22_code
noncomputable def yX8_figure : MethodName := ⟨RX8, "figure", "(II)I"⟩
noncomputable abbrev cX8_twoFigures : ByteArray := prog_10_method_23_code
noncomputable def yX8_twoFigures : MethodName := ⟨RX8, "twoFigures", "()I"⟩
noncomputable abbrev cX8_readsNeed : ByteArray := prog_10_method_24_code
noncomputable def yX8_readsNeed : MethodName := ⟨RX8, "readsNeed", "()Z"⟩
noncomputable abbrev cX8_kindOfLetter : ByteArray := prog_10_method_25_code
noncomputable def yX8_kindOfLetter : MethodName := ⟨RX8, "kindOfLetter", "(I)I"⟩
noncomputable abbrev cX8_readsPacket : ByteArray := prog_10_method_26_code
noncomputable def yX8_readsPacket : MethodName := ⟨RX8, "readsPacket", "()Z"⟩
noncomputable abbrev cX8_faultOf : ByteArray := prog_10_method_27_code
noncomputable def yX8_faultOf : MethodName := ⟨RX8, "faultOf", "(I)I"⟩
noncomputable abbrev cX8_fault : ByteArray := prog_10_method_28_code
noncomputable def yX8_fault : MethodName := ⟨RX8, "fault", "(I)I"⟩
noncomputable abbrev cX8_house : ByteArray := prog_10_method_29_code
noncomputable def yX8_house : MethodName := ⟨RX8, "house", "(I)I"⟩
noncomputable abbrev cX8_isPacket : ByteArray := prog_10_method_30_code
noncomputable def yX8_isPacket : MethodName := ⟨RX8, "isPacket", "(I)Z"⟩
noncomputable abbrev cX8_costBy : ByteArray := prog_10_method_31_code
noncomputable def yX8_costBy : MethodName := ⟨RX8, "costBy", "(IIII)I"⟩
noncomputable abbrev cX8_costOf : ByteArray := prog_10_method_32_code
noncomputable def yX8_costOf : MethodName := ⟨RX8, "costOf", "(III)I"⟩
noncomputable abbrev cX8_gotBy : ByteArray := prog_10_method_33_code
noncomputable def yX8_gotBy : MethodName := ⟨RX8, "gotBy", "(II)I"⟩
noncomputable abbrev cX8_got : ByteArray := prog_10_method_34_code
noncomputable def yX8_got : MethodName := ⟨RX8, "got", "(II)I"⟩
noncomputable abbrev cX8_keepsOf : ByteArray := prog_10_method_35_code
noncomputable def yX8_keepsOf : MethodName := ⟨RX8, "keepsOf", "(I)I"⟩
noncomputable abbrev cX8_toldOf : ByteArray := prog_10_method_36_code
noncomputable def yX8_toldOf : MethodName := ⟨RX8, "toldOf", "(II)I"⟩
noncomputable abbrev cX8_packet : ByteArray := prog_10_method_37_code
noncomputable def yX8_packet : MethodName := ⟨RX8, "packet", "(II)I"⟩
noncomputable abbrev cX8_isOf : ByteArray := prog_10_method_38_code
noncomputable def yX8_isOf : MethodName := ⟨RX8, "isOf", "(II)Z"⟩
noncomputable abbrev cX8_mark : ByteArray := prog_10_method_39_code
noncomputable def yX8_mark : MethodName := ⟨RX8, "mark", "(II)I"⟩
noncomputable abbrev cX8_larder : ByteArray := prog_10_method_40_code
noncomputable def yX8_larder : MethodName := ⟨RX8, "larder", "(I)I"⟩
noncomputable abbrev cX8_inLarder : ByteArray := prog_10_method_41_code
noncomputable def yX8_inLarder : MethodName := ⟨RX8, "inLarder", "(I)I"⟩
noncomputable abbrev cX8_keepPast : ByteArray := prog_10_method_42_code
noncomputable def yX8_keepPast : MethodName := ⟨RX8, "keepPast", "()V"⟩
noncomputable abbrev cX8_hasRoom : ByteArray := prog_10_method_43_code
noncomputable def yX8_hasRoom : MethodName := ⟨RX8, "hasRoom", "(III)Z"⟩
noncomputable abbrev cX8_buysAt : ByteArray := prog_10_method_44_code
noncomputable def yX8_buysAt : MethodName := ⟨RX8, "buysAt", "(III)I"⟩
noncomputable abbrev cX8_buy : ByteArray := prog_10_method_45_code
noncomputable def yX8_buy : MethodName := ⟨RX8, "buy", "(II)I"⟩
noncomputable abbrev cX8_pass : ByteArray := prog_10_method_46_code
noncomputable def yX8_pass : MethodName := ⟨RX8, "pass", "(I)I"⟩
noncomputable abbrev cX8_week : ByteArray := prog_10_method_47_code
noncomputable def yX8_week : MethodName := ⟨RX8, "week", "()I"⟩
noncomputable abbrev cX8_shrink : ByteArray := prog_10_method_48_code
noncomputable def yX8_shrink : MethodName := ⟨RX8, "shrink", "(I)I"⟩
noncomputable abbrev cX8_becomes : ByteArray := prog_10_method_49_code
noncomputable def yX8_becomes : MethodName := ⟨RX8, "becomes", "(II)I"⟩
noncomputable abbrev cX8_price : ByteArray := prog_10_method_50_code
noncomputable def yX8_price : MethodName := ⟨RX8, "price", "(II)I"⟩
noncomputable abbrev cX8_card : ByteArray := prog_10_method_51_code
noncomputable def yX8_card : MethodName := ⟨RX8, "card", "(I)I"⟩
noncomputable abbrev cX8_undo : ByteArray := prog_10_method_52_code
noncomputable def yX8_undo : MethodName := ⟨RX8, "undo", "(I)I"⟩
noncomputable abbrev cX8_copyHouse : ByteArray := prog_10_method_53_code
noncomputable def yX8_copyHouse : MethodName := ⟨RX8, "copyHouse", "(II)V"⟩
noncomputable abbrev cX8_keep : ByteArray := prog_10_method_54_code
noncomputable def yX8_keep : MethodName := ⟨RX8, "keep", "(I)I"⟩
noncomputable abbrev cX8_on : ByteArray := prog_10_method_55_code
noncomputable def yX8_on : MethodName := ⟨RX8, "on", "(I)I"⟩
noncomputable abbrev cX8_costs : ByteArray := prog_10_method_56_code
noncomputable def yX8_costs : MethodName := ⟨RX8, "costs", "(II)I"⟩
noncomputable abbrev cX8_tellParts : ByteArray := prog_10_method_57_code
noncomputable def yX8_tellParts : MethodName := ⟨RX8, "tellParts", "(JJ)I"⟩
noncomputable abbrev cX8_rate : ByteArray := prog_10_method_58_code
noncomputable def yX8_rate : MethodName := ⟨RX8, "rate", "(I)I"⟩
noncomputable abbrev cX8_rateTo : ByteArray := prog_10_method_59_code
noncomputable def yX8_rateTo : MethodName := ⟨RX8, "rateTo", "(II)I"⟩
noncomputable abbrev cX8_cheapest : ByteArray := prog_10_method_60_code
noncomputable def yX8_cheapest : MethodName := ⟨RX8, "cheapest", "()I"⟩
noncomputable abbrev cX8_larger : ByteArray := prog_10_method_61_code
noncomputable def yX8_larger : MethodName := ⟨RX8, "larger", "()I"⟩
noncomputable abbrev cX8_power : ByteArray := prog_10_method_62_code
noncomputable def yX8_power : MethodName := ⟨RX8, "power", "(II)I"⟩
noncomputable abbrev cX8_least : ByteArray := prog_10_method_63_code
noncomputable def yX8_least : MethodName := ⟨RX8, "least", "(II)I"⟩
noncomputable abbrev cX8_layTried : ByteArray := prog_10_method_64_code
noncomputable def yX8_layTried : MethodName := ⟨RX8, "layTried", "()V"⟩
noncomputable abbrev cX8_chosen : ByteArray := prog_10_method_65_code
noncomputable def yX8_chosen : MethodName := ⟨RX8, "chosen", "(III)I"⟩
noncomputable abbrev cX8_isWell : ByteArray := prog_10_method_66_code
noncomputable def yX8_isWell : MethodName := ⟨RX8, "isWell", "(II)Z"⟩
noncomputable abbrev cX8_weeks : ByteArray := prog_10_method_67_code
noncomputable def yX8_weeks : MethodName := ⟨RX8, "weeks", "(II)I"⟩
noncomputable abbrev cX8_waste : ByteArray := prog_10_method_68_code
noncomputable def yX8_waste : MethodName := ⟨RX8, "waste", "(I)I"⟩
noncomputable abbrev cX8_off : ByteArray := prog_10_method_69_code
noncomputable def yX8_off : MethodName := ⟨RX8, "off", "(I)I"⟩
noncomputable abbrev cX8_lasts : ByteArray := prog_10_method_70_code
noncomputable def yX8_lasts : MethodName := ⟨RX8, "lasts", "()I"⟩
noncomputable abbrev cX8_looks : ByteArray := prog_10_method_71_code
noncomputable def yX8_looks : MethodName := ⟨RX8, "looks", "(II)I"⟩
noncomputable abbrev cX8_noPairs : ByteArray := prog_10_method_72_code
noncomputable def yX8_noPairs : MethodName := ⟨RX8, "noPairs", "(I)I"⟩
noncomputable abbrev cX8_isSo : ByteArray := prog_10_method_73_code
noncomputable def yX8_isSo : MethodName := ⟨RX8, "isSo", "(III)Z"⟩
noncomputable abbrev cX8_kinds : ByteArray := prog_10_method_74_code
noncomputable def yX8_kinds : MethodName := ⟨RX8, "kinds", "(II)I"⟩
noncomputable abbrev cX8_prices : ByteArray := prog_10_method_75_code
noncomputable def yX8_prices : MethodName := ⟨RX8, "prices", "(II)I"⟩
noncomputable abbrev cX8_grams : ByteArray := prog_10_method_76_code
noncomputable def yX8_grams : MethodName := ⟨RX8, "grams", "(III)I"⟩
noncomputable abbrev cX8_worthAt : ByteArray := prog_10_method_77_code
noncomputable def yX8_worthAt : MethodName := ⟨RX8, "worthAt", "(II)I"⟩
noncomputable abbrev cX8_layShop : ByteArray := prog_10_method_78_code
noncomputable def yX8_layShop : MethodName := ⟨RX8, "layShop", "(II)V"⟩
noncomputable abbrev cX8_leastWorth : ByteArray := prog_10_method_79_code
noncomputable def yX8_leastWorth : MethodName := ⟨RX8, "leastWorth", "(I)I"⟩
noncomputable abbrev cX8_lastShop : ByteArray := prog_10_method_80_code
noncomputable def yX8_lastShop : MethodName := ⟨RX8, "lastShop", "(I)I"⟩
noncomputable abbrev cX8_firstShop : ByteArray := prog_10_method_81_code
noncomputable def yX8_firstShop : MethodName := ⟨RX8, "firstShop", "()I"⟩
noncomputable abbrev cX8_shop : ByteArray := prog_10_method_82_code
noncomputable def yX8_shop : MethodName := ⟨RX8, "shop", "(I)I"⟩
noncomputable abbrev cX8_tellThere : ByteArray := prog_10_method_83_code
noncomputable def yX8_tellThere : MethodName := ⟨RX8, "tellThere", "(IIZ)I"⟩
noncomputable abbrev cX8_odds : ByteArray := prog_10_method_84_code
noncomputable def yX8_odds : MethodName := ⟨RX8, "odds", "(II)I"⟩
noncomputable abbrev cX8_mid : ByteArray := prog_10_method_85_code
noncomputable def yX8_mid : MethodName := ⟨RX8, "mid", "(I)I"⟩
noncomputable abbrev cX8_lots : ByteArray := prog_10_method_86_code
noncomputable def yX8_lots : MethodName := ⟨RX8, "lots", "(II)I"⟩
noncomputable abbrev cX8_asked : ByteArray := prog_10_method_87_code
noncomputable def yX8_asked : MethodName := ⟨RX8, "asked", "()I"⟩
noncomputable abbrev cX8_upper : ByteArray := prog_10_method_88_code
noncomputable def yX8_upper : MethodName := ⟨RX8, "upper", "()J"⟩
noncomputable abbrev cX8_lower : ByteArray := prog_10_method_89_code
noncomputable def yX8_lower : MethodName := ⟨RX8, "lower", "()J"⟩
noncomputable abbrev cX8_those : ByteArray := prog_10_method_90_code
noncomputable def yX8_those : MethodName := ⟨RX8, "those", "(I)I"⟩
noncomputable abbrev cX8_thereOf : ByteArray := prog_10_method_91_code
noncomputable def yX8_thereOf : MethodName := ⟨RX8, "thereOf", "(I)I"⟩
noncomputable abbrev cX8_countOf : ByteArray := prog_10_method_92_code
noncomputable def yX8_countOf : MethodName := ⟨RX8, "countOf", "(I)I"⟩
noncomputable abbrev cX8_count : ByteArray := prog_10_method_93_code
noncomputable def yX8_count : MethodName := ⟨RX8, "count", "(I)I"⟩
noncomputable abbrev cX8_finding : ByteArray := prog_10_method_94_code
noncomputable def yX8_finding : MethodName := ⟨RX8, "finding", "()I"⟩
noncomputable abbrev cX8_findings : ByteArray := prog_10_method_95_code
noncomputable def yX8_findings : MethodName := ⟨RX8, "findings", "(I)I"⟩
noncomputable abbrev cX8_digest : ByteArray := prog_10_method_96_code
noncomputable def yX8_digest : MethodName := ⟨RX8, "digest", "()J"⟩
noncomputable def RJ6 : String := "java/lang/Integer"
noncomputable def TJ6 : u_T := fun k => match k with
  | _ => ("", "", "", false)
noncomputable def tyJ6 : Nat → FieldType := fun k => match k with
  | _ => .int
noncomputable abbrev wsJ60 : List Cond := u_ws RJ6 TJ6 0
noncomputable abbrev cJ6_compare_7cf53 : ByteArray := prog_11_method_40_code
noncomputable def yJ6_compare_7cf53 : MethodName := ⟨RJ6, "compare", "(II)I"⟩
noncomputable def RJ9 : String := "java/lang/Math"
noncomputable def TJ9 : u_T := fun k => match k with
  | _ => ("", "", "", false)
noncomputable def tyJ9 : Nat → FieldType := fun k => match k with
  | _ => .int
noncomputable abbrev wsJ90 : List Cond := u_ws RJ9 TJ9 0
noncomputable abbrev cJ9_max_7cf53 : ByteArray := prog_12_method_65_code
noncomputable def yJ9_max_7cf53 : MethodName := ⟨RJ9, "max", "(II)I"⟩
noncomputable abbrev cJ9_min_7cf53 : ByteArray := prog_12_method_69_code
noncomputable def yJ9_min_7cf53 : MethodName := ⟨RJ9, "min", "(II)I"⟩
noncomputable def RJ10 : String := "java/lang/System"
noncomputable def TJ10 : u_T := fun k => match k with
  | _ => ("", "", "", false)
noncomputable def tyJ10 : Nat → FieldType := fun k => match k with
  | _ => .int
noncomputable abbrev wsJ100 : List Cond := u_ws RJ10 TJ10 0
noncomputable def RJ7 : String := "java/util/Arrays"
noncomputable def TJ7 : u_T := fun k => match k with
  | _ => ("", "", "", false)
noncomputable def tyJ7 : Nat → FieldType := fun k => match k with
  | _ => .int
noncomputable abbrev wsJ70 : List Cond := u_ws RJ7 TJ7 0
noncomputable abbrev cJ7_fill_d0a16 : ByteArray := prog_14_method_101_code
noncomputable def yJ7_fill_d0a16 : MethodName := ⟨RJ7, "fill", "([JJ)V"⟩
noncomputable abbrev cJ7_fill_53178 : ByteArray := prog_14_method_103_code
noncomputable def yJ7_fill_53178 : MethodName := ⟨RJ7, "fill", "([II)V"⟩
noncomputable def RL : String := "LargerPacketLaw"
noncomputable abbrev vwCl : List vw_C := [(RX0, TX0, 1), (RX1, TX1, 16), (RX3, TX3, 1), (RX4, TX4, 6), (RX5, TX5, 5), (RX6, TX6, 2), (RX7, TX7, 17), (RX8, TX8, 23)]
