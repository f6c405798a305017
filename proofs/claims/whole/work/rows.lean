section
-- ===== PART A: goes FIRST, ahead of the names: the tables' words, and 'selects' of the private methods out of them =====
/-- a private method of a class that the tables say can be made, by its rows of tables_1 -/
def lw_okq (q : MethodName × Nat) : Prop := (q.1.cls ≠ "java/lang/invoke/MethodHandle" ∧ q.1.cls ≠ "java/lang/invoke/VarHandle") ∧ Cond.instantiable q.1.cls q.2 ∈ tables_1 ∧ Cond.privateMethod q.1 ∈ tables_1 ∧ Cond.instanceMethod q.1 ∈ tables_1
theorem lw_p0 : lw_okq (⟨"MarketSockets$PlanText", "readNumber", "(III)Z"⟩, 5) := ⟨⟨by decide +kernel, by decide +kernel⟩, List.mem_of_getElem? (i := 180) (by decide +kernel), List.mem_of_getElem? (i := 247) (by decide +kernel), List.mem_of_getElem? (i := 248) (by decide +kernel)⟩
theorem lw_p1 : lw_okq (⟨"MarketSockets$PlanText", "digitAt", "(I)I"⟩, 5) := ⟨⟨by decide +kernel, by decide +kernel⟩, List.mem_of_getElem? (i := 180) (by decide +kernel), List.mem_of_getElem? (i := 251) (by decide +kernel), List.mem_of_getElem? (i := 252) (by decide +kernel)⟩
theorem lw_p2 : lw_okq (⟨"java/lang/Throwable", "fillInStackTrace", "(I)Ljava/lang/Throwable;"⟩, 6) := ⟨⟨by decide +kernel, by decide +kernel⟩, List.mem_of_getElem? (i := 313) (by decide +kernel), List.mem_of_getElem? (i := 311) (by decide +kernel), List.mem_of_getElem? (i := 312) (by decide +kernel)⟩
theorem lw_p3 : lw_okq (⟨"MarketSockets", "checkStall", "(I)V"⟩, 6) := ⟨⟨by decide +kernel, by decide +kernel⟩, List.mem_of_getElem? (i := 17) (by decide +kernel), List.mem_of_getElem? (i := 422) (by decide +kernel), List.mem_of_getElem? (i := 423) (by decide +kernel)⟩
theorem lw_p4 : lw_okq (⟨"MarketSockets", "isTakenFor", "(II)Z"⟩, 6) := ⟨⟨by decide +kernel, by decide +kernel⟩, List.mem_of_getElem? (i := 17) (by decide +kernel), List.mem_of_getElem? (i := 436) (by decide +kernel), List.mem_of_getElem? (i := 437) (by decide +kernel)⟩
theorem lw_p5 : lw_okq (⟨"MarketSockets", "tryAt", "(III)V"⟩, 6) := ⟨⟨by decide +kernel, by decide +kernel⟩, List.mem_of_getElem? (i := 17) (by decide +kernel), List.mem_of_getElem? (i := 444) (by decide +kernel), List.mem_of_getElem? (i := 445) (by decide +kernel)⟩
theorem lw_p6 : lw_okq (⟨"MarketSockets$Market", "findSources", "()V"⟩, 8) := ⟨⟨by decide +kernel, by decide +kernel⟩, List.mem_of_getElem? (i := 25) (by decide +kernel), List.mem_of_getElem? (i := 475) (by decide +kernel), List.mem_of_getElem? (i := 476) (by decide +kernel)⟩
theorem lw_p7 : lw_okq (⟨"MarketSockets$Market", "shedTooMuch", "(I)V"⟩, 8) := ⟨⟨by decide +kernel, by decide +kernel⟩, List.mem_of_getElem? (i := 25) (by decide +kernel), List.mem_of_getElem? (i := 479) (by decide +kernel), List.mem_of_getElem? (i := 480) (by decide +kernel)⟩
theorem lw_p8 : lw_okq (⟨"MarketSockets$Market", "firstToShed", "(I)I"⟩, 8) := ⟨⟨by decide +kernel, by decide +kernel⟩, List.mem_of_getElem? (i := 25) (by decide +kernel), List.mem_of_getElem? (i := 487) (by decide +kernel), List.mem_of_getElem? (i := 488) (by decide +kernel)⟩
theorem lw_p9 : lw_okq (⟨"MarketSockets$Market", "runMeters", "()V"⟩, 8) := ⟨⟨by decide +kernel, by decide +kernel⟩, List.mem_of_getElem? (i := 25) (by decide +kernel), List.mem_of_getElem? (i := 499) (by decide +kernel), List.mem_of_getElem? (i := 500) (by decide +kernel)⟩
theorem lw_p10 : lw_okq (⟨"MarketSockets", "wouldTripWith", "(II)Z"⟩, 6) := ⟨⟨by decide +kernel, by decide +kernel⟩, List.mem_of_getElem? (i := 17) (by decide +kernel), List.mem_of_getElem? (i := 537) (by decide +kernel), List.mem_of_getElem? (i := 538) (by decide +kernel)⟩
theorem lw_p11 : lw_okq (⟨"MarketSockets", "mixBuffer", "(J)J"⟩, 6) := ⟨⟨by decide +kernel, by decide +kernel⟩, List.mem_of_getElem? (i := 17) (by decide +kernel), List.mem_of_getElem? (i := 552) (by decide +kernel), List.mem_of_getElem? (i := 553) (by decide +kernel)⟩
theorem lw_p12 : lw_okq (⟨"MarketSockets", "doOrders", "()I"⟩, 6) := ⟨⟨by decide +kernel, by decide +kernel⟩, List.mem_of_getElem? (i := 17) (by decide +kernel), List.mem_of_getElem? (i := 689) (by decide +kernel), List.mem_of_getElem? (i := 690) (by decide +kernel)⟩
theorem lw_p13 : lw_okq (⟨"MarketSockets", "doOrder", "()Z"⟩, 6) := ⟨⟨by decide +kernel, by decide +kernel⟩, List.mem_of_getElem? (i := 17) (by decide +kernel), List.mem_of_getElem? (i := 694) (by decide +kernel), List.mem_of_getElem? (i := 695) (by decide +kernel)⟩
theorem lw_p14 : lw_okq (⟨"MarketSocketsModel", "put", "(III)V"⟩, 14) := ⟨⟨by decide +kernel, by decide +kernel⟩, List.mem_of_getElem? (i := 762) (by decide +kernel), List.mem_of_getElem? (i := 768) (by decide +kernel), List.mem_of_getElem? (i := 769) (by decide +kernel)⟩
theorem lw_p15 : lw_okq (⟨"MarketSocketsModel", "save", "()V"⟩, 14) := ⟨⟨by decide +kernel, by decide +kernel⟩, List.mem_of_getElem? (i := 762) (by decide +kernel), List.mem_of_getElem? (i := 830) (by decide +kernel), List.mem_of_getElem? (i := 831) (by decide +kernel)⟩
def lw_privs_1 : List (MethodName × Nat) := [(⟨"MarketSockets$PlanText", "readNumber", "(III)Z"⟩, 5), (⟨"MarketSockets$PlanText", "digitAt", "(I)I"⟩, 5), (⟨"java/lang/Throwable", "fillInStackTrace", "(I)Ljava/lang/Throwable;"⟩, 6), (⟨"MarketSockets", "checkStall", "(I)V"⟩, 6), (⟨"MarketSockets", "isTakenFor", "(II)Z"⟩, 6), (⟨"MarketSockets", "tryAt", "(III)V"⟩, 6), (⟨"MarketSockets$Market", "findSources", "()V"⟩, 8), (⟨"MarketSockets$Market", "shedTooMuch", "(I)V"⟩, 8), (⟨"MarketSockets$Market", "firstToShed", "(I)I"⟩, 8), (⟨"MarketSockets$Market", "runMeters", "()V"⟩, 8), (⟨"MarketSockets", "wouldTripWith", "(II)Z"⟩, 6), (⟨"MarketSockets", "mixBuffer", "(J)J"⟩, 6), (⟨"MarketSockets", "doOrders", "()I"⟩, 6), (⟨"MarketSockets", "doOrder", "()Z"⟩, 6), (⟨"MarketSocketsModel", "put", "(III)V"⟩, 14), (⟨"MarketSocketsModel", "save", "()V"⟩, 14)]
theorem lw_r1 : ∀ q ∈ lw_privs_1, lw_okq q := List.forall_mem_cons.mpr ⟨lw_p0, List.forall_mem_cons.mpr ⟨lw_p1, List.forall_mem_cons.mpr ⟨lw_p2, List.forall_mem_cons.mpr ⟨lw_p3, List.forall_mem_cons.mpr ⟨lw_p4, List.forall_mem_cons.mpr ⟨lw_p5, List.forall_mem_cons.mpr ⟨lw_p6, List.forall_mem_cons.mpr ⟨lw_p7, List.forall_mem_cons.mpr ⟨lw_p8, List.forall_mem_cons.mpr ⟨lw_p9, List.forall_mem_cons.mpr ⟨lw_p10, List.forall_mem_cons.mpr ⟨lw_p11, List.forall_mem_cons.mpr ⟨lw_p12, List.forall_mem_cons.mpr ⟨lw_p13, List.forall_mem_cons.mpr ⟨lw_p14, List.forall_mem_cons.mpr ⟨lw_p15, fun _ h => absurd h List.not_mem_nil⟩⟩⟩⟩⟩⟩⟩⟩⟩⟩⟩⟩⟩⟩⟩⟩
theorem lw_p16 : lw_okq (⟨"MarketSocketsModel", "stallComes", "(IIII)I"⟩, 14) := ⟨⟨by decide +kernel, by decide +kernel⟩, List.mem_of_getElem? (i := 762) (by decide +kernel), List.mem_of_getElem? (i := 834) (by decide +kernel), List.mem_of_getElem? (i := 835) (by decide +kernel)⟩
theorem lw_p17 : lw_okq (⟨"MarketSocketsModel", "lay", "(III)V"⟩, 14) := ⟨⟨by decide +kernel, by decide +kernel⟩, List.mem_of_getElem? (i := 762) (by decide +kernel), List.mem_of_getElem? (i := 838) (by decide +kernel), List.mem_of_getElem? (i := 839) (by decide +kernel)⟩
theorem lw_p18 : lw_okq (⟨"MarketSocketsModel", "whyNotPlug", "(II)I"⟩, 14) := ⟨⟨by decide +kernel, by decide +kernel⟩, List.mem_of_getElem? (i := 762) (by decide +kernel), List.mem_of_getElem? (i := 846) (by decide +kernel), List.mem_of_getElem? (i := 847) (by decide +kernel)⟩
theorem lw_p19 : lw_okq (⟨"MarketSocketsModel", "isStall", "(I)Z"⟩, 14) := ⟨⟨by decide +kernel, by decide +kernel⟩, List.mem_of_getElem? (i := 762) (by decide +kernel), List.mem_of_getElem? (i := 850) (by decide +kernel), List.mem_of_getElem? (i := 851) (by decide +kernel)⟩
theorem lw_p20 : lw_okq (⟨"MarketSocketsModel", "stallAt", "(I)I"⟩, 14) := ⟨⟨by decide +kernel, by decide +kernel⟩, List.mem_of_getElem? (i := 762) (by decide +kernel), List.mem_of_getElem? (i := 857) (by decide +kernel), List.mem_of_getElem? (i := 858) (by decide +kernel)⟩
theorem lw_p21 : lw_okq (⟨"MarketSocketsModel", "of", "(II)I"⟩, 14) := ⟨⟨by decide +kernel, by decide +kernel⟩, List.mem_of_getElem? (i := 762) (by decide +kernel), List.mem_of_getElem? (i := 861) (by decide +kernel), List.mem_of_getElem? (i := 862) (by decide +kernel)⟩
theorem lw_p22 : lw_okq (⟨"MarketSocketsModel", "by", "(II)I"⟩, 14) := ⟨⟨by decide +kernel, by decide +kernel⟩, List.mem_of_getElem? (i := 762) (by decide +kernel), List.mem_of_getElem? (i := 880) (by decide +kernel), List.mem_of_getElem? (i := 881) (by decide +kernel)⟩
theorem lw_p23 : lw_okq (⟨"MarketSocketsModel", "putOn", "(I)V"⟩, 14) := ⟨⟨by decide +kernel, by decide +kernel⟩, List.mem_of_getElem? (i := 762) (by decide +kernel), List.mem_of_getElem? (i := 888) (by decide +kernel), List.mem_of_getElem? (i := 889) (by decide +kernel)⟩
theorem lw_p24 : lw_okq (⟨"MarketSocketsModel", "drawing", "(I)I"⟩, 14) := ⟨⟨by decide +kernel, by decide +kernel⟩, List.mem_of_getElem? (i := 762) (by decide +kernel), List.mem_of_getElem? (i := 892) (by decide +kernel), List.mem_of_getElem? (i := 893) (by decide +kernel)⟩
theorem lw_p25 : lw_okq (⟨"MarketSocketsModel", "isOn", "(II)Z"⟩, 14) := ⟨⟨by decide +kernel, by decide +kernel⟩, List.mem_of_getElem? (i := 762) (by decide +kernel), List.mem_of_getElem? (i := 896) (by decide +kernel), List.mem_of_getElem? (i := 897) (by decide +kernel)⟩
theorem lw_p26 : lw_okq (⟨"MarketSocketsModel", "breakerOf", "(I)I"⟩, 14) := ⟨⟨by decide +kernel, by decide +kernel⟩, List.mem_of_getElem? (i := 762) (by decide +kernel), List.mem_of_getElem? (i := 900) (by decide +kernel), List.mem_of_getElem? (i := 901) (by decide +kernel)⟩
theorem lw_p27 : lw_okq (⟨"MarketSocketsModel", "reason", "(I)I"⟩, 14) := ⟨⟨by decide +kernel, by decide +kernel⟩, List.mem_of_getElem? (i := 762) (by decide +kernel), List.mem_of_getElem? (i := 904) (by decide +kernel), List.mem_of_getElem? (i := 905) (by decide +kernel)⟩
theorem lw_p28 : lw_okq (⟨"MarketSocketsModel", "wantsLoad", "(I)Z"⟩, 14) := ⟨⟨by decide +kernel, by decide +kernel⟩, List.mem_of_getElem? (i := 762) (by decide +kernel), List.mem_of_getElem? (i := 908) (by decide +kernel), List.mem_of_getElem? (i := 909) (by decide +kernel)⟩
theorem lw_p29 : lw_okq (⟨"MarketSocketsModel", "hours", "(I)I"⟩, 14) := ⟨⟨by decide +kernel, by decide +kernel⟩, List.mem_of_getElem? (i := 762) (by decide +kernel), List.mem_of_getElem? (i := 920) (by decide +kernel), List.mem_of_getElem? (i := 921) (by decide +kernel)⟩
theorem lw_p30 : lw_okq (⟨"MarketSocketsModel", "hour", "()I"⟩, 14) := ⟨⟨by decide +kernel, by decide +kernel⟩, List.mem_of_getElem? (i := 762) (by decide +kernel), List.mem_of_getElem? (i := 924) (by decide +kernel), List.mem_of_getElem? (i := 925) (by decide +kernel)⟩
theorem lw_p31 : lw_okq (⟨"MarketSocketsModel", "shedByRank", "(I)V"⟩, 14) := ⟨⟨by decide +kernel, by decide +kernel⟩, List.mem_of_getElem? (i := 762) (by decide +kernel), List.mem_of_getElem? (i := 928) (by decide +kernel), List.mem_of_getElem? (i := 929) (by decide +kernel)⟩
def lw_privs_2 : List (MethodName × Nat) := [(⟨"MarketSocketsModel", "stallComes", "(IIII)I"⟩, 14), (⟨"MarketSocketsModel", "lay", "(III)V"⟩, 14), (⟨"MarketSocketsModel", "whyNotPlug", "(II)I"⟩, 14), (⟨"MarketSocketsModel", "isStall", "(I)Z"⟩, 14), (⟨"MarketSocketsModel", "stallAt", "(I)I"⟩, 14), (⟨"MarketSocketsModel", "of", "(II)I"⟩, 14), (⟨"MarketSocketsModel", "by", "(II)I"⟩, 14), (⟨"MarketSocketsModel", "putOn", "(I)V"⟩, 14), (⟨"MarketSocketsModel", "drawing", "(I)I"⟩, 14), (⟨"MarketSocketsModel", "isOn", "(II)Z"⟩, 14), (⟨"MarketSocketsModel", "breakerOf", "(I)I"⟩, 14), (⟨"MarketSocketsModel", "reason", "(I)I"⟩, 14), (⟨"MarketSocketsModel", "wantsLoad", "(I)Z"⟩, 14), (⟨"MarketSocketsModel", "hours", "(I)I"⟩, 14), (⟨"MarketSocketsModel", "hour", "()I"⟩, 14), (⟨"MarketSocketsModel", "shedByRank", "(I)V"⟩, 14)]
theorem lw_r2 : ∀ q ∈ lw_privs_2, lw_okq q := List.forall_mem_cons.mpr ⟨lw_p16, List.forall_mem_cons.mpr ⟨lw_p17, List.forall_mem_cons.mpr ⟨lw_p18, List.forall_mem_cons.mpr ⟨lw_p19, List.forall_mem_cons.mpr ⟨lw_p20, List.forall_mem_cons.mpr ⟨lw_p21, List.forall_mem_cons.mpr ⟨lw_p22, List.forall_mem_cons.mpr ⟨lw_p23, List.forall_mem_cons.mpr ⟨lw_p24, List.forall_mem_cons.mpr ⟨lw_p25, List.forall_mem_cons.mpr ⟨lw_p26, List.forall_mem_cons.mpr ⟨lw_p27, List.forall_mem_cons.mpr ⟨lw_p28, List.forall_mem_cons.mpr ⟨lw_p29, List.forall_mem_cons.mpr ⟨lw_p30, List.forall_mem_cons.mpr ⟨lw_p31, fun _ h => absurd h List.not_mem_nil⟩⟩⟩⟩⟩⟩⟩⟩⟩⟩⟩⟩⟩⟩⟩⟩
theorem lw_p32 : lw_okq (⟨"MarketSocketsModel", "carried", "(I)I"⟩, 14) := ⟨⟨by decide +kernel, by decide +kernel⟩, List.mem_of_getElem? (i := 762) (by decide +kernel), List.mem_of_getElem? (i := 932) (by decide +kernel), List.mem_of_getElem? (i := 933) (by decide +kernel)⟩
theorem lw_p33 : lw_okq (⟨"MarketSocketsModel", "firstToShed", "(I)I"⟩, 14) := ⟨⟨by decide +kernel, by decide +kernel⟩, List.mem_of_getElem? (i := 762) (by decide +kernel), List.mem_of_getElem? (i := 936) (by decide +kernel), List.mem_of_getElem? (i := 937) (by decide +kernel)⟩
theorem lw_p34 : lw_okq (⟨"MarketSocketsModel", "goesFirst", "(II)Z"⟩, 14) := ⟨⟨by decide +kernel, by decide +kernel⟩, List.mem_of_getElem? (i := 762) (by decide +kernel), List.mem_of_getElem? (i := 940) (by decide +kernel), List.mem_of_getElem? (i := 941) (by decide +kernel)⟩
theorem lw_p35 : lw_okq (⟨"MarketSocketsModel", "warm", "(I)V"⟩, 14) := ⟨⟨by decide +kernel, by decide +kernel⟩, List.mem_of_getElem? (i := 762) (by decide +kernel), List.mem_of_getElem? (i := 944) (by decide +kernel), List.mem_of_getElem? (i := 945) (by decide +kernel)⟩
theorem lw_p36 : lw_okq (⟨"MarketSocketsModel", "meter", "(I)V"⟩, 14) := ⟨⟨by decide +kernel, by decide +kernel⟩, List.mem_of_getElem? (i := 762) (by decide +kernel), List.mem_of_getElem? (i := 948) (by decide +kernel), List.mem_of_getElem? (i := 949) (by decide +kernel)⟩
theorem lw_p37 : lw_okq (⟨"MarketSocketsModel", "readBuffer", "()I"⟩, 14) := ⟨⟨by decide +kernel, by decide +kernel⟩, List.mem_of_getElem? (i := 762) (by decide +kernel), List.mem_of_getElem? (i := 971) (by decide +kernel), List.mem_of_getElem? (i := 972) (by decide +kernel)⟩
theorem lw_p38 : lw_okq (⟨"MarketSocketsModel", "readOrder", "()V"⟩, 14) := ⟨⟨by decide +kernel, by decide +kernel⟩, List.mem_of_getElem? (i := 762) (by decide +kernel), List.mem_of_getElem? (i := 975) (by decide +kernel), List.mem_of_getElem? (i := 976) (by decide +kernel)⟩
theorem lw_p39 : lw_okq (⟨"MarketSocketsModel", "letter", "()I"⟩, 14) := ⟨⟨by decide +kernel, by decide +kernel⟩, List.mem_of_getElem? (i := 762) (by decide +kernel), List.mem_of_getElem? (i := 979) (by decide +kernel), List.mem_of_getElem? (i := 980) (by decide +kernel)⟩
theorem lw_p40 : lw_okq (⟨"MarketSocketsModel", "wants", "(Z)V"⟩, 14) := ⟨⟨by decide +kernel, by decide +kernel⟩, List.mem_of_getElem? (i := 762) (by decide +kernel), List.mem_of_getElem? (i := 983) (by decide +kernel), List.mem_of_getElem? (i := 984) (by decide +kernel)⟩
theorem lw_p41 : lw_okq (⟨"MarketSocketsModel", "readStall", "(I)V"⟩, 14) := ⟨⟨by decide +kernel, by decide +kernel⟩, List.mem_of_getElem? (i := 762) (by decide +kernel), List.mem_of_getElem? (i := 987) (by decide +kernel), List.mem_of_getElem? (i := 988) (by decide +kernel)⟩
theorem lw_p42 : lw_okq (⟨"MarketSocketsModel", "number", "(II)I"⟩, 14) := ⟨⟨by decide +kernel, by decide +kernel⟩, List.mem_of_getElem? (i := 762) (by decide +kernel), List.mem_of_getElem? (i := 991) (by decide +kernel), List.mem_of_getElem? (i := 992) (by decide +kernel)⟩
theorem lw_p43 : lw_okq (⟨"MarketSocketsModel", "does", "(I)Z"⟩, 14) := ⟨⟨by decide +kernel, by decide +kernel⟩, List.mem_of_getElem? (i := 762) (by decide +kernel), List.mem_of_getElem? (i := 999) (by decide +kernel), List.mem_of_getElem? (i := 1000) (by decide +kernel)⟩
theorem lw_p44 : lw_okq (⟨"MarketSocketsModel", "toldStall", "(II)I"⟩, 14) := ⟨⟨by decide +kernel, by decide +kernel⟩, List.mem_of_getElem? (i := 762) (by decide +kernel), List.mem_of_getElem? (i := 1015) (by decide +kernel), List.mem_of_getElem? (i := 1016) (by decide +kernel)⟩
theorem lw_p45 : lw_okq (⟨"MarketSocketsModel", "fee", "(I)I"⟩, 14) := ⟨⟨by decide +kernel, by decide +kernel⟩, List.mem_of_getElem? (i := 762) (by decide +kernel), List.mem_of_getElem? (i := 1019) (by decide +kernel), List.mem_of_getElem? (i := 1020) (by decide +kernel)⟩
theorem lw_p46 : lw_okq (⟨"MarketSocketsModel", "toldBreaker", "(II)I"⟩, 14) := ⟨⟨by decide +kernel, by decide +kernel⟩, List.mem_of_getElem? (i := 762) (by decide +kernel), List.mem_of_getElem? (i := 1027) (by decide +kernel), List.mem_of_getElem? (i := 1028) (by decide +kernel)⟩
theorem lw_p47 : lw_okq (⟨"MarketSocketsModel", "allLoads", "(I)I"⟩, 14) := ⟨⟨by decide +kernel, by decide +kernel⟩, List.mem_of_getElem? (i := 762) (by decide +kernel), List.mem_of_getElem? (i := 1031) (by decide +kernel), List.mem_of_getElem? (i := 1032) (by decide +kernel)⟩
def lw_privs_3 : List (MethodName × Nat) := [(⟨"MarketSocketsModel", "carried", "(I)I"⟩, 14), (⟨"MarketSocketsModel", "firstToShed", "(I)I"⟩, 14), (⟨"MarketSocketsModel", "goesFirst", "(II)Z"⟩, 14), (⟨"MarketSocketsModel", "warm", "(I)V"⟩, 14), (⟨"MarketSocketsModel", "meter", "(I)V"⟩, 14), (⟨"MarketSocketsModel", "readBuffer", "()I"⟩, 14), (⟨"MarketSocketsModel", "readOrder", "()V"⟩, 14), (⟨"MarketSocketsModel", "letter", "()I"⟩, 14), (⟨"MarketSocketsModel", "wants", "(Z)V"⟩, 14), (⟨"MarketSocketsModel", "readStall", "(I)V"⟩, 14), (⟨"MarketSocketsModel", "number", "(II)I"⟩, 14), (⟨"MarketSocketsModel", "does", "(I)Z"⟩, 14), (⟨"MarketSocketsModel", "toldStall", "(II)I"⟩, 14), (⟨"MarketSocketsModel", "fee", "(I)I"⟩, 14), (⟨"MarketSocketsModel", "toldBreaker", "(II)I"⟩, 14), (⟨"MarketSocketsModel", "allLoads", "(I)I"⟩, 14)]
theorem lw_r3 : ∀ q ∈ lw_privs_3, lw_okq q := List.forall_mem_cons.mpr ⟨lw_p32, List.forall_mem_cons.mpr ⟨lw_p33, List.forall_mem_cons.mpr ⟨lw_p34, List.forall_mem_cons.mpr ⟨lw_p35, List.forall_mem_cons.mpr ⟨lw_p36, List.forall_mem_cons.mpr ⟨lw_p37, List.forall_mem_cons.mpr ⟨lw_p38, List.forall_mem_cons.mpr ⟨lw_p39, List.forall_mem_cons.mpr ⟨lw_p40, List.forall_mem_cons.mpr ⟨lw_p41, List.forall_mem_cons.mpr ⟨lw_p42, List.forall_mem_cons.mpr ⟨lw_p43, List.forall_mem_cons.mpr ⟨lw_p44, List.forall_mem_cons.mpr ⟨lw_p45, List.forall_mem_cons.mpr ⟨lw_p46, List.forall_mem_cons.mpr ⟨lw_p47, fun _ h => absurd h List.not_mem_nil⟩⟩⟩⟩⟩⟩⟩⟩⟩⟩⟩⟩⟩⟩⟩⟩
theorem lw_p48 : lw_okq (⟨"MarketSocketsModel", "counted", "(I)I"⟩, 14) := ⟨⟨by decide +kernel, by decide +kernel⟩, List.mem_of_getElem? (i := 762) (by decide +kernel), List.mem_of_getElem? (i := 1043) (by decide +kernel), List.mem_of_getElem? (i := 1044) (by decide +kernel)⟩
theorem lw_p49 : lw_okq (⟨"MarketSocketsModel", "plugged", "()I"⟩, 14) := ⟨⟨by decide +kernel, by decide +kernel⟩, List.mem_of_getElem? (i := 762) (by decide +kernel), List.mem_of_getElem? (i := 1047) (by decide +kernel), List.mem_of_getElem? (i := 1048) (by decide +kernel)⟩
theorem lw_p50 : lw_okq (⟨"MarketSocketsModel", "allBreakers", "(I)I"⟩, 14) := ⟨⟨by decide +kernel, by decide +kernel⟩, List.mem_of_getElem? (i := 762) (by decide +kernel), List.mem_of_getElem? (i := 1051) (by decide +kernel), List.mem_of_getElem? (i := 1052) (by decide +kernel)⟩
theorem lw_p51 : lw_okq (⟨"MarketSocketsModel", "allStalls", "(I)I"⟩, 14) := ⟨⟨by decide +kernel, by decide +kernel⟩, List.mem_of_getElem? (i := 762) (by decide +kernel), List.mem_of_getElem? (i := 1055) (by decide +kernel), List.mem_of_getElem? (i := 1056) (by decide +kernel)⟩
theorem lw_p52 : lw_okq (⟨"MarketSocketsModel", "wouldPlug", "(IIII)I"⟩, 14) := ⟨⟨by decide +kernel, by decide +kernel⟩, List.mem_of_getElem? (i := 762) (by decide +kernel), List.mem_of_getElem? (i := 1067) (by decide +kernel), List.mem_of_getElem? (i := 1068) (by decide +kernel)⟩
theorem lw_p53 : lw_okq (⟨"MarketSocketsModel", "isTaken", "(II)Z"⟩, 14) := ⟨⟨by decide +kernel, by decide +kernel⟩, List.mem_of_getElem? (i := 762) (by decide +kernel), List.mem_of_getElem? (i := 1071) (by decide +kernel), List.mem_of_getElem? (i := 1072) (by decide +kernel)⟩
theorem lw_p54 : lw_okq (⟨"MarketSocketsModel", "putAside", "()V"⟩, 14) := ⟨⟨by decide +kernel, by decide +kernel⟩, List.mem_of_getElem? (i := 762) (by decide +kernel), List.mem_of_getElem? (i := 1075) (by decide +kernel), List.mem_of_getElem? (i := 1076) (by decide +kernel)⟩
theorem lw_p55 : lw_okq (⟨"MarketSocketsModel", "bringBack", "()V"⟩, 14) := ⟨⟨by decide +kernel, by decide +kernel⟩, List.mem_of_getElem? (i := 762) (by decide +kernel), List.mem_of_getElem? (i := 1079) (by decide +kernel), List.mem_of_getElem? (i := 1080) (by decide +kernel)⟩
theorem lw_p56 : lw_okq (⟨"MarketSocketsModel", "hoursToTrip", "(I)I"⟩, 14) := ⟨⟨by decide +kernel, by decide +kernel⟩, List.mem_of_getElem? (i := 762) (by decide +kernel), List.mem_of_getElem? (i := 1087) (by decide +kernel), List.mem_of_getElem? (i := 1088) (by decide +kernel)⟩
theorem lw_p57 : lw_okq (⟨"MarketSocketsModel", "bestFor", "(I)I"⟩, 14) := ⟨⟨by decide +kernel, by decide +kernel⟩, List.mem_of_getElem? (i := 762) (by decide +kernel), List.mem_of_getElem? (i := 1095) (by decide +kernel), List.mem_of_getElem? (i := 1096) (by decide +kernel)⟩
theorem lw_p58 : lw_okq (⟨"MarketSocketsModel", "least", "(I)I"⟩, 14) := ⟨⟨by decide +kernel, by decide +kernel⟩, List.mem_of_getElem? (i := 762) (by decide +kernel), List.mem_of_getElem? (i := 1103) (by decide +kernel), List.mem_of_getElem? (i := 1104) (by decide +kernel)⟩
theorem lw_p59 : lw_okq (⟨"MarketSocketsModel", "share", "()D"⟩, 14) := ⟨⟨by decide +kernel, by decide +kernel⟩, List.mem_of_getElem? (i := 762) (by decide +kernel), List.mem_of_getElem? (i := 1111) (by decide +kernel), List.mem_of_getElem? (i := 1112) (by decide +kernel)⟩
theorem lw_p60 : lw_okq (⟨"MarketSocketsModel", "mix", "(J)V"⟩, 14) := ⟨⟨by decide +kernel, by decide +kernel⟩, List.mem_of_getElem? (i := 762) (by decide +kernel), List.mem_of_getElem? (i := 1120) (by decide +kernel), List.mem_of_getElem? (i := 1121) (by decide +kernel)⟩
theorem lw_p61 : lw_okq (⟨"MarketSocketsModel", "mixStall", "(I)V"⟩, 14) := ⟨⟨by decide +kernel, by decide +kernel⟩, List.mem_of_getElem? (i := 762) (by decide +kernel), List.mem_of_getElem? (i := 1125) (by decide +kernel), List.mem_of_getElem? (i := 1126) (by decide +kernel)⟩
theorem lw_p62 : lw_okq (⟨"MarketSocketsModel", "mixBreaker", "(I)V"⟩, 14) := ⟨⟨by decide +kernel, by decide +kernel⟩, List.mem_of_getElem? (i := 762) (by decide +kernel), List.mem_of_getElem? (i := 1129) (by decide +kernel), List.mem_of_getElem? (i := 1130) (by decide +kernel)⟩
def lw_privs_4 : List (MethodName × Nat) := [(⟨"MarketSocketsModel", "counted", "(I)I"⟩, 14), (⟨"MarketSocketsModel", "plugged", "()I"⟩, 14), (⟨"MarketSocketsModel", "allBreakers", "(I)I"⟩, 14), (⟨"MarketSocketsModel", "allStalls", "(I)I"⟩, 14), (⟨"MarketSocketsModel", "wouldPlug", "(IIII)I"⟩, 14), (⟨"MarketSocketsModel", "isTaken", "(II)Z"⟩, 14), (⟨"MarketSocketsModel", "putAside", "()V"⟩, 14), (⟨"MarketSocketsModel", "bringBack", "()V"⟩, 14), (⟨"MarketSocketsModel", "hoursToTrip", "(I)I"⟩, 14), (⟨"MarketSocketsModel", "bestFor", "(I)I"⟩, 14), (⟨"MarketSocketsModel", "least", "(I)I"⟩, 14), (⟨"MarketSocketsModel", "share", "()D"⟩, 14), (⟨"MarketSocketsModel", "mix", "(J)V"⟩, 14), (⟨"MarketSocketsModel", "mixStall", "(I)V"⟩, 14), (⟨"MarketSocketsModel", "mixBreaker", "(I)V"⟩, 14)]
theorem lw_r4 : ∀ q ∈ lw_privs_4, lw_okq q := List.forall_mem_cons.mpr ⟨lw_p48, List.forall_mem_cons.mpr ⟨lw_p49, List.forall_mem_cons.mpr ⟨lw_p50, List.forall_mem_cons.mpr ⟨lw_p51, List.forall_mem_cons.mpr ⟨lw_p52, List.forall_mem_cons.mpr ⟨lw_p53, List.forall_mem_cons.mpr ⟨lw_p54, List.forall_mem_cons.mpr ⟨lw_p55, List.forall_mem_cons.mpr ⟨lw_p56, List.forall_mem_cons.mpr ⟨lw_p57, List.forall_mem_cons.mpr ⟨lw_p58, List.forall_mem_cons.mpr ⟨lw_p59, List.forall_mem_cons.mpr ⟨lw_p60, List.forall_mem_cons.mpr ⟨lw_p61, List.forall_mem_cons.mpr ⟨lw_p62, fun _ h => absurd h List.not_mem_nil⟩⟩⟩⟩⟩⟩⟩⟩⟩⟩⟩⟩⟩⟩⟩
def lw_privs : List (MethodName × Nat) := lw_privs_1 ++ (lw_privs_2 ++ (lw_privs_3 ++ (lw_privs_4)))
def lw_tbl : List Cond := k2_sels lw_privs ++ tables_1
theorem lw_privs_ok : ∀ q ∈ lw_privs, lw_okq q := by
  show ∀ q ∈ lw_privs_1 ++ (lw_privs_2 ++ (lw_privs_3 ++ (lw_privs_4))), lw_okq q
  exact List.forall_mem_append.mpr ⟨lw_r1, List.forall_mem_append.mpr ⟨lw_r2, List.forall_mem_append.mpr ⟨lw_r3, lw_r4⟩⟩⟩
/-- the streams that the claim lets the run draw from -/
abbrev lw_cs : List Choice := [Jvm.Choice.named "NaN.bits"]
theorem lw_bits : nanBits ∈ lw_cs := by first | decide | exact List.mem_cons_self | simp [lw_cs, nanBits]
-- ===== end of PART A; then your names; then what follows =====
end
section
/-! ===== BEGIN words of one list among another's, by their places ===== -/
theorem goodIn_r {big : List Cond} (ws : List Cond) (ps : List Nat) (hp : ws = ps.filterMap (fun i => big[i]?)) (h : ws.all goodWord = true) : GoodIn big ws := by
  intro w hw
  have h1 := List.all_eq_true.mp h w hw
  rw [hp] at hw
  obtain ⟨i, -, hi⟩ := List.mem_filterMap.mp hw
  have hm : w ∈ big := by first | exact List.mem_of_getElem? hi | exact List.getElem?_mem hi
  exact ⟨hm, good_of_word h1⟩
theorem goodIn_app {big a b : List Cond} (ha : GoodIn big a) (hb : GoodIn big b) : GoodIn big (a ++ b) := fun w h => (List.mem_append.mp h).elim (ha w) (hb w)
theorem goodIn_ca {big a b : List Cond} {c : Cond} (ha : GoodIn big (c :: a)) (hb : GoodIn big b) : GoodIn big (c :: (a ++ b)) := fun w h => (List.mem_cons.mp h).elim (fun e => ha w (List.mem_cons.mpr (Or.inl e))) (fun h => (List.mem_append.mp h).elim (fun h => ha w (List.mem_cons.mpr (Or.inr h))) (hb w))
theorem goodIn_sub {big ws : List Cond} (hm : ∀ w ∈ ws, w ∈ big) (h : ws.all goodWord = true) : GoodIn big ws := fun w hw => ⟨hm w hw, good_of_word (List.all_eq_true.mp h w hw)⟩
/-! ===== END ===== -/

/-! ===== BEGIN exceptions that leave a method, and their catching by the caller (launches without stack traces) ===== -/
section VXA
/-! The laws vx_back, vx_callV, vx_callS, vx_callSW, vx_throw0, vx_throwS follow proofs of the library, with one case more: JvmDerived/Free/Laws.lean (Back.of_free), Shelf42/LK1.lean (callV, callS), Shelf/KitTraced.lean (throwNew0V, throwNewS). -/
/-- where a method has thrown q: the class by its name, the cell, what was written, the world -/
def vx_T (XC : String → State → State → Prop) (st : State) (q : Addr) (t : State) (mc ms : Nat) (free : Addr → Prop) : Prop :=
  ∃ (E : String) (ce : Cell) (L : List Loc), XC E st t ∧ t.heap[q]? = some ce ∧ ce.vm = .none ∧ st.vm.findClass E = some ce.cls ∧ st.WarmedH t.vm ∧ st.sameButNew ({ t with vm := st.vm } : State) L mc ms ∧ ∀ z ∈ L, free z.base
def vx_Q (Qc : Array Value → State → Outcome → State → Prop) (XC : String → State → State → Prop) (mc ms : Nat) (free : Addr → Prop) : Array Value → State → Outcome → State → Prop := fun a st o t =>
  (Qc a st o t ∧ ∃ L, FrameEnd st o t L mc ms ∧ ∀ q ∈ L, free q.base) ∨ ∃ q, o = .threw q ∧ vx_T XC st q t mc ms free
/-- a callee that returns or throws -/
def vx_Met (l : Launch) (y : MethodName) (ws : List Cond) (rm : Room) (Pc : Array Value → State → Prop) (Qc : Array Value → State → Outcome → State → Prop) (XC : String → State → State → Prop) (mc ms : Nat) (free : Addr → Prop) : Prop :=
  MetFree l y (headSpec ws rm) Pc (fun _ _ _ _ _ => True) (vx_Q Qc XC mc ms free)
def vx_Post (XC : String → State → State → Prop) (mc ms : Nat) (free : Addr → Prop) : Pt → Array Value → Addr → Pt → Prop := fun A a q B =>
  ∃ (g : JFrame) (mk : MethodId) (t : State) (L : List Loc) (E : String) (ce : Cell), B.U.heap = t.heap ∧ B.U.vm = t.vm ∧ XC E (A.U.calling g mk a) t ∧ t.heap[q]? = some ce ∧ ce.vm = .none ∧ A.U.vm.findClass E = some ce.cls ∧ B.locs = A.locs ++ L ∧ (∀ z ∈ L, free z.base) ∧ B.cells = A.cells + mc ∧ B.slots = A.slots + ms
def vx_Back (l : Launch) (R : Room) (p : Program) (e : Env) (below : List Frame) (s : State) (sargs : Array Value) (y : MethodName) (len W9 : Nat)
    (Pre : Pt → Array Value → Prop) (Post : Pt → Array Value → Option Value → Pt → Prop) (PostX : Pt → Array Value → Addr → Pt → Prop) : Prop :=
  ∀ (m : MethodId) (meth : Method) (c : Code) (A : Pt) (g : JFrame) (ig : Instr) (mk : MethodId) (a : Array Value),
    Stand p l e R s m sargs below meth c A.U A.locs A.cells A.slots → g.method = m → g.locals.size = c.maxLocals → decode c.code g.pc = .ok (ig, len) →
    2 * g.monitorRoom + (g.stack.map fun v => v.category).sum ≤ W9 → A.U.methodNamed? y = some mk → Pre A a →
    (∃ (v : Option Value) (B : Pt), Stand p l e R s m sargs below meth c B.U B.locs B.cells B.slots ∧ Post A a v B ∧
      Steps p.tables e below (doInvoke e (A.U.setTop g) [] mk a).1 (B.U.setTop { g with pc := g.pc + len, stack := v.toList ++ g.stack })) ∨
    (∃ (q : Addr) (B : Pt), Stand p l e R s m sargs below meth c B.U B.locs B.cells B.slots ∧ PostX A a q B ∧
      Steps p.tables e below (doInvoke e (A.U.setTop g) [] mk a).1 ((B.U.setTop g).pushFrame (.throwing q)))
section Payer
variable {l : Launch} {R : Room} {p : Program} {e : Env} {below : List Frame} {s : State} {sargs : Array Value} {y : MethodName} {len W9 : Nat}
theorem vx_back {ws : List Cond} {rm : Room} {Pc : Array Value → State → Prop} {Qc : Array Value → State → Outcome → State → Prop} {XC : String → State → State → Prop} {mc ms : Nat} {free : Addr → Prop} {bytes : ByteArray} {maxL : Nat} {ret : Option FieldType}
    (hM : vx_Met l y ws rm Pc Qc XC mc ms free) (hblind : FrameBlind Pc) (hrc : rm.cells = mc) (hrs : rm.slots = ms)
    (hframes : rm.frames + 1 ≤ R.frames) (hlocals : W9 + (maxL + 11) + rm.locals ≤ R.locals)
    (hws : ∀ w ∈ ws, ∀ a' U, s.WarmedH U.vm → w.before a' U = true) (hcode : Cond.code y bytes maxL ret ∈ ws) (hinit : ∀ a' U, s.WarmedH U.vm → (Cond.initialized y.cls).before a' U = true) :
    vx_Back l R p e below s sargs y len W9 (PreOf R mc ms Pc) (PostOf Qc mc ms free) (vx_Post XC mc ms free) := by
  intro m meth c A g ig mk a X hg hsize hdg hW hn hp
  have h1 : (headSpec ws rm).pre.before a A.U = true := atoms_intro fun w hw => hws w hw _ _ X.warmed
  have h2 : (Cond.code y bytes maxL ret).before a A.U = true := hws _ hcode _ _ X.warmed
  have h3 : (Cond.initialized y.cls).before a A.U = true := hinit _ _ X.warmed
  have h4 : A.cells + (headSpec ws rm).room.cells ≤ R.cells := by rw [show (headSpec ws rm).room.cells = mc from hrc]; exact hp.1
  have h5 : A.slots + (headSpec ws rm).room.slots ≤ R.slots := by rw [show (headSpec ws rm).room.slots = ms from hrs]; exact hp.2.1
  have hPc : Pc a (A.U.calling g mk a) := hblind _ _ _ _ hp.2.2
  obtain ⟨U, Ls, c0, s0⟩ := A
  dsimp only [Pt.U, Pt.locs, Pt.cells, Pt.slots] at h1 h2 h3 h4 h5 X hn hPc ⊢
  obtain ⟨methY, cY, hmY, hcY, -, hlY, -, -, -, -⟩ := Cond.code_spec hn h2
  obtain ⟨kY, hkY, -⟩ := className_of_methodNamed hn
  have hinitY : kY.init = .initialized := Cond.initialized_spec (findClass_of_methodNamed hn) hkY h3
  have h : At U g.method c below := by rw [hg]; exact X.here
  have hlocals9 : W9 + (maxL + 11) + (headSpec ws rm).room.locals ≤ R.locals := hlocals
  have happ : (headSpec ws rm).appliesLoose y e.platform (U.calling g mk a) = true :=
    Spec.appliesLoose_calling (g := g) h hdg hn hkY hinitY
      (X.room_calling (g := g) (R' := (headSpec ws rm).room) hsize hmY hcY hframes (by rw [hlY]; omega) h4 h5) h1
  obtain ⟨mid, hmid⟩ := h.above
  have hfr : (U.setTop g).frames = (.java g :: mid) ++ below := by rw [State.frames_setTop' g h.top, hmid]; rfl
  obtain ⟨o, s₂, hsteps, -, hend, hq⟩ := Steps.callFree hM p X.admits X.cas X.clock (acts := []) hfr happ hPc trivial
  have hq' : vx_Q Qc XC mc ms free a (U.calling g mk a) o s₂ := hq
  rw [State.frames_setTop' g h.top] at hend
  obtain ⟨g₀, hg0⟩ := Option.isSome_iff_exists.mp h.top
  obtain ⟨r, hr⟩ := State.topJava?_eq_some.mp hg0
  have hr' : (({ U with heap := s₂.heap, slotsUsed := s₂.slotsUsed } : State).setVm s₂.vm).frames = .java g₀ :: r := hr
  rcases hq' with ⟨hqc, L, hfe, hL⟩ | ⟨q, rfl, E, ce, L, hx, hce, hcv, hcl, hW₂, hsm, hL⟩
  · obtain ⟨⟨v, rfl⟩, hW₂, e2, q2, q3, q4, q5, q6⟩ := id hfe
    have e3 : s₂ = ({ (U.calling g mk a).setFrames s₂.frames with heap := s₂.heap, slotsUsed := s₂.slotsUsed } : State).setVm s₂.vm := by
      have : s₂ = ({ s₂ with vm := (U.calling g mk a).vm } : State).setVm s₂.vm := rfl
      rw [e2] at this
      exact this
    obtain ⟨c₂, i₂, len₂, hc₂, hd₂, hf₂⟩ := hend
    have hW' : U.WarmedH s₂.vm := hW₂
    have hcc : c₂ = c := by
      have h1 : s₂.code? g.method = U.code? g.method := by
        rw [State.code?_eq, State.code?_eq, hW'.alike.method?]
      exact Option.some.inj (hc₂.symm.trans (h1.trans h.code))
    subst hcc
    have hlen : len₂ = len := by rw [hdg] at hd₂; cases hd₂; rfl
    subst hlen
    have hs₂ : s₂ = (({ U with heap := s₂.heap, slotsUsed := s₂.slotsUsed } : State).setVm s₂.vm).setTop { g with pc := g.pc + len₂, stack := v.toList ++ g.stack } := by
      refine e3.trans ?_
      rw [hf₂, State.calling_eq h.top, State.setFrames_setFrames, State.setTop_of_frames _ hr', hr]
      rfl
    have hsame : U.sameButNew ({ U with heap := s₂.heap, slotsUsed := s₂.slotsUsed } : State) L mc ms := by
      refine ⟨?_, q2, q3, q4, q5, q6⟩
      obtain ⟨t, ht, -⟩ := State.frames_cons hr
      show ({ U with heap := s₂.heap, slotsUsed := s₂.slotsUsed } : State) = { U.setFrames U.frames with heap := s₂.heap, slotsUsed := s₂.slotsUsed }
      rw [State.setFrames_self ht]
    subst hg
    refine Or.inl ⟨v, ⟨(({ U with heap := s₂.heap, slotsUsed := s₂.slotsUsed } : State).setVm s₂.vm), Ls ++ L, c0 + mc, s0 + ms⟩,
      ⟨X.admits, X.cas, X.clock, X.frames, X.room, X.hears, X.method, X.code, (X.here.setHeapUsed s₂.heap s₂.slotsUsed).setVm hW'.alike, X.tail, State.WarmedH.trans X.warmed hW', X.limits, X.bytes, X.same.trans (hsame.setVm s.vm)⟩,
      ⟨g, mk, s₂, L, rfl, rfl, hqc, rfl, hL, rfl, rfl⟩, ?_⟩
    show Steps p.tables e below _ ((({ U with heap := s₂.heap, slotsUsed := s₂.slotsUsed } : State).setVm s₂.vm).setTop { g with pc := g.pc + len₂, stack := v.toList ++ g.stack })
    rw [← hs₂]
    exact hsteps
  · obtain ⟨e2, q2, q3, q4, q5, q6⟩ := id hsm
    have e3 : s₂ = ({ (U.calling g mk a).setFrames s₂.frames with heap := s₂.heap, slotsUsed := s₂.slotsUsed } : State).setVm s₂.vm := by
      have : s₂ = ({ s₂ with vm := (U.calling g mk a).vm } : State).setVm s₂.vm := rfl
      rw [e2] at this
      exact this
    have hf₂ : s₂.frames = .throwing q :: .java g :: U.frames.tail := hend
    have hW' : U.WarmedH s₂.vm := hW₂
    have hs₂ : s₂ = ((({ U with heap := s₂.heap, slotsUsed := s₂.slotsUsed } : State).setVm s₂.vm).setTop g).pushFrame (.throwing q) := by
      refine e3.trans ?_
      rw [hf₂, State.calling_eq h.top, State.setFrames_setFrames, State.pushFrame, State.frames_setTop _ hr', State.setTop_of_frames _ hr', State.setFrames_setFrames, hr]
      rfl
    have hsame : U.sameButNew ({ U with heap := s₂.heap, slotsUsed := s₂.slotsUsed } : State) L mc ms := by
      refine ⟨?_, q2, q3, q4, q5, q6⟩
      obtain ⟨t, ht, -⟩ := State.frames_cons hr
      show ({ U with heap := s₂.heap, slotsUsed := s₂.slotsUsed } : State) = { U.setFrames U.frames with heap := s₂.heap, slotsUsed := s₂.slotsUsed }
      rw [State.setFrames_self ht]
    subst hg
    refine Or.inr ⟨q, ⟨(({ U with heap := s₂.heap, slotsUsed := s₂.slotsUsed } : State).setVm s₂.vm), Ls ++ L, c0 + mc, s0 + ms⟩,
      ⟨X.admits, X.cas, X.clock, X.frames, X.room, X.hears, X.method, X.code, (X.here.setHeapUsed s₂.heap s₂.slotsUsed).setVm hW'.alike, X.tail, State.WarmedH.trans X.warmed hW', X.limits, X.bytes, X.same.trans (hsame.setVm s.vm)⟩,
      ⟨g, mk, s₂, L, E, ce, rfl, rfl, hx, hce, hcv, hcl, rfl, hL, rfl, rfl⟩, ?_⟩
    show Steps p.tables e below _ (((({ U with heap := s₂.heap, slotsUsed := s₂.slotsUsed } : State).setVm s₂.vm).setTop g).pushFrame (.throwing q))
    rw [← hs₂]
    exact hsteps
end Payer
section Calls
variable {p : Program} {l : Launch} {e : Env} {R : Room} {s : State} {m : MethodId} {args : Array Value} {below : List Frame} {meth : Method} {c : Code} {T : State} {locs : List Loc} {cells slots : Nat}
theorem vx_callV (X : Stand p l e R s m args below meth c T locs cells slots) (hexec : p.tables.exec = Jvm.exec) {own C : String} {index : Nat} {y : MethodName} {bytes : ByteArray} {maxL : Nat} {ret : Option FieldType}
    (hown : s.vm.findClass own = some m.cls) (hlink : (Cond.methodLink own index y).before args s = true) (hinst : (Cond.instanceMethod y).before args s = true) (hsel : (Cond.selects C y y).before args s = true)
    (hcode : (Cond.code y bytes maxL ret).before args s = true) (hy : y.cls ≠ "java/lang/invoke/MethodHandle" ∧ y.cls ≠ "java/lang/invoke/VarHandle")
    {W9 : Nat} {Pre : Pt → Array Value → Prop} {Post : Pt → Array Value → Option Value → Pt → Prop} {PostX : Pt → Array Value → Addr → Pt → Prop} (hK : vx_Back l R p e below s args y 3 W9 Pre Post PostX)
    {b : Addr} {cellB : Cell} (hcell : T.heap[b]? = some cellB) (hobj : cellB.vm.isStatics = false) (hcls : s.vm.findClass C = some cellB.cls)
    {g : JFrame} (hg : g.method = m) (hsize : g.locals.size = c.maxLocals) {argsL rest : List Value} (hlen : ∀ sig, parseMethodDescriptor y.desc = some sig → argsL.length = sig.parameters.length)
    (hstack : g.stack = argsL.reverse ++ .ref b :: rest) (hW : 2 * g.monitorRoom + (rest.map fun v => v.category).sum ≤ W9) (hdg : decode c.code g.pc = .ok (.invokevirtual index, 3))
    (hpre : ∀ vm₁, s.WarmedH vm₁ → Pre ⟨T.setVm vm₁, locs, cells, slots⟩ (Value.ref b :: argsL).toArray) :
    (∃ (v : Option Value) (vm₁ : Vm) (B : Pt), s.WarmedH vm₁ ∧ Stand p l e R s m args below meth c B.U B.locs B.cells B.slots ∧ Post ⟨T.setVm vm₁, locs, cells, slots⟩ (Value.ref b :: argsL).toArray v B ∧
      ∀ target, Steps p.tables e below (B.U.setTop { g with pc := g.pc + 3, stack := v.toList ++ rest }) target → Steps p.tables e below (T.setTop g) target) ∨
    (∃ (q : Addr) (vm₁ : Vm) (B : Pt), s.WarmedH vm₁ ∧ Stand p l e R s m args below meth c B.U B.locs B.cells B.slots ∧ PostX ⟨T.setVm vm₁, locs, cells, slots⟩ (Value.ref b :: argsL).toArray q B ∧
      Steps p.tables e below (T.setTop g) ((B.U.setTop { g with stack := rest }).pushFrame (.throwing q))) := by
  obtain ⟨mk, methM, hnamed, hmethM, hstM, habM⟩ := Cond.instanceMethod_spec hinst
  obtain ⟨methM', cM, hmethM', -, -, -, -, -, -, hsigM⟩ := Cond.code_spec hnamed hcode
  cases hmethM.symm.trans hmethM'
  obtain ⟨c2, r2, m2, q1, q2, q3, q4, kP, hkP, hkPi⟩ := Cond.selects_spec hsel
  cases hcls.symm.trans q1
  cases (State.methodFound?_of_named hnamed hy).symm.trans q2
  cases hnamed.symm.trans q3
  have hselP : selectMethod e.platform s.vm cellB.cls mk = .method mk := by rw [Launch.admits_selectMethod X.admits]; exact q4
  obtain ⟨vm₁, X₁, hstep₁⟩ := X.invokevirtual hexec hown hlink hnamed hmethM hstM hkP hkPi hy (a := b) (cell := cellB) hcell
    (fun z h => by rw [h] at hobj; cases hobj) hselP hmethM habM hkP hkPi (g := g) hg (argsL := argsL) (rest := rest) (hlen _ hsigM) hstack hdg
  rcases hK m meth c ⟨T.setVm vm₁, locs, cells, slots⟩ { g with stack := rest } (.invokevirtual index) mk (Value.ref b :: argsL).toArray X₁ hg hsize hdg hW (X₁.named hnamed) (hpre vm₁ X₁.warmed) with ⟨v, B, X', hpost, hsteps⟩ | ⟨q, B, X', hpost, hsteps⟩
  · exact Or.inl ⟨v, vm₁, B, X₁.warmed, X', hpost, fun target h => hstep₁ _ fun acts => by rw [doInvoke_state]; exact hsteps.trans h⟩
  · exact Or.inr ⟨q, vm₁, B, X₁.warmed, X', hpost, hstep₁ _ fun acts => by rw [doInvoke_state]; exact hsteps⟩
theorem vx_callS (X : Stand p l e R s m args below meth c T locs cells slots) (hexec : p.tables.exec = Jvm.exec) {own : String} {index : Nat} {y : MethodName} {bytes : ByteArray} {maxL : Nat} {ret : Option FieldType}
    (hown : s.vm.findClass own = some m.cls) (hlink : (Cond.methodLink own index y).before args s = true) (hstat : (Cond.static y).before args s = true) (hinit : (Cond.initialized y.cls).before args s = true)
    (hcode : (Cond.code y bytes maxL ret).before args s = true) (hy : y.cls ≠ "java/lang/invoke/MethodHandle" ∧ y.cls ≠ "java/lang/invoke/VarHandle")
    {W9 : Nat} {Pre : Pt → Array Value → Prop} {Post : Pt → Array Value → Option Value → Pt → Prop} {PostX : Pt → Array Value → Addr → Pt → Prop} (hK : vx_Back l R p e below s args y 3 W9 Pre Post PostX)
    {g : JFrame} (hg : g.method = m) (hsize : g.locals.size = c.maxLocals) {argsL rest : List Value} (hlen : ∀ sig, parseMethodDescriptor y.desc = some sig → argsL.length = sig.parameters.length)
    (hstack : g.stack = argsL.reverse ++ rest) (hW : 2 * g.monitorRoom + (rest.map fun v => v.category).sum ≤ W9) (hdg : decode c.code g.pc = .ok (.invokestatic index, 3))
    (hpre : ∀ vm₁, s.WarmedH vm₁ → Pre ⟨T.setVm vm₁, locs, cells, slots⟩ argsL.toArray) :
    (∃ (v : Option Value) (vm₁ : Vm) (B : Pt), s.WarmedH vm₁ ∧ Stand p l e R s m args below meth c B.U B.locs B.cells B.slots ∧ Post ⟨T.setVm vm₁, locs, cells, slots⟩ argsL.toArray v B ∧
      ∀ target, Steps p.tables e below (B.U.setTop { g with pc := g.pc + 3, stack := v.toList ++ rest }) target → Steps p.tables e below (T.setTop g) target) ∨
    (∃ (q : Addr) (vm₁ : Vm) (B : Pt), s.WarmedH vm₁ ∧ Stand p l e R s m args below meth c B.U B.locs B.cells B.slots ∧ PostX ⟨T.setVm vm₁, locs, cells, slots⟩ argsL.toArray q B ∧
      Steps p.tables e below (T.setTop g) ((B.U.setTop { g with stack := rest }).pushFrame (.throwing q))) := by
  obtain ⟨mk, hnamed⟩ := Cond.code_named hcode
  obtain ⟨methM, cM, hmethM, -, -, -, -, -, -, hsigM⟩ := Cond.code_spec hnamed hcode
  have hstatic : methM.isStatic = true := Cond.static_spec hnamed hmethM hstat
  obtain ⟨kP, hkP, -⟩ := className_of_methodNamed hnamed
  have hinitP : kP.init = .initialized := Cond.initialized_spec (findClass_of_methodNamed hnamed) hkP hinit
  obtain ⟨vm₁, X₁, hstep₁⟩ := X.invokestatic hexec hown hlink hnamed hmethM hstatic hkP hinitP hy (g := g) hg (argsL := argsL) (rest := rest) (hlen _ hsigM) hstack hdg
  rcases hK m meth c ⟨T.setVm vm₁, locs, cells, slots⟩ { g with stack := rest } (.invokestatic index) mk argsL.toArray X₁ hg hsize hdg hW (X₁.named hnamed) (hpre vm₁ X₁.warmed) with ⟨v, B, X', hpost, hsteps⟩ | ⟨q, B, X', hpost, hsteps⟩
  · exact Or.inl ⟨v, vm₁, B, X₁.warmed, X', hpost, fun target h => hstep₁ _ fun acts => by rw [doInvoke_state]; exact hsteps.trans h⟩
  · exact Or.inr ⟨q, vm₁, B, X₁.warmed, X', hpost, hstep₁ _ fun acts => by rw [doInvoke_state]; exact hsteps⟩
end Calls
theorem vx_cls {s : State} {T : State} {vm₁ : Vm} {E : String} {k : ClassId} (hW : s.WarmedH vm₁) (h : (T.setVm vm₁).vm.findClass E = some k) : s.vm.findClass E = some k := by
  have h1 : vm₁.findClass E = some k := h
  rw [hW.alike.findClass] at h1
  exact h1
/-- the method's frame g, with q thrown over it -/
def vx_W (p : Program) (l : Launch) (e : Env) (R : Room) (s : State) (m : MethodId) (args : Array Value) (below : List Frame) (meth : Method) (c : Code) (H : Heap) (locs : List Loc) (cells slots : Nat) (Q : State → Prop) (g : JFrame) (q : Addr) : Prop :=
  ∀ T : State, T.heap = H → Stand p l e R s m args below meth c T locs cells slots → ∃ t, Steps p.tables e below ((T.setTop g).pushFrame (.throwing q)) t ∧ Q t
def vx_Run (p : Program) (l : Launch) (e : Env) (R : Room) (s : State) (m : MethodId) (args : Array Value) (below : List Frame) (meth : Method) (c : Code) (H : Heap) (locs : List Loc) (cells slots mc ms : Nat) (g : JFrame) (rest : List Value) (Qa : State → Outcome → State → Prop) (XC : String → State → State → Prop) (free : Addr → Prop) : Prop :=
  ∀ T : State, T.heap = H → Stand p l e R s m args below meth c T locs cells slots →
    (∃ (v : Option Value) (st₀ t T' : State) (L : List Loc), st₀.heap = H ∧ Stand p l e R s m args below meth c T' (locs ++ L) (cells + mc) (slots + ms) ∧ (∀ q ∈ L, free q.base) ∧ T'.heap = t.heap ∧ T'.vm = t.vm ∧ Qa st₀ (.returned v) t ∧
      Goes p e below T g T' { g with pc := g.pc + 3, stack := v.toList ++ rest }) ∨
    (∃ (q : Addr) (st₀ t T' : State) (L : List Loc) (E : String) (ce : Cell), st₀.heap = H ∧ Stand p l e R s m args below meth c T' (locs ++ L) (cells + mc) (slots + ms) ∧ (∀ z ∈ L, free z.base) ∧ T'.heap = t.heap ∧ T'.vm = t.vm ∧ XC E st₀ t ∧ t.heap[q]? = some ce ∧ ce.vm = .none ∧ s.vm.findClass E = some ce.cls ∧
      Steps p.tables e below (T.setTop g) ((T'.setTop { g with stack := rest }).pushFrame (.throwing q)))
def vx_X {S : Type} (px : S → Prop) (B : String → S → State → Prop) (A : Nat → Prop) : String → State → State → Prop := fun E st t => ∃ u : S, px u ∧ B E u t ∧ va_F A st t
section Runs
variable {p : Program} {l : Launch} {e : Env} {R : Room} {s : State} {m : MethodId} {args : Array Value} {below : List Frame} {meth : Method} {c : Code} {H : Heap} {locs : List Loc} {cells slots : Nat}
variable {y : MethodName} {bytes cc : ByteArray} {maxL nL mc ms n index : Nat} {ret : Option FieldType} {ws : List Cond} {rm : Room} {Pc : Array Value → State → Prop} {Qc : Array Value → State → Outcome → State → Prop} {XC : String → State → State → Prop} {free : Addr → Prop} {Ts : List Cond} {own C : String} {b : Addr} {As rest : List Value} {g : JFrame}
theorem vx_callBack (cb : CallB R s args own index y bytes maxL ret ws rm mc ms n) (hM : vx_Met l y ws rm Pc Qc XC mc ms free) (hbl : FrameBlind Pc) : vx_Back l R p e below s args y 3 8 (PreOf R mc ms Pc) (PostOf Qc mc ms free) (vx_Post XC mc ms free) := by
  obtain ⟨hrc, hrs, hfr, hlo, hws, hcw, -, hini, -⟩ := cb
  exact vx_back (bytes := bytes) (maxL := maxL) (ret := ret) hM hbl hrc hrs hfr hlo hws hcw (fun a' U hW => word_at hW (Or.inl (by first | rfl | simp [Cond.onTables, Cond.keeps, Cond.steady])) hini)
theorem vx_runV (S : CallFix p m c cc nL s args Ts own) (hM : vx_Met l y ws rm Pc Qc XC mc ms free) (cw : CallW R s args own C index y bytes maxL ret ws rm mc ms n) (hp : PreV s H C b Pc As)
    (hg : g.method = m) (hn : As.length = n) (hsize : g.locals.size = nL) (hstack : g.stack = As.reverse ++ .ref b :: rest) (hW : 2 * g.monitorRoom + (rest.map fun v => v.category).sum ≤ 8) (hdg : decode cc g.pc = .ok (.invokevirtual index, 3)) (hf : cells + mc ≤ R.cells ∧ slots + ms ≤ R.slots) :
    vx_Run p l e R s m args below meth c H locs cells slots mc ms g rest (Qc (Value.ref b :: As).toArray) XC free := by
  have hK : vx_Back l R p e below s args y 3 8 (PreOf R mc ms Pc) (PostOf Qc mc ms free) (vx_Post XC mc ms free) := vx_callBack cw.1 hM hp.1
  obtain ⟨⟨-, -, -, -, -, -, hcode, -, hy, hlen, hl⟩, hin, hse⟩ := cw
  obtain ⟨hx, hb, hml, ho, -⟩ := S
  obtain ⟨-, ⟨cellB, hcB, hoB, hclB⟩, hPc⟩ := hp
  intro T hT X
  rcases vx_callV X hx (C := C) (bytes := bytes) (maxL := maxL) (ret := ret) ho hl hin hse hcode hy hK (by rw [hT]; exact hcB) hoB hclB hg (hsize.trans hml.symm) (argsL := As) (rest := rest) (fun sig h => hn.trans (hlen sig h)) hstack hW (by rw [hb]; exact hdg)
    (fun vm₁ hW₁ => ⟨hf.1, hf.2, hPc (T.setVm vm₁) hT hW₁⟩) with ⟨v, vm₁, ⟨U', l2, c2, s2⟩, hW₁, X', ⟨g', mk, t, L, e1, e2, hq, h1, hL, h2, h3⟩, st⟩ | ⟨q, vm₁, ⟨U', l2, c2, s2⟩, hW₁, X', ⟨g', mk, t, L, E, ce, e1, e2, hq, hce, hcv, hcl, h1, hL, h2, h3⟩, st⟩
  · dsimp only [Pt.U, Pt.locs, Pt.cells, Pt.slots] at X' e1 e2 h1 h2 h3 st
    subst h1; subst h2; subst h3
    exact Or.inl ⟨v, (T.setVm vm₁).calling g' mk (Value.ref b :: As).toArray, t, U', L, hT, X', hL, e1, e2, hq, st⟩
  · dsimp only [Pt.U, Pt.locs, Pt.cells, Pt.slots] at X' e1 e2 h1 h2 h3 st hcl
    subst h1; subst h2; subst h3
    exact Or.inr ⟨q, (T.setVm vm₁).calling g' mk (Value.ref b :: As).toArray, t, U', L, E, ce, hT, X', hL, e1, e2, hq, hce, hcv, vx_cls hW₁ hcl, st⟩
theorem vx_runS (S : CallFix p m c cc nL s args Ts own) (hM : vx_Met l y ws rm Pc Qc XC mc ms free) (cw : CallB R s args own index y bytes maxL ret ws rm mc ms n ∧ (Cond.static y).before args s = true) (hp : PreS s H Pc As)
    (hg : g.method = m) (hn : As.length = n) (hsize : g.locals.size = nL) (hstack : g.stack = As.reverse ++ rest) (hW : 2 * g.monitorRoom + (rest.map fun v => v.category).sum ≤ 8) (hdg : decode cc g.pc = .ok (.invokestatic index, 3)) (hf : cells + mc ≤ R.cells ∧ slots + ms ≤ R.slots) :
    vx_Run p l e R s m args below meth c H locs cells slots mc ms g rest (Qc As.toArray) XC free := by
  have hK : vx_Back l R p e below s args y 3 8 (PreOf R mc ms Pc) (PostOf Qc mc ms free) (vx_Post XC mc ms free) := vx_callBack cw.1 hM hp.1
  obtain ⟨⟨-, -, -, -, -, -, hcode, hini, hy, hlen, hl⟩, hstt⟩ := cw
  obtain ⟨hx, hb, hml, ho, -⟩ := S
  intro T hT X
  rcases vx_callS X hx (bytes := bytes) (maxL := maxL) (ret := ret) ho hl hstt hini hcode hy hK hg (hsize.trans hml.symm) (argsL := As) (rest := rest) (fun sig h => hn.trans (hlen sig h)) hstack hW (by rw [hb]; exact hdg)
    (fun vm₁ hW₁ => ⟨hf.1, hf.2, hp.2 (T.setVm vm₁) hT hW₁⟩) with ⟨v, vm₁, ⟨U', l2, c2, s2⟩, hW₁, X', ⟨g', mk, t, L, e1, e2, hq, h1, hL, h2, h3⟩, st⟩ | ⟨q, vm₁, ⟨U', l2, c2, s2⟩, hW₁, X', ⟨g', mk, t, L, E, ce, e1, e2, hq, hce, hcv, hcl, h1, hL, h2, h3⟩, st⟩
  · dsimp only [Pt.U, Pt.locs, Pt.cells, Pt.slots] at X' e1 e2 h1 h2 h3 st
    subst h1; subst h2; subst h3
    exact Or.inl ⟨v, (T.setVm vm₁).calling g' mk As.toArray, t, U', L, hT, X', hL, e1, e2, hq, st⟩
  · dsimp only [Pt.U, Pt.locs, Pt.cells, Pt.slots] at X' e1 e2 h1 h2 h3 st hcl
    subst h1; subst h2; subst h3
    exact Or.inr ⟨q, (T.setVm vm₁).calling g' mk As.toArray, t, U', L, E, ce, hT, X', hL, e1, e2, hq, hce, hcv, vx_cls hW₁ hcl, st⟩
end Runs
section Rows
variable {p : Program} {l : Launch} {e : Env} {R : Room} {s : State} {m : MethodId} {args : Array Value} {below : List Frame} {meth : Method} {c : Code} {H : Heap} {locs : List Loc} {cells slots : Nat} {Q : State → Prop}
variable {mc ms : Nat} {free : Addr → Prop} {A0 A1 : Nat → Prop} {H0 : Heap} {a : Array Value} {pc : Nat} {ls : Array Slot} {st0 rest : List Value}
theorem vx_keep {st₀ t T' : State} {L : List Loc} (h0 : st₀.heap = H) (e1 : T'.heap = t.heap) (hS : va_S A0 H0 H locs) (hA : ∀ q, q < H.size → A1 q → A0 q) (hf : ∀ q, free q → A0 q) (hL : ∀ q ∈ L, free q.base) (hF : va_F A1 st₀ t) :
    H.size ≤ T'.heap.size ∧ (∀ q : Nat, q < H.size → ¬ A1 q → T'.heap[q]? = H[q]?) ∧ va_S A0 H0 T'.heap (locs ++ L) := by
  obtain ⟨hz, hk⟩ := hF
  rw [h0] at hz hk
  exact ⟨by rw [e1]; exact hz, fun q h1 h2 => by rw [e1]; exact hk q h1 h2,
    ⟨Nat.le_trans hS.1 (by rw [e1]; exact hz), fun q h1 h2 => by rw [e1, hk q (Nat.lt_of_lt_of_le h1 hS.1) (fun z => h2 (hA q (Nat.lt_of_lt_of_le h1 hS.1) z))]; exact hS.2.1 q h1 h2, fun q hq => by
      rcases List.mem_append.mp hq with h | h
      · exact hS.2.2 q h
      · exact hf _ (hL q h)⟩⟩
theorem vx_calli {S SX : Type} {post : Int32 → S → Prop} {px : SX → Prop} {B : S → State → Prop} {BX : String → SX → State → Prop} {AX : Nat → Prop} (hr : vx_Run p l e R s m args below meth c H locs cells slots mc ms (F0 m pc ls st0) rest (va_Qi post B A1 a) (vx_X px BX AX) free) (hS : va_S A0 H0 H locs) (hA : ∀ q, q < H.size → A1 q → A0 q) (hf : ∀ q, free q → A0 q) (hAX : ∀ q, q < H.size → AX q → A0 q)
    (kx : ∀ (E : String) (ce : Cell) (q9 : Addr) (u : SX) (t : State) (H1 : Heap) (locs1 : List Loc), t.heap = H1 → s.vm.Alike t.vm → px u → BX E u t → H.size ≤ H1.size → (∀ q : Nat, q < H.size → ¬ AX q → H1[q]? = H[q]?) → va_S A0 H0 H1 locs1 → H1[q9]? = some ce → ce.vm = .none → s.vm.findClass E = some ce.cls → vx_W p l e R s m args below meth c H1 locs1 (cells + mc) (slots + ms) Q (F0 m pc ls rest) q9)
    (kk : ∀ (r : Int32) (u : S) (t : State) (H1 : Heap) (locs1 : List Loc), t.heap = H1 → s.vm.Alike t.vm → post r u → B u t → H.size ≤ H1.size → (∀ q : Nat, q < H.size → ¬ A1 q → H1[q]? = H[q]?) → va_S A0 H0 H1 locs1 → W p l e R s m args below meth c H1 locs1 (cells + mc) (slots + ms) Q (F0 m (pc + 3) ls (.int r :: rest))) : W p l e R s m args below meth c H locs cells slots Q (F0 m pc ls st0) := by
  intro T hT X
  rcases hr T hT X with ⟨v, st₀, t, T', L, h0, X', hL, e1, e2, ⟨⟨r, u, hv, hp, hb⟩, hF⟩, st⟩ | ⟨q, st₀, t, T', L, E, ce, h0, X', hL, e1, e2, ⟨u, hp, hb, hF⟩, hce, hcv, hcl, st⟩
  · cases hv
    obtain ⟨k1, k2, k3⟩ := vx_keep h0 e1 hS hA hf hL hF
    obtain ⟨t2, a1, b1⟩ := kk r u t T'.heap (locs ++ L) e1.symm (by rw [← e2]; exact X'.warmed.alike) hp hb k1 k2 k3 T' rfl X'
    exact ⟨t2, st t2 a1, b1⟩
  · obtain ⟨k1, k2, k3⟩ := vx_keep h0 e1 hS hAX hf hL hF
    obtain ⟨t2, a1, b1⟩ := kx E ce q u t T'.heap (locs ++ L) e1.symm (by rw [← e2]; exact X'.warmed.alike) hp hb k1 k2 k3 (by rw [e1]; exact hce) hcv hcl T' rfl X'
    exact ⟨t2, st.trans a1, b1⟩
theorem vx_calll {S SX : Type} {post : Int64 → S → Prop} {px : SX → Prop} {B : S → State → Prop} {BX : String → SX → State → Prop} {AX : Nat → Prop} (hr : vx_Run p l e R s m args below meth c H locs cells slots mc ms (F0 m pc ls st0) rest (va_Ql post B A1 a) (vx_X px BX AX) free) (hS : va_S A0 H0 H locs) (hA : ∀ q, q < H.size → A1 q → A0 q) (hf : ∀ q, free q → A0 q) (hAX : ∀ q, q < H.size → AX q → A0 q)
    (kx : ∀ (E : String) (ce : Cell) (q9 : Addr) (u : SX) (t : State) (H1 : Heap) (locs1 : List Loc), t.heap = H1 → s.vm.Alike t.vm → px u → BX E u t → H.size ≤ H1.size → (∀ q : Nat, q < H.size → ¬ AX q → H1[q]? = H[q]?) → va_S A0 H0 H1 locs1 → H1[q9]? = some ce → ce.vm = .none → s.vm.findClass E = some ce.cls → vx_W p l e R s m args below meth c H1 locs1 (cells + mc) (slots + ms) Q (F0 m pc ls rest) q9)
    (kk : ∀ (r : Int64) (u : S) (t : State) (H1 : Heap) (locs1 : List Loc), t.heap = H1 → s.vm.Alike t.vm → post r u → B u t → H.size ≤ H1.size → (∀ q : Nat, q < H.size → ¬ A1 q → H1[q]? = H[q]?) → va_S A0 H0 H1 locs1 → W p l e R s m args below meth c H1 locs1 (cells + mc) (slots + ms) Q (F0 m (pc + 3) ls (.long r :: rest))) : W p l e R s m args below meth c H locs cells slots Q (F0 m pc ls st0) := by
  intro T hT X
  rcases hr T hT X with ⟨v, st₀, t, T', L, h0, X', hL, e1, e2, ⟨⟨r, u, hv, hp, hb⟩, hF⟩, st⟩ | ⟨q, st₀, t, T', L, E, ce, h0, X', hL, e1, e2, ⟨u, hp, hb, hF⟩, hce, hcv, hcl, st⟩
  · cases hv
    obtain ⟨k1, k2, k3⟩ := vx_keep h0 e1 hS hA hf hL hF
    obtain ⟨t2, a1, b1⟩ := kk r u t T'.heap (locs ++ L) e1.symm (by rw [← e2]; exact X'.warmed.alike) hp hb k1 k2 k3 T' rfl X'
    exact ⟨t2, st t2 a1, b1⟩
  · obtain ⟨k1, k2, k3⟩ := vx_keep h0 e1 hS hAX hf hL hF
    obtain ⟨t2, a1, b1⟩ := kx E ce q u t T'.heap (locs ++ L) e1.symm (by rw [← e2]; exact X'.warmed.alike) hp hb k1 k2 k3 (by rw [e1]; exact hce) hcv hcl T' rfl X'
    exact ⟨t2, st.trans a1, b1⟩
theorem vx_callf {S SX : Type} {post : UInt32 → S → Prop} {px : SX → Prop} {B : S → State → Prop} {BX : String → SX → State → Prop} {AX : Nat → Prop} (hr : vx_Run p l e R s m args below meth c H locs cells slots mc ms (F0 m pc ls st0) rest (va_Qf post B A1 a) (vx_X px BX AX) free) (hS : va_S A0 H0 H locs) (hA : ∀ q, q < H.size → A1 q → A0 q) (hf : ∀ q, free q → A0 q) (hAX : ∀ q, q < H.size → AX q → A0 q)
    (kx : ∀ (E : String) (ce : Cell) (q9 : Addr) (u : SX) (t : State) (H1 : Heap) (locs1 : List Loc), t.heap = H1 → s.vm.Alike t.vm → px u → BX E u t → H.size ≤ H1.size → (∀ q : Nat, q < H.size → ¬ AX q → H1[q]? = H[q]?) → va_S A0 H0 H1 locs1 → H1[q9]? = some ce → ce.vm = .none → s.vm.findClass E = some ce.cls → vx_W p l e R s m args below meth c H1 locs1 (cells + mc) (slots + ms) Q (F0 m pc ls rest) q9)
    (kk : ∀ (r : UInt32) (u : S) (t : State) (H1 : Heap) (locs1 : List Loc), t.heap = H1 → s.vm.Alike t.vm → post r u → B u t → H.size ≤ H1.size → (∀ q : Nat, q < H.size → ¬ A1 q → H1[q]? = H[q]?) → va_S A0 H0 H1 locs1 → W p l e R s m args below meth c H1 locs1 (cells + mc) (slots + ms) Q (F0 m (pc + 3) ls (.float r :: rest))) : W p l e R s m args below meth c H locs cells slots Q (F0 m pc ls st0) := by
  intro T hT X
  rcases hr T hT X with ⟨v, st₀, t, T', L, h0, X', hL, e1, e2, ⟨⟨r, u, hv, hp, hb⟩, hF⟩, st⟩ | ⟨q, st₀, t, T', L, E, ce, h0, X', hL, e1, e2, ⟨u, hp, hb, hF⟩, hce, hcv, hcl, st⟩
  · cases hv
    obtain ⟨k1, k2, k3⟩ := vx_keep h0 e1 hS hA hf hL hF
    obtain ⟨t2, a1, b1⟩ := kk r u t T'.heap (locs ++ L) e1.symm (by rw [← e2]; exact X'.warmed.alike) hp hb k1 k2 k3 T' rfl X'
    exact ⟨t2, st t2 a1, b1⟩
  · obtain ⟨k1, k2, k3⟩ := vx_keep h0 e1 hS hAX hf hL hF
    obtain ⟨t2, a1, b1⟩ := kx E ce q u t T'.heap (locs ++ L) e1.symm (by rw [← e2]; exact X'.warmed.alike) hp hb k1 k2 k3 (by rw [e1]; exact hce) hcv hcl T' rfl X'
    exact ⟨t2, st.trans a1, b1⟩
theorem vx_calld {S SX : Type} {post : UInt64 → S → Prop} {px : SX → Prop} {B : S → State → Prop} {BX : String → SX → State → Prop} {AX : Nat → Prop} (hr : vx_Run p l e R s m args below meth c H locs cells slots mc ms (F0 m pc ls st0) rest (va_Qd post B A1 a) (vx_X px BX AX) free) (hS : va_S A0 H0 H locs) (hA : ∀ q, q < H.size → A1 q → A0 q) (hf : ∀ q, free q → A0 q) (hAX : ∀ q, q < H.size → AX q → A0 q)
    (kx : ∀ (E : String) (ce : Cell) (q9 : Addr) (u : SX) (t : State) (H1 : Heap) (locs1 : List Loc), t.heap = H1 → s.vm.Alike t.vm → px u → BX E u t → H.size ≤ H1.size → (∀ q : Nat, q < H.size → ¬ AX q → H1[q]? = H[q]?) → va_S A0 H0 H1 locs1 → H1[q9]? = some ce → ce.vm = .none → s.vm.findClass E = some ce.cls → vx_W p l e R s m args below meth c H1 locs1 (cells + mc) (slots + ms) Q (F0 m pc ls rest) q9)
    (kk : ∀ (r : UInt64) (u : S) (t : State) (H1 : Heap) (locs1 : List Loc), t.heap = H1 → s.vm.Alike t.vm → post r u → B u t → H.size ≤ H1.size → (∀ q : Nat, q < H.size → ¬ A1 q → H1[q]? = H[q]?) → va_S A0 H0 H1 locs1 → W p l e R s m args below meth c H1 locs1 (cells + mc) (slots + ms) Q (F0 m (pc + 3) ls (.double r :: rest))) : W p l e R s m args below meth c H locs cells slots Q (F0 m pc ls st0) := by
  intro T hT X
  rcases hr T hT X with ⟨v, st₀, t, T', L, h0, X', hL, e1, e2, ⟨⟨r, u, hv, hp, hb⟩, hF⟩, st⟩ | ⟨q, st₀, t, T', L, E, ce, h0, X', hL, e1, e2, ⟨u, hp, hb, hF⟩, hce, hcv, hcl, st⟩
  · cases hv
    obtain ⟨k1, k2, k3⟩ := vx_keep h0 e1 hS hA hf hL hF
    obtain ⟨t2, a1, b1⟩ := kk r u t T'.heap (locs ++ L) e1.symm (by rw [← e2]; exact X'.warmed.alike) hp hb k1 k2 k3 T' rfl X'
    exact ⟨t2, st t2 a1, b1⟩
  · obtain ⟨k1, k2, k3⟩ := vx_keep h0 e1 hS hAX hf hL hF
    obtain ⟨t2, a1, b1⟩ := kx E ce q u t T'.heap (locs ++ L) e1.symm (by rw [← e2]; exact X'.warmed.alike) hp hb k1 k2 k3 (by rw [e1]; exact hce) hcv hcl T' rfl X'
    exact ⟨t2, st.trans a1, b1⟩
theorem vx_callv {S SX : Type} {post : S → Prop} {px : SX → Prop} {B : S → State → Prop} {BX : String → SX → State → Prop} {AX : Nat → Prop} (hr : vx_Run p l e R s m args below meth c H locs cells slots mc ms (F0 m pc ls st0) rest (va_Qv post B A1 a) (vx_X px BX AX) free) (hS : va_S A0 H0 H locs) (hA : ∀ q, q < H.size → A1 q → A0 q) (hf : ∀ q, free q → A0 q) (hAX : ∀ q, q < H.size → AX q → A0 q)
    (kx : ∀ (E : String) (ce : Cell) (q9 : Addr) (u : SX) (t : State) (H1 : Heap) (locs1 : List Loc), t.heap = H1 → s.vm.Alike t.vm → px u → BX E u t → H.size ≤ H1.size → (∀ q : Nat, q < H.size → ¬ AX q → H1[q]? = H[q]?) → va_S A0 H0 H1 locs1 → H1[q9]? = some ce → ce.vm = .none → s.vm.findClass E = some ce.cls → vx_W p l e R s m args below meth c H1 locs1 (cells + mc) (slots + ms) Q (F0 m pc ls rest) q9)
    (kk : ∀ (u : S) (t : State) (H1 : Heap) (locs1 : List Loc), t.heap = H1 → s.vm.Alike t.vm → post u → B u t → H.size ≤ H1.size → (∀ q : Nat, q < H.size → ¬ A1 q → H1[q]? = H[q]?) → va_S A0 H0 H1 locs1 → W p l e R s m args below meth c H1 locs1 (cells + mc) (slots + ms) Q (F0 m (pc + 3) ls (rest))) : W p l e R s m args below meth c H locs cells slots Q (F0 m pc ls st0) := by
  intro T hT X
  rcases hr T hT X with ⟨v, st₀, t, T', L, h0, X', hL, e1, e2, ⟨⟨u, hv, hp, hb⟩, hF⟩, st⟩ | ⟨q, st₀, t, T', L, E, ce, h0, X', hL, e1, e2, ⟨u, hp, hb, hF⟩, hce, hcv, hcl, st⟩
  · cases hv
    obtain ⟨k1, k2, k3⟩ := vx_keep h0 e1 hS hA hf hL hF
    obtain ⟨t2, a1, b1⟩ := kk u t T'.heap (locs ++ L) e1.symm (by rw [← e2]; exact X'.warmed.alike) hp hb k1 k2 k3 T' rfl X'
    exact ⟨t2, st t2 a1, b1⟩
  · obtain ⟨k1, k2, k3⟩ := vx_keep h0 e1 hS hAX hf hL hF
    obtain ⟨t2, a1, b1⟩ := kx E ce q u t T'.heap (locs ++ L) e1.symm (by rw [← e2]; exact X'.warmed.alike) hp hb k1 k2 k3 (by rw [e1]; exact hce) hcv hcl T' rfl X'
    exact ⟨t2, st.trans a1, b1⟩
/-- caught by the row x of this method's table; the rows ahead don't take it -/
theorem vx_catch {own name : String} {E : String} {ce : Cell} {q : Addr} (hown : s.vm.findClass own = some m.cls) (pre : List ExceptionTableEntry) (x : ExceptionTableEntry) (suf : List ExceptionTableEntry) (hsplit : c.exceptionTable.toList = pre ++ x :: suf)
    (hpass : ∀ z ∈ pre, covers z pc = false ∨ (z.catchType ≠ 0 ∧ ∃ nm : String, (Cond.classLink own z.catchType nm).before args s = true ∧ va_Nc E nm s)) (hx : covers x pc = true) (h0 : x.catchType ≠ 0)
    (hlink : (Cond.classLink own x.catchType name).before args s = true) (hcast : (Cond.castable E name).before args s = true) (hcell : H[q]? = some ce) (hv : ce.vm = .none) (hcl : s.vm.findClass E = some ce.cls)
    (kk : W p l e R s m args below meth c H locs cells slots Q (F0 m x.handlerPc ls [.ref q])) : vx_W p l e R s m args below meth c H locs cells slots Q (F0 m pc ls rest) q := by
  intro T hT X
  have hpl : e.platform.magicAccessors = ({} : Platform).magicAccessors := by rw [X.admits.platform]
  obtain ⟨c3, c4, hc3, hc4, hasg⟩ := Cond.castable_spec hcast
  cases Option.some.inj (hc3.symm.trans hcl)
  obtain ⟨c5, hc5, hcl5⟩ := Cond.classLink_spec hown hlink e.platform hpl
  cases Option.some.inj (hc4.symm.trans hc5)
  obtain ⟨vm', X', st⟩ := X.thenCaughtThrough q (g := F0 m pc ls rest) rfl (Steps.refl _) (by rw [hT]; exact hcell) (by rw [hv]; rfl) (by obtain ⟨k9, h9, -⟩ := Vm.findClass_spec hcl; exact ⟨k9, h9⟩) pre x suf hsplit
    (fun z hz => by
      rcases hpass z hz with h | ⟨hz0, nm, hl1, hn1⟩
      · exact Or.inl h
      · obtain ⟨c6, hc6, hcl6⟩ := Cond.classLink_spec hown hl1 e.platform hpl
        obtain ⟨a8, b8, h1, h2, h3⟩ := hn1
        cases Option.some.inj (h1.symm.trans hcl)
        cases Option.some.inj (h2.symm.trans hc6)
        exact Or.inr ⟨hz0, _, hcl6, h3⟩) hx (Or.inr ⟨h0, c4, hcl5, hasg⟩)
  obtain ⟨t, a1, b1⟩ := kk (T.setVm vm') hT X'
  exact ⟨t, st.trans a1, b1⟩
end Rows
section Ends
variable {p : Program} {l : Launch} {e : Env} {R : Room} {s : State} {m : MethodId} {args : Array Value} {below : List Frame} {meth : Method} {c : Code} {H : Heap} {locs : List Loc} {cells slots : Nat} {Q : State → Prop}
variable {mc ms : Nat} {free : Addr → Prop} {A0 A1 : Nat → Prop} {H0 : Heap} {a : Array Value} {ls : Array Slot} {st0 rest : List Value}
variable {Qc : Array Value → State → Outcome → State → Prop} {XC : String → State → State → Prop}
/-- what a body that may throw owes at its end -/
def vx_MQ (below : List Frame) (Qc : Array Value → State → Outcome → State → Prop) (XC : String → State → State → Prop) (a : Array Value) (s : State) (mc ms : Nat) (free : Addr → Prop) : State → Prop := fun t =>
  ∃ o, t.status = .running ∧ Ended t below o ∧ vx_Q Qc XC mc ms free a s o t
theorem vx_ret {g : JFrame} {mc ms : Nat} (k : W p l e R s m args below meth c H locs cells slots (MQ below Qc args s mc ms free) g) : W p l e R s m args below meth c H locs cells slots (vx_MQ below Qc XC args s mc ms free) g := by
  intro T hT X
  obtain ⟨t, a1, o, b1, b2, b3, b4⟩ := k T hT X
  exact ⟨t, a1, o, b1, b2, Or.inl ⟨b3, b4⟩⟩
/-- not caught here: it goes on to the caller -/
theorem vx_widen {g : JFrame} {q : Addr} {k n : Nat} (h1 : cells ≤ k) (h2 : slots ≤ n) (kk : vx_W p l e R s m args below meth c H locs k n Q g q) : vx_W p l e R s m args below meth c H locs cells slots Q g q := fun T hT X => kk T hT (stand_widen X h1 h2)
theorem vx_out {pc : Nat} {E : String} {ce : Cell} {q : Addr} {mc ms : Nat} (hout : ∀ x ∈ c.exceptionTable.toList, covers x pc = false) (hlocks : meth.locks = false) (hcell : H[q]? = some ce) (hv : ce.vm = .none) (hcl : s.vm.findClass E = some ce.cls)
    (hx : ∀ t : State, t.heap = H → s.vm.Alike t.vm → XC E s t) (hf : ∀ z ∈ locs, free z.base) (hc : cells ≤ mc) (hs : slots ≤ ms) :
    vx_W p l e R s m args below meth c H locs cells slots (vx_MQ below Qc XC args s mc ms free) (F0 m pc ls rest) q := by
  intro T hT X
  obtain ⟨st1, hrun, hend, hW, hsm⟩ := X.leaveThrown q (g := F0 m pc ls rest) rfl rfl rfl hout hlocks
  have hcell9 : (T.setFrames (.throwing q :: below)).heap[q]? = some ce := by
    show T.heap[q]? = some ce
    rw [hT]; exact hcell
  exact ⟨_, st1, .threw q, hrun, hend, Or.inr ⟨q, rfl, E, ce, locs, hx _ hT hW.alike, hcell9, hv, hcl, hW, hsm.mono hc hs, hf⟩⟩
theorem vx_frame {U : State} {k n : Nat} (h : s.sameButNew ({ U with vm := s.vm } : State) locs k n) : s.heap.size ≤ U.heap.size ∧ ∀ q : Nat, q < s.heap.size → (∀ z ∈ locs, z.base ≠ q) → U.heap[q]? = s.heap[q]? := by
  obtain ⟨-, h2, -, -, -, h6⟩ := h
  refine ⟨h2, fun q hq hz => ?_⟩
  obtain ⟨c9, e1, e2, e3, e4⟩ := h6 q _ (Array.getElem?_eq_getElem hq)
  have hs : c9.slots = (s.heap[q]).slots := Array.ext_getElem? fun i => e4 i fun hm => hz _ hm rfl
  have h9 : c9 = s.heap[q] := by
    rw [hs] at e2
    exact e2
  have e5 : U.heap[q]? = some c9 := e1
  rw [e5, h9, Array.getElem?_eq_getElem hq]
/-- the words of a throw but the four that speak of the heap -/
def vx_no (w : Cond) : Bool := decide (w ≠ .isRef (.static Bundle.tN "UNASSIGNED_STACK" Bundle.steD)) && decide (w ≠ .isRef (.static Bundle.tN "SUPPRESSED_SENTINEL" Bundle.listD)) && decide (w ≠ .laysStatic Bundle.tN "UNASSIGNED_STACK" Bundle.steD) && decide (w ≠ .laysStatic Bundle.tN "SUPPRESSED_SENTINEL" Bundle.listD)
def vx_at0 (own : String) (ic : Nat) (X : String) (names : List String) : List Cond := (Bundle.ownAtoms0 own ic X names).filter vx_no
def vx_atS (own : String) (ic : Nat) (X : String) (names : List String) : List Cond := (Bundle.ownAtoms own ic X names).filter vx_no
/-- a word that the tables alone decide, or a good one -/
def vx_ot (w : Cond) : Bool := w.onTables || goodWord w
theorem vx_ot_at {args a' : Array Value} {s U : State} {w : Cond} (hW : s.WarmedH U.vm) (hvm : s.vm = U.vm) (hg : vx_ot w = true) (h : w.before args s = true) : w.before a' U = true := by
  simp only [vx_ot, Bool.or_eq_true] at hg
  rcases hg with hg | hg
  · exact va_tabs hg hvm h
  · exact word_at hW (good_of_word hg) h
/-- a list's words: the good ones out of the method's own list, the others by premises of their own -/
theorem vx_hat {args : Array Value} {s : State} {L B : List Cond} (h1 : ∀ w ∈ L.filter goodWord, w.before args s = true) (h2 : ∀ w ∈ L.filter (fun w => !goodWord w), w ∈ B) (h3 : ∀ w ∈ B, w.before args s = true) : ∀ w ∈ L, w.before args s = true := by
  intro w hw
  by_cases g : goodWord w = true
  · exact h1 w (List.mem_filter.mpr ⟨hw, g⟩)
  · refine h3 w (h2 w (List.mem_filter.mpr ⟨hw, ?_⟩))
    show (!goodWord w) = true
    cases hgw : goodWord w
    · rfl
    · exact absurd hgw g
theorem vx_c {args : Array Value} {s : State} {w : Cond} {B : List Cond} (h : w.before args s = true) (t : ∀ w ∈ B, w.before args s = true) : ∀ w' ∈ w :: B, w'.before args s = true := fun w' h' => (List.mem_cons.mp h').elim (fun e => by rw [e]; exact h) (t w')
theorem vx_n {args : Array Value} {s : State} : ∀ w ∈ ([] : List Cond), w.before args s = true := fun _ h => nomatch h
theorem vx_own {args : Array Value} {s : State} {L : List Cond} (h1 : ∀ w ∈ L.filter vx_no, w.before args s = true)
    (hU : (Cond.isRef (.static Bundle.tN "UNASSIGNED_STACK" Bundle.steD)).before args s = true) (hN : (Cond.isRef (.static Bundle.tN "SUPPRESSED_SENTINEL" Bundle.listD)).before args s = true)
    (lU : (Cond.laysStatic Bundle.tN "UNASSIGNED_STACK" Bundle.steD).before args s = true) (lN : (Cond.laysStatic Bundle.tN "SUPPRESSED_SENTINEL" Bundle.listD).before args s = true) : ∀ w ∈ L, w.before args s = true := by
  intro w hw
  by_cases e1 : w = .isRef (.static Bundle.tN "UNASSIGNED_STACK" Bundle.steD)
  · rw [e1]; exact hU
  · by_cases e2 : w = .isRef (.static Bundle.tN "SUPPRESSED_SENTINEL" Bundle.listD)
    · rw [e2]; exact hN
    · by_cases e3 : w = .laysStatic Bundle.tN "UNASSIGNED_STACK" Bundle.steD
      · rw [e3]; exact lU
      · by_cases e4 : w = .laysStatic Bundle.tN "SUPPRESSED_SENTINEL" Bundle.listD
        · rw [e4]; exact lN
        · exact h1 w (List.mem_filter.mpr ⟨hw, by unfold vx_no; rw [decide_eq_true e1, decide_eq_true e2, decide_eq_true e3, decide_eq_true e4]; rfl⟩)
/-- where a static field lies, its class's statics cell in H -/
def vx_L (C n d : String) (A : Nat → Prop) (U : State) (H : Heap) : Prop := ∃ (c : ClassId) (k : Class) (i : Nat) (f : Field) (a : Nat) (cell : Cell), U.vm.findClass C = some c ∧ U.fieldFound? C n d = some (c, k, i, f) ∧ f.isStatic = true ∧ k.statics = some a ∧ H[a]? = some cell ∧ cell.vm.isStatics = true ∧ cell.cls = c ∧ f.slot < cell.slots.size ∧ k.staticTypes[f.slot]? = some f.type ∧ ¬ A a
theorem vx_L.moved {C n d : String} {A : Nat → Prop} {u U : State} {H : Heap} (hvm : u.vm.Alike U.vm) (h : vx_L C n d A u H) : vx_L C n d A U H := by
  obtain ⟨c, k, i, f, a, cell, h1, h2, h3, h4, h5, h6, h7, h8, h9, h10⟩ := h
  obtain ⟨k', hi', he⟩ := State.fieldFound?_setVm hvm h2
  exact ⟨c, k', i, f, a, cell, by rw [hvm.findClass]; exact h1, hi', h3, by rw [he]; exact h4, h5, h6, h7, h8, by rw [he]; exact h9, h10⟩
theorem vx_L.kept {C n d : String} {A : Nat → Prop} {U : State} {H H1 : Heap} (h : vx_L C n d A U H) (hq : ∀ a : Nat, a < H.size → ¬ A a → H1[a]? = H[a]?) : vx_L C n d A U H1 := by
  obtain ⟨c, k, i, f, a, cell, h1, h2, h3, h4, h5, h6, h7, h8, h9, h10⟩ := h
  exact ⟨c, k, i, f, a, cell, h1, h2, h3, h4, by rw [hq a (Array.getElem?_eq_some_iff.mp h5).1 h10]; exact h5, h6, h7, h8, h9, h10⟩
theorem vx_L.narrow {C n d : String} {A B : Nat → Prop} {U : State} {H : Heap} (h : vx_L C n d A U H) (hAB : ∀ q, B q → A q) : vx_L C n d B U H := by
  obtain ⟨c, k, i, f, a, cell, h1, h2, h3, h4, h5, h6, h7, h8, h9, h10⟩ := h
  exact ⟨c, k, i, f, a, cell, h1, h2, h3, h4, h5, h6, h7, h8, h9, fun z => h10 (hAB _ z)⟩
theorem vx_L.word {C n d : String} {A : Nat → Prop} {s : State} {args : Array Value} (h : vx_L C n d A s s.heap) : (Cond.laysStatic C n d).before args s = true := by
  obtain ⟨c, k, i, f, a, cell, h1, h2, h3, h4, h5, h6, h7, h8, h9, -⟩ := h
  show (Cond.laysStatic C n d).holds args s none s [] = true
  exact Cond.laysStatic_of h1 h2 h3 h4 h5 h6 h7 h8 h9
/-- .. and what it holds: null or some reference -/
def vx_Zq (C n d : String) (A : Nat → Prop) (U : State) (H : Heap) : Prop := va_Zq C n d A U H ∧ vx_L C n d A U H
theorem vx_Zq.moved {C n d : String} {A : Nat → Prop} {u U : State} {H : Heap} (hvm : u.vm.Alike U.vm) (h : vx_Zq C n d A u H) : vx_Zq C n d A U H := ⟨va_Zq.moved hvm h.1, vx_L.moved hvm h.2⟩
theorem vx_Zq.kept {C n d : String} {A : Nat → Prop} {U : State} {H H1 : Heap} (h : vx_Zq C n d A U H) (hq : ∀ a : Nat, a < H.size → ¬ A a → H1[a]? = H[a]?) : vx_Zq C n d A U H1 := ⟨va_Zq.kept h.1 hq, vx_L.kept h.2 hq⟩
theorem vx_Zq.narrow {C n d : String} {A B : Nat → Prop} {U : State} {H : Heap} (h : vx_Zq C n d A U H) (hAB : ∀ q, B q → A q) : vx_Zq C n d B U H := ⟨va_Zq.narrow h.1 hAB, vx_L.narrow h.2 hAB⟩
theorem vx_Zqof {args : Array Value} {s : State} {C n d : String} {A : Nat → Prop} (hl : (Cond.laysStatic C n d).before args s = true) (hini : (Cond.initialized C).before args s = true) (h : (Cond.isRef (.static C n d)).before args s = true) (hA : ∀ a : Nat, a < s.heap.size → ¬ A a) : vx_Zq C n d A s s.heap := by
  refine ⟨va_Zqof hl hini h hA, ?_⟩
  obtain ⟨c, k, i, f, a, cell, h1, h2, h3, h4, h5, h6, h7, h8, h9⟩ := Cond.laysStatic_spec hl
  exact ⟨c, k, i, f, a, cell, h1, h2, h3, h4, h5, h6, h7, h8, h9, hA a (Array.getElem?_eq_some_iff.mp h5).1⟩
theorem vx_isRef {C n d : String} {v : Value} {A : Nat → Prop} {s : State} {args : Array Value} (h : va_Z C n d v A s s.heap) (hv : v.isRef = true) : (Cond.isRef (.static C n d)).before args s = true := by
  obtain ⟨cf, kf, fi, f, a, cell, h1, h2, h3, h4, h5, h6, h7, -⟩ := h
  have he : (Term.static C n d).eval args s none [] s = some v := by
    simp [Term.eval, State.fieldNamed?, h1, h2, h4, h5, h6, h7]
  simp only [Cond.before, Cond.holds, Cond.value, he]
  cases v <;> simp_all [Value.isRef]
theorem vx_isRefq {C n d : String} {A : Nat → Prop} {s : State} {args : Array Value} (h : va_Zq C n d A s s.heap) : (Cond.isRef (.static C n d)).before args s = true := by
  rcases h with h | ⟨t, h⟩
  · exact vx_isRef h rfl
  · exact vx_isRef h rfl
/-- the same frame, seen from here: as if the method were called anew in this heap -/
theorem vx_rebase {T : State} (X : Stand p l e R s m args below meth c T locs cells slots) {R' : Room} (hf : R'.frames ≤ R.frames) (hl : R'.locals ≤ R.locals) (hc : cells + R'.cells ≤ R.cells) (hs : slots + R'.slots ≤ R.slots) :
    Stand p l e R' ((T.setVm s.vm).setFrames (.invoking m args :: below)) m args below meth c T [] 0 0 := by
  have htop : (T.setVm s.vm).topJava?.isSome := X.here.top
  have hF : ((T.setVm s.vm).setFrames (.invoking m args :: below)).frames = .invoking m args :: below := State.frames_setFrames _ (State.cur_lt_of_top htop)
  obtain ⟨g₀, hg0⟩ := Option.isSome_iff_exists.mp htop
  obtain ⟨r, hr⟩ := State.topJava?_eq_some.mp hg0
  have hl9 : e.platform.stackLimits (T.setVm s.vm).me = e.platform.stackLimits s.me := X.limits
  have hb9 : (T.setVm s.vm).me.stackBytes = s.me.stackBytes := X.bytes
  refine ⟨X.admits, X.cas, X.clock, hF, ?_, X.hears, X.method, X.code, X.here, X.tail, X.warmed, ?_, ?_, ?_⟩
  · have h := X.room
    have hU : ((T.setVm s.vm).setFrames (.invoking m args :: below)).localsInUse = s.localsInUse := by
      rw [State.localsInUse_invoking hF (meth := meth) (c := c) X.method X.code, State.localsInUse_invoking X.frames X.method X.code]
    simp only [State.hasRoom, Bool.and_eq_true, decide_eq_true_eq] at h ⊢
    obtain ⟨⟨⟨⟨h1, h2, h3, h4, h5, h6⟩, h7⟩, h8⟩, h9⟩ := h
    rw [X.frames, List.length_cons] at h2 h3
    have q1 := X.heapSize
    have q2 := X.used
    simp only [hF, hU, List.length_cons, State.stackLimits_setFrames, State.stackBytes_setFrames, hl9, hb9]
    refine ⟨⟨⟨⟨by omega, by omega, by omega, by omega, by omega, h6⟩, ?_⟩, ?_⟩, X.book⟩
    · show T.heap.size + R'.cells ≤ e.platform.maxCells
      omega
    · show T.slotsUsed + R'.slots ≤ e.platform.maxSlots
      omega
  · rw [State.stackLimits_setFrames]; rfl
  · rw [State.stackBytes_setFrames]; rfl
  · refine ⟨?_, Nat.le_refl _, Nat.le_refl _, ?_, ?_, fun a c9 h9 => ⟨c9, h9, rfl, rfl, fun _ _ => rfl⟩⟩
    · obtain ⟨t, ht, -⟩ := State.frames_cons hr
      show T.setVm s.vm = { ((T.setVm s.vm).setFrames (.invoking m args :: below)).setFrames (T.setVm s.vm).frames with heap := T.heap, slotsUsed := T.slotsUsed }
      rw [State.setFrames_setFrames, State.setFrames_self ht]
      rfl
    · show T.slotsUsed = T.slotsUsed + ((T.heap.toList.drop T.heap.size).map (·.slots.size)).sum
      rw [List.drop_eq_nil_of_le (Nat.le_of_eq Array.length_toList)]
      rfl
    · show ((T.heap.toList.drop T.heap.size).map (·.slots.size)).sum ≤ 0
      rw [List.drop_eq_nil_of_le (Nat.le_of_eq Array.length_toList)]
      exact Nat.le_refl _
/-- 'throw new E()': new; dup; invokespecial; athrow -/
theorem vx_throw0 {cc : ByteArray} {pc : Nat} (hexec : p.tables.exec = Jvm.exec) (hb : c.code = cc) (hl : l.stackTraces = false) {own cls : String} {names : List String} {ik ic mc ms : Nat} {A : Nat → Prop}
    (hown : s.vm.findClass own = some m.cls) (hcls : Bundle.fit cls = true) (hnames : ∀ n ∈ names, Bundle.fit n = true)
    (hk : (Cond.classLink own ik cls).before args s = true) (hini : (Cond.initialized cls).before args s = true) (hat : ∀ w ∈ vx_at0 own ic cls names, w.before args s = true)
    (hgood : ∀ w ∈ Cond.classLink own ik cls :: Cond.initialized cls :: vx_at0 own ic cls names, vx_ot w = true)
    (hU : vx_Zq Bundle.tN "UNASSIGNED_STACK" Bundle.steD A s s.heap) (hN : vx_Zq Bundle.tN "SUPPRESSED_SENTINEL" Bundle.listD A s s.heap) (hS : va_S A s.heap H locs) (hsize : ls.size = c.maxLocals)
    (d0 : decode cc pc = .ok (.new ik, 3)) (d3 : decode cc (pc + 3) = .ok (.dup, 1)) (d4 : decode cc (pc + 4) = .ok (.invokespecial ic, 3)) (d7 : decode cc (pc + 7) = .ok (.athrow, 1))
    (hout : ∀ x ∈ c.exceptionTable.toList, covers x (pc + 7) = false)
    (hRframes : names.length + 3 < R.frames) (hRlocals : (rest.map fun v => v.category).sum + (13 * (names.length + 1) + 42) ≤ R.locals) (hRcells : cells + 1 ≤ R.cells) (hRslots : slots + 6 ≤ R.slots) (hlocks : meth.locks = false)
    (hx : ∀ t : State, s.vm.Alike t.vm → H.size ≤ t.heap.size → (∀ q : Nat, q < H.size → t.heap[q]? = H[q]?) → XC cls s t)
    (hf : ∀ z ∈ locs, free z.base) (hc : cells + 1 ≤ mc) (hs : slots + 6 ≤ ms) :
    W p l e R s m args below meth c H locs cells slots (vx_MQ below Qc XC args s mc ms free) (F0 m pc ls rest) := by
  intro T hT X
  have htr : e.platform.stackTraces = false := (show e.platform.stackTraces = l.stackTraces by rw [X.admits.platform]).trans hl
  have Y := vx_rebase X (R' := { frames := R.frames, locals := R.locals, cells := 1, slots := 6 }) (Nat.le_refl _) (Nat.le_refl _) hRcells hRslots
  obtain ⟨s', hA⟩ : ∃ z, z = (T.setVm s.vm).setFrames (.invoking m args :: below) := ⟨_, rfl⟩
  rw [← hA] at Y
  have hvm : s'.vm = s.vm := by rw [hA]; rfl
  have hhp : s'.heap = H := by rw [hA]; exact hT
  have hW0 : s.WarmedH s'.vm := by rw [hvm]; exact State.WarmedH.refl s
  have hat' : ∀ w ∈ vx_at0 own ic cls names, w.before args s' = true := fun w hw => vx_ot_at hW0 hvm.symm (hgood w (List.mem_cons_of_mem _ (List.mem_cons_of_mem _ hw))) (hat w hw)
  have hk' : (Cond.classLink own ik cls).before args s' = true := vx_ot_at hW0 hvm.symm (hgood _ List.mem_cons_self) hk
  have hini' : (Cond.initialized cls).before args s' = true := vx_ot_at hW0 hvm.symm (hgood _ (List.mem_cons_of_mem _ List.mem_cons_self)) hini
  have hU' : vx_Zq Bundle.tN "UNASSIGNED_STACK" Bundle.steD A s' s'.heap := by rw [hhp]; exact vx_Zq.moved hW0.alike (hU.kept hS.2.1)
  have hN' : vx_Zq Bundle.tN "SUPPRESSED_SENTINEL" Bundle.listD A s' s'.heap := by rw [hhp]; exact vx_Zq.moved hW0.alike (hN.kept hS.2.1)
  have h : ∀ w ∈ Bundle.ownAtoms0 own ic cls names, w.before args s' = true := vx_own hat' (vx_isRefq hU'.1) (vx_isRefq hN'.1) hU'.2.word hN'.2.word
  have hown' : s'.vm.findClass own = some m.cls := by rw [hvm]; exact hown
  have hins : (Cond.instantiable cls 6).before args s' = true := h _ (by simp [Bundle.ownAtoms0])
  obtain ⟨vm₁, cX, kX, hfX, hkX, -, -, X₁, st1⟩ := Y.newCold hexec (own := own) (C := cls) (index := ik) (n := 6) hown' hk' hins hini'
    (g := F0 m pc ls rest) rfl (by rw [hb]; exact d0) (Nat.le_refl _) (Nat.le_refl _)
  generalize hT1 : (T.setVm vm₁).pushCell { cls := cX, slots := kX.instanceTypes.map defaultValue, vm := .none } = T1 at X₁ st1
  have hcat : (Value.ref T.heap.size).category = 1 := rfl
  have hcellA : T1.heap[T.heap.size]? = some (freshCell cX kX) := by rw [← hT1]; exact State.heap_pushCell_size _ _
  have d3' : decode c.code (pc + 3) = .ok (.dup, 1) := by rw [hb]; exact d3
  obtain ⟨U, hsteps, hrun, hend, hW, hsame, ce, hce, hO⟩ := X₁.ctorThrow0 hexec htr (own := own) (cls := cls) (names := names) (ic := ic) hown' hcls hnames h (fun x hx => nomatch hx) hfX hkX hcellA (by rw [hhp, hT]; exact Nat.le_refl _)
    (g := { method := m, pc := pc + 4, locals := ls, stack := .ref T.heap.size :: .ref T.heap.size :: rest, locked := none }) rfl hsize rfl rfl (rest := rest) rfl
    (by rw [hb]; exact d4) (by rw [hb]; exact d7) hout hRframes (by simp only [List.map_cons, List.sum_cons, hcat]; omega) hlocks
  obtain ⟨f1, f2⟩ := vx_frame hsame
  rw [hhp] at f1 f2
  have hWs : s.WarmedH U.vm := State.WarmedH.trans hW0 hW
  have hcl : s.vm.findClass cls = some ce.cls := by
    have h9 := hO.cls
    rw [hvm] at h9
    exact h9
  have hall : s.sameButNew ({ U with vm := s.vm } : State) locs mc ms := by
    subst hA
    obtain ⟨e1, e2⟩ := hsame
    rw [State.setFrames_setFrames] at e1
    have h2 : (T.setVm s.vm).sameButNew ({ U with vm := s.vm } : State) [] (0 + 1) (0 + 6) := ⟨e1, e2⟩
    have h3 := X.same.trans h2
    rw [List.append_nil] at h3
    exact h3.mono hc hs
  refine ⟨U, ?_, .threw T.heap.size, hrun, hend, Or.inr ⟨T.heap.size, rfl, cls, ce, locs, hx U hWs.alike f1 (fun q hq => f2 q hq (fun z hz => nomatch hz)), hce, hO.vm, hcl, hWs, hall, hf⟩⟩
  refine st1 _ ?_
  show Steps p.tables e below (T1.setTop { method := m, pc := pc + 3, locals := ls, stack := .ref T.heap.size :: rest, locked := none }) _
  jvm_step X₁.here [X₁.here.top, hexec, d3', Value.category]
  exact hsteps
/-- 'throw new E("text")': new; dup; ldc; invokespecial; athrow -/
theorem vx_throwS {cc : ByteArray} {pc : Nat} (hexec : p.tables.exec = Jvm.exec) (hb : c.code = cc) (hl : l.stackTraces = false) {own cls text : String} {names : List String} {ik is ic mc ms sa : Nat} {A : Nat → Prop}
    (hown : s.vm.findClass own = some m.cls) (hcls : Bundle.fit cls = true) (hnames : ∀ n ∈ names, Bundle.fit n = true)
    (hk : (Cond.classLink own ik cls).before args s = true) (hini : (Cond.initialized cls).before args s = true) (hstr : vk_R own is text sa s) (hat : ∀ w ∈ vx_atS own ic cls names, w.before args s = true)
    (hgood : ∀ w ∈ Cond.classLink own ik cls :: Cond.initialized cls :: vx_atS own ic cls names, vx_ot w = true)
    (hU : vx_Zq Bundle.tN "UNASSIGNED_STACK" Bundle.steD A s s.heap) (hN : vx_Zq Bundle.tN "SUPPRESSED_SENTINEL" Bundle.listD A s s.heap) (hS : va_S A s.heap H locs) (hsize : ls.size = c.maxLocals)
    (d0 : decode cc pc = .ok (.new ik, 3)) (d3 : decode cc (pc + 3) = .ok (.dup, 1)) (d4 : decode cc (pc + 4) = .ok (.ldc is, 2)) (d6 : decode cc (pc + 6) = .ok (.invokespecial ic, 3)) (d9 : decode cc (pc + 9) = .ok (.athrow, 1))
    (hout : ∀ x ∈ c.exceptionTable.toList, covers x (pc + 9) = false)
    (hRframes : names.length + 3 < R.frames) (hRlocals : (rest.map fun v => v.category).sum + (13 * (names.length + 1) + 43) ≤ R.locals) (hRcells : cells + 1 ≤ R.cells) (hRslots : slots + 6 ≤ R.slots) (hlocks : meth.locks = false)
    (hx : ∀ t : State, s.vm.Alike t.vm → H.size ≤ t.heap.size → (∀ q : Nat, q < H.size → t.heap[q]? = H[q]?) → XC cls s t)
    (hf : ∀ z ∈ locs, free z.base) (hc : cells + 1 ≤ mc) (hs : slots + 6 ≤ ms) :
    W p l e R s m args below meth c H locs cells slots (vx_MQ below Qc XC args s mc ms free) (F0 m pc ls rest) := by
  intro T hT X
  have htr : e.platform.stackTraces = false := (show e.platform.stackTraces = l.stackTraces by rw [X.admits.platform]).trans hl
  have Y := vx_rebase X (R' := { frames := R.frames, locals := R.locals, cells := 1, slots := 6 }) (Nat.le_refl _) (Nat.le_refl _) hRcells hRslots
  obtain ⟨s', hA⟩ : ∃ z, z = (T.setVm s.vm).setFrames (.invoking m args :: below) := ⟨_, rfl⟩
  rw [← hA] at Y
  have hvm : s'.vm = s.vm := by rw [hA]; rfl
  have hhp : s'.heap = H := by rw [hA]; exact hT
  have hW0 : s.WarmedH s'.vm := by rw [hvm]; exact State.WarmedH.refl s
  have hat' : ∀ w ∈ vx_atS own ic cls names, w.before args s' = true := fun w hw => vx_ot_at hW0 hvm.symm (hgood w (List.mem_cons_of_mem _ (List.mem_cons_of_mem _ hw))) (hat w hw)
  have hk' : (Cond.classLink own ik cls).before args s' = true := vx_ot_at hW0 hvm.symm (hgood _ List.mem_cons_self) hk
  have hini' : (Cond.initialized cls).before args s' = true := vx_ot_at hW0 hvm.symm (hgood _ (List.mem_cons_of_mem _ List.mem_cons_self)) hini
  have hU' : vx_Zq Bundle.tN "UNASSIGNED_STACK" Bundle.steD A s' s'.heap := by rw [hhp]; exact vx_Zq.moved hW0.alike (hU.kept hS.2.1)
  have hN' : vx_Zq Bundle.tN "SUPPRESSED_SENTINEL" Bundle.listD A s' s'.heap := by rw [hhp]; exact vx_Zq.moved hW0.alike (hN.kept hS.2.1)
  have h : ∀ w ∈ Bundle.ownAtoms own ic cls names, w.before args s' = true := vx_own hat' (vx_isRefq hU'.1) (vx_isRefq hN'.1) hU'.2.word hN'.2.word
  have hown' : s'.vm.findClass own = some m.cls := by rw [hvm]; exact hown
  have hins : (Cond.instantiable cls 6).before args s' = true := h _ (by simp [Bundle.ownAtoms])
  obtain ⟨vm₁, cX, kX, hfX, hkX, -, -, X₁, st1⟩ := Y.newCold hexec (own := own) (C := cls) (index := ik) (n := 6) hown' hk' hins hini'
    (g := F0 m pc ls rest) rfl (by rw [hb]; exact d0) (Nat.le_refl _) (Nat.le_refl _)
  generalize hT1 : (T.setVm vm₁).pushCell { cls := cX, slots := kX.instanceTypes.map defaultValue, vm := .none } = T1 at X₁ st1
  have hcat : (Value.ref T.heap.size).category = 1 := rfl
  have hcellA : T1.heap[T.heap.size]? = some (freshCell cX kX) := by rw [← hT1]; exact State.heap_pushCell_size _ _
  have d3' : decode c.code (pc + 3) = .ok (.dup, 1) := by rw [hb]; exact d3
  have d4' : decode c.code (pc + 4) = .ok (.ldc is, 2) := by rw [hb]; exact d4
  have hstr' : vk_R own is text sa s' := vk_R.warm hW0 hstr
  obtain ⟨U, hsteps, hrun, hend, hW, hsame, ce, hce, hO⟩ := X₁.ctorThrowS hexec htr (own := own) (cls := cls) (names := names) (ic := ic) hown' hcls hnames h (fun x hx => nomatch hx) hfX hkX hcellA (by rw [hhp, hT]; exact Nat.le_refl _) (msg := .ref sa) rfl
    (g := { method := m, pc := pc + 6, locals := ls, stack := .ref sa :: .ref T.heap.size :: .ref T.heap.size :: rest, locked := none }) rfl hsize rfl rfl (rest := rest) rfl
    (by rw [hb]; exact d6) (by rw [hb]; exact d9) hout hRframes (by simp only [List.map_cons, List.sum_cons, hcat]; omega) hlocks
  obtain ⟨f1, f2⟩ := vx_frame hsame
  rw [hhp] at f1 f2
  have hWs : s.WarmedH U.vm := State.WarmedH.trans hW0 hW
  have hcl : s.vm.findClass cls = some ce.cls := by
    have h9 := hO.cls
    rw [hvm] at h9
    exact h9
  have hall : s.sameButNew ({ U with vm := s.vm } : State) locs mc ms := by
    subst hA
    obtain ⟨e1, e2⟩ := hsame
    rw [State.setFrames_setFrames] at e1
    have h2 : (T.setVm s.vm).sameButNew ({ U with vm := s.vm } : State) [] (0 + 1) (0 + 6) := ⟨e1, e2⟩
    have h3 := X.same.trans h2
    rw [List.append_nil] at h3
    exact h3.mono hc hs
  refine ⟨U, ?_, .threw T.heap.size, hrun, hend, Or.inr ⟨T.heap.size, rfl, cls, ce, locs, hx U hWs.alike f1 (fun q hq => f2 q hq (fun z hz => nomatch hz)), hce, hO.vm, hcl, hWs, hall, hf⟩⟩
  refine st1 _ ?_
  show Steps p.tables e below (T1.setTop { method := m, pc := pc + 3, locals := ls, stack := .ref T.heap.size :: rest, locked := none }) _
  jvm_step X₁.here [X₁.here.top, hexec, d3', Value.category]
  exact X₁.ldcString hexec (own := own) (text := text) (index := is) (a := sa) hown' hstr'.1 hstr'.2
    (g := { method := m, pc := pc + 4, locals := ls, stack := .ref T.heap.size :: .ref T.heap.size :: rest, locked := none }) rfl d4' _ hsteps
/-- 'throw new E("text")', the text by a wide index -/
theorem vx_throwSW {cc : ByteArray} {pc : Nat} (hexec : p.tables.exec = Jvm.exec) (hb : c.code = cc) (hl : l.stackTraces = false) {own cls text : String} {names : List String} {ik is ic mc ms sa : Nat} {A : Nat → Prop}
    (hown : s.vm.findClass own = some m.cls) (hcls : Bundle.fit cls = true) (hnames : ∀ n ∈ names, Bundle.fit n = true)
    (hk : (Cond.classLink own ik cls).before args s = true) (hini : (Cond.initialized cls).before args s = true) (hstr : vk_R own is text sa s) (hat : ∀ w ∈ vx_atS own ic cls names, w.before args s = true)
    (hgood : ∀ w ∈ Cond.classLink own ik cls :: Cond.initialized cls :: vx_atS own ic cls names, vx_ot w = true)
    (hU : vx_Zq Bundle.tN "UNASSIGNED_STACK" Bundle.steD A s s.heap) (hN : vx_Zq Bundle.tN "SUPPRESSED_SENTINEL" Bundle.listD A s s.heap) (hS : va_S A s.heap H locs) (hsize : ls.size = c.maxLocals)
    (d0 : decode cc pc = .ok (.new ik, 3)) (d3 : decode cc (pc + 3) = .ok (.dup, 1)) (d4 : decode cc (pc + 4) = .ok (.ldc_w is, 3)) (d7 : decode cc (pc + 7) = .ok (.invokespecial ic, 3)) (d10 : decode cc (pc + 10) = .ok (.athrow, 1))
    (hout : ∀ x ∈ c.exceptionTable.toList, covers x (pc + 10) = false)
    (hRframes : names.length + 3 < R.frames) (hRlocals : (rest.map fun v => v.category).sum + (13 * (names.length + 1) + 43) ≤ R.locals) (hRcells : cells + 1 ≤ R.cells) (hRslots : slots + 6 ≤ R.slots) (hlocks : meth.locks = false)
    (hx : ∀ t : State, s.vm.Alike t.vm → H.size ≤ t.heap.size → (∀ q : Nat, q < H.size → t.heap[q]? = H[q]?) → XC cls s t)
    (hf : ∀ z ∈ locs, free z.base) (hc : cells + 1 ≤ mc) (hs : slots + 6 ≤ ms) :
    W p l e R s m args below meth c H locs cells slots (vx_MQ below Qc XC args s mc ms free) (F0 m pc ls rest) := by
  intro T hT X
  have htr : e.platform.stackTraces = false := (show e.platform.stackTraces = l.stackTraces by rw [X.admits.platform]).trans hl
  have Y := vx_rebase X (R' := { frames := R.frames, locals := R.locals, cells := 1, slots := 6 }) (Nat.le_refl _) (Nat.le_refl _) hRcells hRslots
  obtain ⟨s', hA⟩ : ∃ z, z = (T.setVm s.vm).setFrames (.invoking m args :: below) := ⟨_, rfl⟩
  rw [← hA] at Y
  have hvm : s'.vm = s.vm := by rw [hA]; rfl
  have hhp : s'.heap = H := by rw [hA]; exact hT
  have hW0 : s.WarmedH s'.vm := by rw [hvm]; exact State.WarmedH.refl s
  have hat' : ∀ w ∈ vx_atS own ic cls names, w.before args s' = true := fun w hw => vx_ot_at hW0 hvm.symm (hgood w (List.mem_cons_of_mem _ (List.mem_cons_of_mem _ hw))) (hat w hw)
  have hk' : (Cond.classLink own ik cls).before args s' = true := vx_ot_at hW0 hvm.symm (hgood _ List.mem_cons_self) hk
  have hini' : (Cond.initialized cls).before args s' = true := vx_ot_at hW0 hvm.symm (hgood _ (List.mem_cons_of_mem _ List.mem_cons_self)) hini
  have hU' : vx_Zq Bundle.tN "UNASSIGNED_STACK" Bundle.steD A s' s'.heap := by rw [hhp]; exact vx_Zq.moved hW0.alike (hU.kept hS.2.1)
  have hN' : vx_Zq Bundle.tN "SUPPRESSED_SENTINEL" Bundle.listD A s' s'.heap := by rw [hhp]; exact vx_Zq.moved hW0.alike (hN.kept hS.2.1)
  have h : ∀ w ∈ Bundle.ownAtoms own ic cls names, w.before args s' = true := vx_own hat' (vx_isRefq hU'.1) (vx_isRefq hN'.1) hU'.2.word hN'.2.word
  have hown' : s'.vm.findClass own = some m.cls := by rw [hvm]; exact hown
  have hins : (Cond.instantiable cls 6).before args s' = true := h _ (by simp [Bundle.ownAtoms])
  obtain ⟨vm₁, cX, kX, hfX, hkX, -, -, X₁, st1⟩ := Y.newCold hexec (own := own) (C := cls) (index := ik) (n := 6) hown' hk' hins hini'
    (g := F0 m pc ls rest) rfl (by rw [hb]; exact d0) (Nat.le_refl _) (Nat.le_refl _)
  generalize hT1 : (T.setVm vm₁).pushCell { cls := cX, slots := kX.instanceTypes.map defaultValue, vm := .none } = T1 at X₁ st1
  have hcat : (Value.ref T.heap.size).category = 1 := rfl
  have hcellA : T1.heap[T.heap.size]? = some (freshCell cX kX) := by rw [← hT1]; exact State.heap_pushCell_size _ _
  have d3' : decode c.code (pc + 3) = .ok (.dup, 1) := by rw [hb]; exact d3
  have d4' : decode c.code (pc + 4) = .ok (.ldc_w is, 3) := by rw [hb]; exact d4
  have hstr' : vk_R own is text sa s' := vk_R.warm hW0 hstr
  obtain ⟨U, hsteps, hrun, hend, hW, hsame, ce, hce, hO⟩ := X₁.ctorThrowS hexec htr (own := own) (cls := cls) (names := names) (ic := ic) hown' hcls hnames h (fun x hx => nomatch hx) hfX hkX hcellA (by rw [hhp, hT]; exact Nat.le_refl _) (msg := .ref sa) rfl
    (g := { method := m, pc := pc + 7, locals := ls, stack := .ref sa :: .ref T.heap.size :: .ref T.heap.size :: rest, locked := none }) rfl hsize rfl rfl (rest := rest) rfl
    (by rw [hb]; exact d7) (by rw [hb]; exact d10) hout hRframes (by simp only [List.map_cons, List.sum_cons, hcat]; omega) hlocks
  obtain ⟨f1, f2⟩ := vx_frame hsame
  rw [hhp] at f1 f2
  have hWs : s.WarmedH U.vm := State.WarmedH.trans hW0 hW
  have hcl : s.vm.findClass cls = some ce.cls := by
    have h9 := hO.cls
    rw [hvm] at h9
    exact h9
  have hall : s.sameButNew ({ U with vm := s.vm } : State) locs mc ms := by
    subst hA
    obtain ⟨e1, e2⟩ := hsame
    rw [State.setFrames_setFrames] at e1
    have h2 : (T.setVm s.vm).sameButNew ({ U with vm := s.vm } : State) [] (0 + 1) (0 + 6) := ⟨e1, e2⟩
    have h3 := X.same.trans h2
    rw [List.append_nil] at h3
    exact h3.mono hc hs
  refine ⟨U, ?_, .threw T.heap.size, hrun, hend, Or.inr ⟨T.heap.size, rfl, cls, ce, locs, hx U hWs.alike f1 (fun q hq => f2 q hq (fun z hz => nomatch hz)), hce, hO.vm, hcl, hWs, hall, hf⟩⟩
  refine st1 _ ?_
  show Steps p.tables e below (T1.setTop { method := m, pc := pc + 3, locals := ls, stack := .ref T.heap.size :: rest, locked := none }) _
  jvm_step X₁.here [X₁.here.top, hexec, d3', Value.category]
  exact X₁.ldcStringW hexec (own := own) (text := text) (index := is) (a := sa) hown' hstr'.1 hstr'.2
    (g := { method := m, pc := pc + 4, locals := ls, stack := .ref T.heap.size :: .ref T.heap.size :: rest, locked := none }) rfl d4' _ hsteps
end Ends
section Bodies
variable {l : Launch}
theorem vx_ofW {y : MethodName} {ws ws' : List Cond} {rm : Room} {Pc : Array Value → State → Prop} {Qc : Array Value → State → Outcome → State → Prop} {XC : String → State → State → Prop} {mc ms : Nat} {free : Addr → Prop} {cc : ByteArray} {maxL : Nat} {ret : Option FieldType}
    (hy : plainName y.cls = true) (hw : ws = Cond.code y cc maxL ret :: ws')
    (body : ∀ p e s m args below meth c s₁, BodyLoose p l y (headSpec ws rm) cc maxL ret e s m args below meth c s₁ → c.maxLocals = maxL → (∀ x ∈ c.exceptionTable.toList, False) → Pc args s →
      W p l e (headSpec ws rm).room s m args below meth c s.heap [] 0 0 (vx_MQ below Qc XC args s mc ms free) (entryFrame m args maxL)) : vx_Met l y ws rm Pc Qc XC mc ms free := by
  refine MetFree.of_bodyS (code := cc) (maxLocals := maxL) (ret := ret) hy ?_ ?_
  · intro args s m h hn
    obtain ⟨meth, c, h1, h2, h3, h4, h5, h6, -, -⟩ := Cond.code_spec hn (atoms_spec (ws := ws) h _ (by rw [hw]; exact List.mem_cons_self))
    exact ⟨meth, c, h1, h2, h3, h4, h5, h6⟩
  · intro p e s m args below meth c s₁ B hml hP _
    have hh0 : s₁.heap = s.heap := by rw [B.state]; rfl
    have ht : ∀ x ∈ c.exceptionTable.toList, False := by
      obtain ⟨meth9, c9, h1, h2, -, -, -, -, h7, -⟩ := Cond.code_spec B.named (atoms_spec (ws := ws) B.pre _ (by rw [hw]; exact List.mem_cons_self))
      cases Option.some.inj (h1.symm.trans B.method)
      cases Option.some.inj (h2.symm.trans (Stand.of_body B).code)
      intro x hx
      rw [Array.isEmpty_iff.mp h7] at hx
      cases hx
    obtain ⟨t, a1, o, b1, b2, b3⟩ := body p e s m args below meth c s₁ B hml ht hP s₁ hh0 (Stand.of_body B)
    exact ⟨t, o, a1, b1, b2, b3⟩
/-- the table of a body with handlers -/
theorem vx_table {p : Program} {x y : MethodName} {S : Spec} {cc bytes : ByteArray} {maxL maxL' : Nat} {ret ret' : Option FieldType} {e : Env} {s s₁ : State} {m : MethodId} {args : Array Value} {below : List Frame} {meth : Method} {c : Code} {hh : List (Nat × Nat × Nat × Nat)}
    (B : BodyLoose p l y S cc maxL ret e s m args below meth c s₁) (h : (Cond.codeWith y bytes maxL' ret' hh).before args s = true) : c.exceptionTable.toList = tableOf hh := by
  obtain ⟨m9, meth9, c9, hn9, h1, h2, -, -, h6, -⟩ := Cond.codeWith_spec h
  cases Option.some.inj (hn9.symm.trans B.named)
  cases Option.some.inj (h1.symm.trans B.method)
  cases Option.some.inj (h2.symm.trans (Stand.of_body B).code)
  rw [← h6, table_eq]
end Bodies
end VXA
/-! ===== END ===== -/
/-! ===== BEGIN a static call of a method with an exception table ===== -/
section VXS
variable {p : Program} {l : Launch} {e : Env} {R : Room} {s : State} {m : MethodId} {args : Array Value} {below : List Frame} {meth : Method} {c : Code} {T : State} {H : Heap} {locs : List Loc} {cells slots : Nat}
abbrev vx_CSW (R : Room) (s : State) (args : Array Value) (own : String) (index : Nat) (y : MethodName) (bytes : ByteArray) (maxL : Nat) (ret : Option FieldType) (hh : List (Nat × Nat × Nat × Nat)) (ws : List Cond) (rm : Room) (mc ms n : Nat) : Prop :=
  (rm.cells = mc ∧ rm.slots = ms ∧ rm.frames + 1 ≤ R.frames ∧ 8 + (maxL + 11) + rm.locals ≤ R.locals ∧ (∀ w ∈ ws, ∀ (a' : Array Value) (U : State), s.WarmedH U.vm → w.before a' U = true) ∧ Cond.codeWith y bytes maxL ret hh ∈ ws) ∧
  (Cond.codeWith y bytes maxL ret hh).before args s = true ∧ (Cond.initialized y.cls).before args s = true ∧ (y.cls ≠ "java/lang/invoke/MethodHandle" ∧ y.cls ≠ "java/lang/invoke/VarHandle") ∧
  (∀ sig, parseMethodDescriptor y.desc = some sig → n = sig.parameters.length) ∧ (Cond.methodLink own index y).before args s = true ∧ (Cond.static y).before args s = true
theorem vx_cwSW {own : String} {index maxL mc ms : Nat} {y : MethodName} {bytes : ByteArray} {ret : Option FieldType} {hh : List (Nat × Nat × Nat × Nat)} {Ts ws ws' : List Cond} {rm : Room} (n : Nat) (ht : ∀ w ∈ Ts, w.before args s = true) (hT : GoodIn Ts (va_wsS own index y ws)) (hw : ws = Cond.codeWith y bytes maxL ret hh :: ws') (hrc : rm.cells = mc) (hrs : rm.slots = ms)
    (hd : y.cls ≠ "java/lang/invoke/MethodHandle" ∧ y.cls ≠ "java/lang/invoke/VarHandle" ∧ (parseMethodDescriptor y.desc).map (fun d => d.parameters.length) = some n) (hR : rm.frames + 1 ≤ R.frames ∧ 8 + (maxL + 11) + rm.locals ≤ R.locals) :
    vx_CSW R s args own index y bytes maxL ret hh ws rm mc ms n := by
  have ok : ∀ w ∈ va_wsS own index y ws, w.before args s = true := fun w h => ht w (hT w h).1
  have hG : GoodIn Ts ws := fun w h => hT w (by unfold va_wsS; exact List.mem_append_right _ h)
  have hc : Cond.codeWith y bytes maxL ret hh ∈ ws := by rw [hw]; exact List.mem_cons_self
  refine ⟨⟨hrc, hrs, hR.1, hR.2, pay_in ht hG, hc⟩, ht _ (hG _ hc).1, ok _ (by simp [va_wsS]), ⟨hd.1, hd.2.1⟩, fun sig h => ?_, ok _ (by simp [va_wsS]), ok _ (by simp [va_wsS])⟩
  have h2 := hd.2.2
  rw [h] at h2
  exact (Option.some.inj h2).symm
theorem vx_callSW (X : Stand p l e R s m args below meth c T locs cells slots) (hexec : p.tables.exec = Jvm.exec) {own : String} {index : Nat} {y : MethodName} {bytes : ByteArray} {maxL : Nat} {ret : Option FieldType} {hh : List (Nat × Nat × Nat × Nat)}
    (hown : s.vm.findClass own = some m.cls) (hlink : (Cond.methodLink own index y).before args s = true) (hstat : (Cond.static y).before args s = true) (hinit : (Cond.initialized y.cls).before args s = true)
    (hcode : (Cond.codeWith y bytes maxL ret hh).before args s = true) (hy : y.cls ≠ "java/lang/invoke/MethodHandle" ∧ y.cls ≠ "java/lang/invoke/VarHandle")
    {W9 : Nat} {Pre : Pt → Array Value → Prop} {Post : Pt → Array Value → Option Value → Pt → Prop} (hK : Back l R p e below s args y 3 W9 Pre Post)
    {g : JFrame} (hg : g.method = m) (hsize : g.locals.size = c.maxLocals) {argsL rest : List Value} (hlen : ∀ sig, parseMethodDescriptor y.desc = some sig → argsL.length = sig.parameters.length)
    (hstack : g.stack = argsL.reverse ++ rest) (hW : 2 * g.monitorRoom + (rest.map fun v => v.category).sum ≤ W9) (hdg : decode c.code g.pc = .ok (.invokestatic index, 3))
    (hpre : ∀ vm₁, s.WarmedH vm₁ → Pre ⟨T.setVm vm₁, locs, cells, slots⟩ argsL.toArray) :
    ∃ (v : Option Value) (vm₁ : Vm) (B : Pt), s.WarmedH vm₁ ∧ Stand p l e R s m args below meth c B.U B.locs B.cells B.slots ∧ Post ⟨T.setVm vm₁, locs, cells, slots⟩ argsL.toArray v B ∧
      ∀ target, Steps p.tables e below (B.U.setTop { g with pc := g.pc + 3, stack := v.toList ++ rest }) target → Steps p.tables e below (T.setTop g) target := by
  obtain ⟨mk, methM, cM, hnamed, hmethM, -, -, -, -, -, -, hsigM⟩ := Cond.codeWith_spec hcode
  have hstatic : methM.isStatic = true := Cond.static_spec hnamed hmethM hstat
  obtain ⟨kP, hkP, -⟩ := className_of_methodNamed hnamed
  have hinitP : kP.init = .initialized := Cond.initialized_spec (findClass_of_methodNamed hnamed) hkP hinit
  obtain ⟨vm₁, X₁, hstep₁⟩ := X.invokestatic hexec hown hlink hnamed hmethM hstatic hkP hinitP hy (g := g) hg (argsL := argsL) (rest := rest) (hlen _ hsigM) hstack hdg
  obtain ⟨v, B, X', hpost, hsteps⟩ := hK m meth c ⟨T.setVm vm₁, locs, cells, slots⟩ { g with stack := rest } (.invokestatic index) mk argsL.toArray X₁ hg hsize hdg hW (X₁.named hnamed) (hpre vm₁ X₁.warmed)
  exact ⟨v, vm₁, B, X₁.warmed, X', hpost, fun target h => hstep₁ _ fun acts => by rw [doInvoke_state]; exact hsteps.trans h⟩
theorem vx_runSW {y : MethodName} {bytes cc : ByteArray} {maxL nL mc ms n index : Nat} {ret : Option FieldType} {hh : List (Nat × Nat × Nat × Nat)} {ws : List Cond} {rm : Room} {Pc : Array Value → State → Prop} {Qc : Array Value → State → Outcome → State → Prop} {free : Addr → Prop} {Ts : List Cond} {own : String} {As rest : List Value} {g : JFrame}
    (S : CallFix p m c cc nL s args Ts own) (hM : Met l y ws rm Pc Qc mc ms free) (cw : vx_CSW R s args own index y bytes maxL ret hh ws rm mc ms n) (hp : PreS s H Pc As)
    (hg : g.method = m) (hn : As.length = n) (hsize : g.locals.size = nL) (hstack : g.stack = As.reverse ++ rest) (hW : 2 * g.monitorRoom + (rest.map fun v => v.category).sum ≤ 8) (hdg : decode cc g.pc = .ok (.invokestatic index, 3)) (hf : cells + mc ≤ R.cells ∧ slots + ms ≤ R.slots) :
    va_Run p l e R s m args below meth c H locs cells slots mc ms g rest (Qc As.toArray) (free) := by
  obtain ⟨⟨hrc, hrs, hfr, hlo, hws, hcw⟩, hcode, hini, hy, hlen, hl, hstt⟩ := cw
  have hK : Back l R p e below s args y 3 8 (PreOf R mc ms Pc) (PostOf Qc mc ms free) := va_backW (hh := hh) (bytes := bytes) (maxL := maxL) (ret := ret) hM hp.1 hrc hrs hfr hlo hws hcw (fun a' U hW => word_at hW (Or.inl (by first | rfl | simp [Cond.onTables, Cond.keeps, Cond.steady])) hini)
  obtain ⟨hx, hb, hml, ho, -⟩ := S
  intro T hT X
  obtain ⟨v, vm₁, ⟨U', l2, c2, s2⟩, hW₁, X', ⟨g', mk, t, L, e1, e2, hq, h1, hL, h2, h3⟩, st⟩ := vx_callSW X hx (hh := hh) (bytes := bytes) (maxL := maxL) (ret := ret) ho hl hstt hini hcode hy hK hg (hsize.trans hml.symm) (argsL := As) (rest := rest) (fun sig h => hn.trans (hlen sig h)) hstack hW (by rw [hb]; exact hdg)
    (fun vm₁ hW₁ => ⟨hf.1, hf.2, hp.2 (T.setVm vm₁) hT hW₁⟩)
  dsimp only [Pt.U, Pt.locs, Pt.cells, Pt.slots] at X' e1 e2 h1 h2 h3 st
  subst h1; subst h2; subst h3
  exact ⟨v, (T.setVm vm₁).calling g' mk As.toArray, t, U', L, hT, X', hL, e1, e2, hq, st⟩
/-- not caught here, past rows that name other classes: it goes on to the caller -/
theorem vx_outP {p : Program} {l : Launch} {e : Env} {R : Room} {s : State} {m : MethodId} {args : Array Value} {below : List Frame} {meth : Method} {c : Code} {H : Heap} {locs : List Loc} {cells slots : Nat} {free : Addr → Prop} {ls : Array Slot} {rest : List Value} {Qc : Array Value → State → Outcome → State → Prop} {XC : String → State → State → Prop}
    {pc : Nat} {own E : String} {ce : Cell} {q : Addr} {mc ms : Nat} (hown : s.vm.findClass own = some m.cls) (hlocks : meth.locks = false)
    (hpass : ∀ z ∈ c.exceptionTable.toList, covers z pc = false ∨ (z.catchType ≠ 0 ∧ ∃ nm : String, (Cond.classLink own z.catchType nm).before args s = true ∧ va_Nc E nm s)) (hcell : H[q]? = some ce) (hv : ce.vm = .none) (hcl : s.vm.findClass E = some ce.cls)
    (hx : ∀ t : State, t.heap = H → s.vm.Alike t.vm → XC E s t) (hf : ∀ z ∈ locs, free z.base) (hc : cells ≤ mc) (hs : slots ≤ ms) :
    vx_W p l e R s m args below meth c H locs cells slots (vx_MQ below Qc XC args s mc ms free) (F0 m pc ls rest) q := by
  intro T hT X
  have hpl : e.platform.magicAccessors = ({} : Platform).magicAccessors := by rw [X.admits.platform]
  obtain ⟨vm', hW', X', st⟩ := X.outThrough hlocks q (g := F0 m pc ls rest) rfl rfl rfl (cell := ce) (by rw [hT]; exact hcell) (by rw [hv]; rfl)
    (by obtain ⟨k9, h9, -⟩ := Vm.findClass_spec hcl; exact ⟨k9, h9⟩) (fun z hz => by
      rcases hpass z hz with h | ⟨hz0, nm, hl1, hn1⟩
      · exact Or.inl h
      · obtain ⟨c6, hc6, hcl6⟩ := Cond.classLink_spec hown hl1 e.platform hpl
        obtain ⟨a8, b8, h1, h2, h3⟩ := hn1
        cases Option.some.inj (h1.symm.trans hcl)
        cases Option.some.inj (h2.symm.trans hc6)
        exact Or.inr ⟨hz0, _, hcl6, h3⟩)
  obtain ⟨g₀, hfr⟩ := X'.frames_eq
  have hcell9 : ((T.setVm vm').setFrames (.throwing q :: below)).heap[q]? = some ce := by
    show T.heap[q]? = some ce
    rw [hT]; exact hcell
  have hend : Ended ((T.setVm vm').setFrames (.throwing q :: below)) below (.threw q) := State.frames_setFrames _ (State.cur_lt_of_frames hfr)
  refine ⟨(T.setVm vm').setFrames (.throwing q :: below), ?_, .threw q, X'.here.running, hend, Or.inr ⟨q, rfl, E, ce, locs, hx _ hT (X'.ends _).1.alike, hcell9, hv, hcl, (X'.ends _).1, (X'.ends _).2.mono hc hs, hf⟩⟩
  rw [X.pushThrowing_eq]
  exact st
/-- a thing of a world lies in the heap -/
theorem vx_lt {D : va_G} {cl : List vw_C} {ws : va_W} {H1 : Heap} (h : va_P D cl ws H1) {k : Nat} {q : Nat × va_E} (hk : ws[k]? = some q) : q.1 < H1.size := (h k q hk).lt
end VXS
/-! ===== END ===== -/
/-! ===== BEGIN methods with a table of their own: called by a name, returning or throwing ===== -/
section VXH
/-! vx_backW, vx_callVX, vx_callSX, vx_callVW, vx_runVW, vx_runVX, vx_runSX, vx_ofWH follow the same proofs as their sisters above (Free/Laws.lean, Shelf42/LK1.lean); vx_outP calls Shelf42/NT130.lean (outThrough). -/
section
variable {l : Launch} {R : Room} {p : Program} {e : Env} {below : List Frame} {s : State} {sargs : Array Value} {y : MethodName} {len W9 : Nat}
theorem vx_backW {ws : List Cond} {rm : Room} {Pc : Array Value → State → Prop} {Qc : Array Value → State → Outcome → State → Prop} {XC : String → State → State → Prop} {mc ms : Nat} {free : Addr → Prop} {bytes : ByteArray} {maxL : Nat} {ret : Option FieldType} {hh : List (Nat × Nat × Nat × Nat)}
    (hM : vx_Met l y ws rm Pc Qc XC mc ms free) (hblind : FrameBlind Pc) (hrc : rm.cells = mc) (hrs : rm.slots = ms)
    (hframes : rm.frames + 1 ≤ R.frames) (hlocals : W9 + (maxL + 11) + rm.locals ≤ R.locals)
    (hws : ∀ w ∈ ws, ∀ a' U, s.WarmedH U.vm → w.before a' U = true) (hcode : Cond.codeWith y bytes maxL ret hh ∈ ws) (hinit : ∀ a' U, s.WarmedH U.vm → (Cond.initialized y.cls).before a' U = true) :
    vx_Back l R p e below s sargs y len W9 (PreOf R mc ms Pc) (PostOf Qc mc ms free) (vx_Post XC mc ms free) := by
  intro m meth c A g ig mk a X hg hsize hdg hW hn hp
  have h1 : (headSpec ws rm).pre.before a A.U = true := atoms_intro fun w hw => hws w hw _ _ X.warmed
  have h2 : (Cond.codeWith y bytes maxL ret hh).before a A.U = true := hws _ hcode _ _ X.warmed
  have h3 : (Cond.initialized y.cls).before a A.U = true := hinit _ _ X.warmed
  have h4 : A.cells + (headSpec ws rm).room.cells ≤ R.cells := by rw [show (headSpec ws rm).room.cells = mc from hrc]; exact hp.1
  have h5 : A.slots + (headSpec ws rm).room.slots ≤ R.slots := by rw [show (headSpec ws rm).room.slots = ms from hrs]; exact hp.2.1
  have hPc : Pc a (A.U.calling g mk a) := hblind _ _ _ _ hp.2.2
  obtain ⟨U, Ls, c0, s0⟩ := A
  dsimp only [Pt.U, Pt.locs, Pt.cells, Pt.slots] at h1 h2 h3 h4 h5 X hn hPc ⊢
  obtain ⟨m9, methY, cY, hn9, hmY, hcY, -, hlY, -⟩ := Cond.codeWith_spec h2
  cases Option.some.inj (hn9.symm.trans hn)
  obtain ⟨kY, hkY, -⟩ := className_of_methodNamed hn
  have hinitY : kY.init = .initialized := Cond.initialized_spec (findClass_of_methodNamed hn) hkY h3
  have h : At U g.method c below := by rw [hg]; exact X.here
  have hlocals9 : W9 + (maxL + 11) + (headSpec ws rm).room.locals ≤ R.locals := hlocals
  have happ : (headSpec ws rm).appliesLoose y e.platform (U.calling g mk a) = true :=
    Spec.appliesLoose_calling (g := g) h hdg hn hkY hinitY
      (X.room_calling (g := g) (R' := (headSpec ws rm).room) hsize hmY hcY hframes (by rw [hlY]; omega) h4 h5) h1
  obtain ⟨mid, hmid⟩ := h.above
  have hfr : (U.setTop g).frames = (.java g :: mid) ++ below := by rw [State.frames_setTop' g h.top, hmid]; rfl
  obtain ⟨o, s₂, hsteps, -, hend, hq⟩ := Steps.callFree hM p X.admits X.cas X.clock (acts := []) hfr happ hPc trivial
  have hq' : vx_Q Qc XC mc ms free a (U.calling g mk a) o s₂ := hq
  rw [State.frames_setTop' g h.top] at hend
  obtain ⟨g₀, hg0⟩ := Option.isSome_iff_exists.mp h.top
  obtain ⟨r, hr⟩ := State.topJava?_eq_some.mp hg0
  have hr' : (({ U with heap := s₂.heap, slotsUsed := s₂.slotsUsed } : State).setVm s₂.vm).frames = .java g₀ :: r := hr
  rcases hq' with ⟨hqc, L, hfe, hL⟩ | ⟨q, rfl, E, ce, L, hx, hce, hcv, hcl, hW₂, hsm, hL⟩
  · obtain ⟨⟨v, rfl⟩, hW₂, e2, q2, q3, q4, q5, q6⟩ := id hfe
    have e3 : s₂ = ({ (U.calling g mk a).setFrames s₂.frames with heap := s₂.heap, slotsUsed := s₂.slotsUsed } : State).setVm s₂.vm := by
      have : s₂ = ({ s₂ with vm := (U.calling g mk a).vm } : State).setVm s₂.vm := rfl
      rw [e2] at this
      exact this
    obtain ⟨c₂, i₂, len₂, hc₂, hd₂, hf₂⟩ := hend
    have hW' : U.WarmedH s₂.vm := hW₂
    have hcc : c₂ = c := by
      have h1 : s₂.code? g.method = U.code? g.method := by
        rw [State.code?_eq, State.code?_eq, hW'.alike.method?]
      exact Option.some.inj (hc₂.symm.trans (h1.trans h.code))
    subst hcc
    have hlen : len₂ = len := by rw [hdg] at hd₂; cases hd₂; rfl
    subst hlen
    have hs₂ : s₂ = (({ U with heap := s₂.heap, slotsUsed := s₂.slotsUsed } : State).setVm s₂.vm).setTop { g with pc := g.pc + len₂, stack := v.toList ++ g.stack } := by
      refine e3.trans ?_
      rw [hf₂, State.calling_eq h.top, State.setFrames_setFrames, State.setTop_of_frames _ hr', hr]
      rfl
    have hsame : U.sameButNew ({ U with heap := s₂.heap, slotsUsed := s₂.slotsUsed } : State) L mc ms := by
      refine ⟨?_, q2, q3, q4, q5, q6⟩
      obtain ⟨t, ht, -⟩ := State.frames_cons hr
      show ({ U with heap := s₂.heap, slotsUsed := s₂.slotsUsed } : State) = { U.setFrames U.frames with heap := s₂.heap, slotsUsed := s₂.slotsUsed }
      rw [State.setFrames_self ht]
    subst hg
    refine Or.inl ⟨v, ⟨(({ U with heap := s₂.heap, slotsUsed := s₂.slotsUsed } : State).setVm s₂.vm), Ls ++ L, c0 + mc, s0 + ms⟩,
      ⟨X.admits, X.cas, X.clock, X.frames, X.room, X.hears, X.method, X.code, (X.here.setHeapUsed s₂.heap s₂.slotsUsed).setVm hW'.alike, X.tail, State.WarmedH.trans X.warmed hW', X.limits, X.bytes, X.same.trans (hsame.setVm s.vm)⟩,
      ⟨g, mk, s₂, L, rfl, rfl, hqc, rfl, hL, rfl, rfl⟩, ?_⟩
    show Steps p.tables e below _ ((({ U with heap := s₂.heap, slotsUsed := s₂.slotsUsed } : State).setVm s₂.vm).setTop { g with pc := g.pc + len₂, stack := v.toList ++ g.stack })
    rw [← hs₂]
    exact hsteps
  · obtain ⟨e2, q2, q3, q4, q5, q6⟩ := id hsm
    have e3 : s₂ = ({ (U.calling g mk a).setFrames s₂.frames with heap := s₂.heap, slotsUsed := s₂.slotsUsed } : State).setVm s₂.vm := by
      have : s₂ = ({ s₂ with vm := (U.calling g mk a).vm } : State).setVm s₂.vm := rfl
      rw [e2] at this
      exact this
    have hf₂ : s₂.frames = .throwing q :: .java g :: U.frames.tail := hend
    have hW' : U.WarmedH s₂.vm := hW₂
    have hs₂ : s₂ = ((({ U with heap := s₂.heap, slotsUsed := s₂.slotsUsed } : State).setVm s₂.vm).setTop g).pushFrame (.throwing q) := by
      refine e3.trans ?_
      rw [hf₂, State.calling_eq h.top, State.setFrames_setFrames, State.pushFrame, State.frames_setTop _ hr', State.setTop_of_frames _ hr', State.setFrames_setFrames, hr]
      rfl
    have hsame : U.sameButNew ({ U with heap := s₂.heap, slotsUsed := s₂.slotsUsed } : State) L mc ms := by
      refine ⟨?_, q2, q3, q4, q5, q6⟩
      obtain ⟨t, ht, -⟩ := State.frames_cons hr
      show ({ U with heap := s₂.heap, slotsUsed := s₂.slotsUsed } : State) = { U.setFrames U.frames with heap := s₂.heap, slotsUsed := s₂.slotsUsed }
      rw [State.setFrames_self ht]
    subst hg
    refine Or.inr ⟨q, ⟨(({ U with heap := s₂.heap, slotsUsed := s₂.slotsUsed } : State).setVm s₂.vm), Ls ++ L, c0 + mc, s0 + ms⟩,
      ⟨X.admits, X.cas, X.clock, X.frames, X.room, X.hears, X.method, X.code, (X.here.setHeapUsed s₂.heap s₂.slotsUsed).setVm hW'.alike, X.tail, State.WarmedH.trans X.warmed hW', X.limits, X.bytes, X.same.trans (hsame.setVm s.vm)⟩,
      ⟨g, mk, s₂, L, E, ce, rfl, rfl, hx, hce, hcv, hcl, rfl, hL, rfl, rfl⟩, ?_⟩
    show Steps p.tables e below _ (((({ U with heap := s₂.heap, slotsUsed := s₂.slotsUsed } : State).setVm s₂.vm).setTop g).pushFrame (.throwing q))
    rw [← hs₂]
    exact hsteps
end
variable {p : Program} {l : Launch} {e : Env} {R : Room} {s : State} {m : MethodId} {args : Array Value} {below : List Frame} {meth : Method} {c : Code} {T : State} {H : Heap} {locs : List Loc} {cells slots : Nat}
theorem vx_callVX (X : Stand p l e R s m args below meth c T locs cells slots) (hexec : p.tables.exec = Jvm.exec) {own C : String} {index : Nat} {y : MethodName} {bytes : ByteArray} {maxL : Nat} {ret : Option FieldType} {hh : List (Nat × Nat × Nat × Nat)}
    (hown : s.vm.findClass own = some m.cls) (hlink : (Cond.methodLink own index y).before args s = true) (hinst : (Cond.instanceMethod y).before args s = true) (hsel : (Cond.selects C y y).before args s = true)
    (hcode : (Cond.codeWith y bytes maxL ret hh).before args s = true) (hy : y.cls ≠ "java/lang/invoke/MethodHandle" ∧ y.cls ≠ "java/lang/invoke/VarHandle")
    {W9 : Nat} {Pre : Pt → Array Value → Prop} {Post : Pt → Array Value → Option Value → Pt → Prop} {PostX : Pt → Array Value → Addr → Pt → Prop} (hK : vx_Back l R p e below s args y 3 W9 Pre Post PostX)
    {b : Addr} {cellB : Cell} (hcell : T.heap[b]? = some cellB) (hobj : cellB.vm.isStatics = false) (hcls : s.vm.findClass C = some cellB.cls)
    {g : JFrame} (hg : g.method = m) (hsize : g.locals.size = c.maxLocals) {argsL rest : List Value} (hlen : ∀ sig, parseMethodDescriptor y.desc = some sig → argsL.length = sig.parameters.length)
    (hstack : g.stack = argsL.reverse ++ .ref b :: rest) (hW : 2 * g.monitorRoom + (rest.map fun v => v.category).sum ≤ W9) (hdg : decode c.code g.pc = .ok (.invokevirtual index, 3))
    (hpre : ∀ vm₁, s.WarmedH vm₁ → Pre ⟨T.setVm vm₁, locs, cells, slots⟩ (Value.ref b :: argsL).toArray) :
    (∃ (v : Option Value) (vm₁ : Vm) (B : Pt), s.WarmedH vm₁ ∧ Stand p l e R s m args below meth c B.U B.locs B.cells B.slots ∧ Post ⟨T.setVm vm₁, locs, cells, slots⟩ (Value.ref b :: argsL).toArray v B ∧
      ∀ target, Steps p.tables e below (B.U.setTop { g with pc := g.pc + 3, stack := v.toList ++ rest }) target → Steps p.tables e below (T.setTop g) target) ∨
    (∃ (q : Addr) (vm₁ : Vm) (B : Pt), s.WarmedH vm₁ ∧ Stand p l e R s m args below meth c B.U B.locs B.cells B.slots ∧ PostX ⟨T.setVm vm₁, locs, cells, slots⟩ (Value.ref b :: argsL).toArray q B ∧
      Steps p.tables e below (T.setTop g) ((B.U.setTop { g with stack := rest }).pushFrame (.throwing q))) := by
  obtain ⟨mk, methM, hnamed, hmethM, hstM, habM⟩ := Cond.instanceMethod_spec hinst
  obtain ⟨m8, methM', cM, hn8, hmethM', -, -, -, -, -, -, hsigM⟩ := Cond.codeWith_spec hcode
  cases Option.some.inj (hn8.symm.trans hnamed)
  cases hmethM.symm.trans hmethM'
  obtain ⟨c2, r2, m2, q1, q2, q3, q4, kP, hkP, hkPi⟩ := Cond.selects_spec hsel
  cases hcls.symm.trans q1
  cases (State.methodFound?_of_named hnamed hy).symm.trans q2
  cases hnamed.symm.trans q3
  have hselP : selectMethod e.platform s.vm cellB.cls mk = .method mk := by rw [Launch.admits_selectMethod X.admits]; exact q4
  obtain ⟨vm₁, X₁, hstep₁⟩ := X.invokevirtual hexec hown hlink hnamed hmethM hstM hkP hkPi hy (a := b) (cell := cellB) hcell
    (fun z h => by rw [h] at hobj; cases hobj) hselP hmethM habM hkP hkPi (g := g) hg (argsL := argsL) (rest := rest) (hlen _ hsigM) hstack hdg
  rcases hK m meth c ⟨T.setVm vm₁, locs, cells, slots⟩ { g with stack := rest } (.invokevirtual index) mk (Value.ref b :: argsL).toArray X₁ hg hsize hdg hW (X₁.named hnamed) (hpre vm₁ X₁.warmed) with ⟨v, B, X', hpost, hsteps⟩ | ⟨q, B, X', hpost, hsteps⟩
  · exact Or.inl ⟨v, vm₁, B, X₁.warmed, X', hpost, fun target h => hstep₁ _ fun acts => by rw [doInvoke_state]; exact hsteps.trans h⟩
  · exact Or.inr ⟨q, vm₁, B, X₁.warmed, X', hpost, hstep₁ _ fun acts => by rw [doInvoke_state]; exact hsteps⟩
theorem vx_callSX (X : Stand p l e R s m args below meth c T locs cells slots) (hexec : p.tables.exec = Jvm.exec) {own : String} {index : Nat} {y : MethodName} {bytes : ByteArray} {maxL : Nat} {ret : Option FieldType} {hh : List (Nat × Nat × Nat × Nat)}
    (hown : s.vm.findClass own = some m.cls) (hlink : (Cond.methodLink own index y).before args s = true) (hstat : (Cond.static y).before args s = true) (hinit : (Cond.initialized y.cls).before args s = true)
    (hcode : (Cond.codeWith y bytes maxL ret hh).before args s = true) (hy : y.cls ≠ "java/lang/invoke/MethodHandle" ∧ y.cls ≠ "java/lang/invoke/VarHandle")
    {W9 : Nat} {Pre : Pt → Array Value → Prop} {Post : Pt → Array Value → Option Value → Pt → Prop} {PostX : Pt → Array Value → Addr → Pt → Prop} (hK : vx_Back l R p e below s args y 3 W9 Pre Post PostX)
    {g : JFrame} (hg : g.method = m) (hsize : g.locals.size = c.maxLocals) {argsL rest : List Value} (hlen : ∀ sig, parseMethodDescriptor y.desc = some sig → argsL.length = sig.parameters.length)
    (hstack : g.stack = argsL.reverse ++ rest) (hW : 2 * g.monitorRoom + (rest.map fun v => v.category).sum ≤ W9) (hdg : decode c.code g.pc = .ok (.invokestatic index, 3))
    (hpre : ∀ vm₁, s.WarmedH vm₁ → Pre ⟨T.setVm vm₁, locs, cells, slots⟩ argsL.toArray) :
    (∃ (v : Option Value) (vm₁ : Vm) (B : Pt), s.WarmedH vm₁ ∧ Stand p l e R s m args below meth c B.U B.locs B.cells B.slots ∧ Post ⟨T.setVm vm₁, locs, cells, slots⟩ argsL.toArray v B ∧
      ∀ target, Steps p.tables e below (B.U.setTop { g with pc := g.pc + 3, stack := v.toList ++ rest }) target → Steps p.tables e below (T.setTop g) target) ∨
    (∃ (q : Addr) (vm₁ : Vm) (B : Pt), s.WarmedH vm₁ ∧ Stand p l e R s m args below meth c B.U B.locs B.cells B.slots ∧ PostX ⟨T.setVm vm₁, locs, cells, slots⟩ argsL.toArray q B ∧
      Steps p.tables e below (T.setTop g) ((B.U.setTop { g with stack := rest }).pushFrame (.throwing q))) := by
  obtain ⟨mk, methM, cM, hnamed, hmethM, -, -, -, -, -, -, hsigM⟩ := Cond.codeWith_spec hcode
  have hstatic : methM.isStatic = true := Cond.static_spec hnamed hmethM hstat
  obtain ⟨kP, hkP, -⟩ := className_of_methodNamed hnamed
  have hinitP : kP.init = .initialized := Cond.initialized_spec (findClass_of_methodNamed hnamed) hkP hinit
  obtain ⟨vm₁, X₁, hstep₁⟩ := X.invokestatic hexec hown hlink hnamed hmethM hstatic hkP hinitP hy (g := g) hg (argsL := argsL) (rest := rest) (hlen _ hsigM) hstack hdg
  rcases hK m meth c ⟨T.setVm vm₁, locs, cells, slots⟩ { g with stack := rest } (.invokestatic index) mk argsL.toArray X₁ hg hsize hdg hW (X₁.named hnamed) (hpre vm₁ X₁.warmed) with ⟨v, B, X', hpost, hsteps⟩ | ⟨q, B, X', hpost, hsteps⟩
  · exact Or.inl ⟨v, vm₁, B, X₁.warmed, X', hpost, fun target h => hstep₁ _ fun acts => by rw [doInvoke_state]; exact hsteps.trans h⟩
  · exact Or.inr ⟨q, vm₁, B, X₁.warmed, X', hpost, hstep₁ _ fun acts => by rw [doInvoke_state]; exact hsteps⟩
theorem vx_callVW (X : Stand p l e R s m args below meth c T locs cells slots) (hexec : p.tables.exec = Jvm.exec) {own C : String} {index : Nat} {y : MethodName} {bytes : ByteArray} {maxL : Nat} {ret : Option FieldType} {hh : List (Nat × Nat × Nat × Nat)}
    (hown : s.vm.findClass own = some m.cls) (hlink : (Cond.methodLink own index y).before args s = true) (hinst : (Cond.instanceMethod y).before args s = true) (hsel : (Cond.selects C y y).before args s = true)
    (hcode : (Cond.codeWith y bytes maxL ret hh).before args s = true) (hy : y.cls ≠ "java/lang/invoke/MethodHandle" ∧ y.cls ≠ "java/lang/invoke/VarHandle")
    {W9 : Nat} {Pre : Pt → Array Value → Prop} {Post : Pt → Array Value → Option Value → Pt → Prop} (hK : Back l R p e below s args y 3 W9 Pre Post)
    {b : Addr} {cellB : Cell} (hcell : T.heap[b]? = some cellB) (hobj : cellB.vm.isStatics = false) (hcls : s.vm.findClass C = some cellB.cls)
    {g : JFrame} (hg : g.method = m) (hsize : g.locals.size = c.maxLocals) {argsL rest : List Value} (hlen : ∀ sig, parseMethodDescriptor y.desc = some sig → argsL.length = sig.parameters.length)
    (hstack : g.stack = argsL.reverse ++ .ref b :: rest) (hW : 2 * g.monitorRoom + (rest.map fun v => v.category).sum ≤ W9) (hdg : decode c.code g.pc = .ok (.invokevirtual index, 3))
    (hpre : ∀ vm₁, s.WarmedH vm₁ → Pre ⟨T.setVm vm₁, locs, cells, slots⟩ (Value.ref b :: argsL).toArray) :
    ∃ (v : Option Value) (vm₁ : Vm) (B : Pt), s.WarmedH vm₁ ∧ Stand p l e R s m args below meth c B.U B.locs B.cells B.slots ∧ Post ⟨T.setVm vm₁, locs, cells, slots⟩ (Value.ref b :: argsL).toArray v B ∧
      ∀ target, Steps p.tables e below (B.U.setTop { g with pc := g.pc + 3, stack := v.toList ++ rest }) target → Steps p.tables e below (T.setTop g) target := by
  obtain ⟨mk, methM, hnamed, hmethM, hstM, habM⟩ := Cond.instanceMethod_spec hinst
  obtain ⟨m8, methM', cM, hn8, hmethM', -, -, -, -, -, -, hsigM⟩ := Cond.codeWith_spec hcode
  cases Option.some.inj (hn8.symm.trans hnamed)
  cases hmethM.symm.trans hmethM'
  obtain ⟨c2, r2, m2, q1, q2, q3, q4, kP, hkP, hkPi⟩ := Cond.selects_spec hsel
  cases hcls.symm.trans q1
  cases (State.methodFound?_of_named hnamed hy).symm.trans q2
  cases hnamed.symm.trans q3
  have hselP : selectMethod e.platform s.vm cellB.cls mk = .method mk := by rw [Launch.admits_selectMethod X.admits]; exact q4
  obtain ⟨vm₁, X₁, hstep₁⟩ := X.invokevirtual hexec hown hlink hnamed hmethM hstM hkP hkPi hy (a := b) (cell := cellB) hcell
    (fun z h => by rw [h] at hobj; cases hobj) hselP hmethM habM hkP hkPi (g := g) hg (argsL := argsL) (rest := rest) (hlen _ hsigM) hstack hdg
  obtain ⟨v, B, X', hpost, hsteps⟩ := hK m meth c ⟨T.setVm vm₁, locs, cells, slots⟩ { g with stack := rest } (.invokevirtual index) mk (Value.ref b :: argsL).toArray X₁ hg hsize hdg hW (X₁.named hnamed) (hpre vm₁ X₁.warmed)
  exact ⟨v, vm₁, B, X₁.warmed, X', hpost, fun target h => hstep₁ _ fun acts => by rw [doInvoke_state]; exact hsteps.trans h⟩
abbrev vx_CVW (R : Room) (s : State) (args : Array Value) (own C : String) (index : Nat) (y : MethodName) (bytes : ByteArray) (maxL : Nat) (ret : Option FieldType) (hh : List (Nat × Nat × Nat × Nat)) (ws : List Cond) (rm : Room) (mc ms n : Nat) : Prop :=
  (rm.cells = mc ∧ rm.slots = ms ∧ rm.frames + 1 ≤ R.frames ∧ 8 + (maxL + 11) + rm.locals ≤ R.locals ∧ (∀ w ∈ ws, ∀ (a' : Array Value) (U : State), s.WarmedH U.vm → w.before a' U = true) ∧ Cond.codeWith y bytes maxL ret hh ∈ ws) ∧
  (Cond.codeWith y bytes maxL ret hh).before args s = true ∧ (Cond.initialized y.cls).before args s = true ∧ (y.cls ≠ "java/lang/invoke/MethodHandle" ∧ y.cls ≠ "java/lang/invoke/VarHandle") ∧
  (∀ sig, parseMethodDescriptor y.desc = some sig → n = sig.parameters.length) ∧ (Cond.methodLink own index y).before args s = true ∧ (Cond.instanceMethod y).before args s = true ∧ (Cond.selects C y y).before args s = true
theorem vx_cwVW {own C : String} {index maxL mc ms : Nat} {y : MethodName} {bytes : ByteArray} {ret : Option FieldType} {hh : List (Nat × Nat × Nat × Nat)} {Ts ws ws' : List Cond} {rm : Room} (n : Nat) (ht : ∀ w ∈ Ts, w.before args s = true) (hT : GoodIn Ts (wsV own index C y ws)) (hw : ws = Cond.codeWith y bytes maxL ret hh :: ws') (hrc : rm.cells = mc) (hrs : rm.slots = ms)
    (hd : y.cls = C ∧ y.cls ≠ "java/lang/invoke/MethodHandle" ∧ y.cls ≠ "java/lang/invoke/VarHandle" ∧ (parseMethodDescriptor y.desc).map (fun d => d.parameters.length) = some n) (hR : rm.frames + 1 ≤ R.frames ∧ 8 + (maxL + 11) + rm.locals ≤ R.locals) :
    vx_CVW R s args own C index y bytes maxL ret hh ws rm mc ms n := by
  obtain ⟨hC, hd⟩ := hd
  subst hC
  have ok : ∀ w ∈ wsV own index y.cls y ws, w.before args s = true := fun w h => ht w (hT w h).1
  have hG : GoodIn Ts ws := fun w h => hT w (by unfold wsV; exact List.mem_append_right _ h)
  have hc : Cond.codeWith y bytes maxL ret hh ∈ ws := by rw [hw]; exact List.mem_cons_self
  refine ⟨⟨hrc, hrs, hR.1, hR.2, pay_in ht hG, hc⟩, ht _ (hG _ hc).1, ok _ (by simp [wsV]), ⟨hd.1, hd.2.1⟩, fun sig h => ?_, ok _ (by simp [wsV]), ok _ (by simp [wsV]), ok _ (by simp [wsV])⟩
  have h2 := hd.2.2
  rw [h] at h2
  exact (Option.some.inj h2).symm
theorem vx_runVW {y : MethodName} {bytes cc : ByteArray} {maxL nL mc ms n index : Nat} {ret : Option FieldType} {hh : List (Nat × Nat × Nat × Nat)} {ws : List Cond} {rm : Room} {Pc : Array Value → State → Prop} {Qc : Array Value → State → Outcome → State → Prop} {free : Addr → Prop} {Ts : List Cond} {own C : String} {b : Addr} {As rest : List Value} {g : JFrame}
    (S : CallFix p m c cc nL s args Ts own) (hM : Met l y ws rm Pc Qc mc ms free) (cw : vx_CVW R s args own C index y bytes maxL ret hh ws rm mc ms n) (hp : PreV s H C b Pc As)
    (hg : g.method = m) (hn : As.length = n) (hsize : g.locals.size = nL) (hstack : g.stack = As.reverse ++ .ref b :: rest) (hW : 2 * g.monitorRoom + (rest.map fun v => v.category).sum ≤ 8) (hdg : decode cc g.pc = .ok (.invokevirtual index, 3)) (hf : cells + mc ≤ R.cells ∧ slots + ms ≤ R.slots) :
    va_Run p l e R s m args below meth c H locs cells slots mc ms g rest (Qc (Value.ref b :: As).toArray) free := by
  obtain ⟨⟨hrc, hrs, hfr, hlo, hws, hcw⟩, hcode, hini, hy, hlen, hl, hin, hse⟩ := cw
  have hK : Back l R p e below s args y 3 8 (PreOf R mc ms Pc) (PostOf Qc mc ms free) := va_backW (hh := hh) (bytes := bytes) (maxL := maxL) (ret := ret) hM hp.1 hrc hrs hfr hlo hws hcw (fun a' U hW => word_at hW (Or.inl (by first | rfl | simp [Cond.onTables, Cond.keeps, Cond.steady])) hini)
  obtain ⟨hx, hb, hml, ho, -⟩ := S
  obtain ⟨-, ⟨cellB, hcB, hoB, hclB⟩, hPc⟩ := hp
  intro T hT X
  obtain ⟨v, vm₁, ⟨U', l2, c2, s2⟩, hW₁, X', ⟨g', mk, t, L, e1, e2, hq, h1, hL, h2, h3⟩, st⟩ := vx_callVW X hx (C := C) (hh := hh) (bytes := bytes) (maxL := maxL) (ret := ret) ho hl hin hse hcode hy hK (by rw [hT]; exact hcB) hoB hclB hg (hsize.trans hml.symm) (argsL := As) (rest := rest) (fun sig h => hn.trans (hlen sig h)) hstack hW (by rw [hb]; exact hdg)
    (fun vm₁ hW₁ => ⟨hf.1, hf.2, hPc (T.setVm vm₁) hT hW₁⟩)
  dsimp only [Pt.U, Pt.locs, Pt.cells, Pt.slots] at X' e1 e2 h1 h2 h3 st
  subst h1; subst h2; subst h3
  exact ⟨v, (T.setVm vm₁).calling g' mk (Value.ref b :: As).toArray, t, U', L, hT, X', hL, e1, e2, hq, st⟩
section
variable {y : MethodName} {bytes cc : ByteArray} {maxL nL mc ms n index : Nat} {ret : Option FieldType} {ws : List Cond} {rm : Room} {Pc : Array Value → State → Prop} {Qc : Array Value → State → Outcome → State → Prop} {XC : String → State → State → Prop} {free : Addr → Prop} {Ts : List Cond} {own C : String} {b : Addr} {As rest : List Value} {g : JFrame}
theorem vx_runVX {hh : List (Nat × Nat × Nat × Nat)} (S : CallFix p m c cc nL s args Ts own) (hM : vx_Met l y ws rm Pc Qc XC mc ms free) (cw : vx_CVW R s args own C index y bytes maxL ret hh ws rm mc ms n) (hp : PreV s H C b Pc As)
    (hg : g.method = m) (hn : As.length = n) (hsize : g.locals.size = nL) (hstack : g.stack = As.reverse ++ .ref b :: rest) (hW : 2 * g.monitorRoom + (rest.map fun v => v.category).sum ≤ 8) (hdg : decode cc g.pc = .ok (.invokevirtual index, 3)) (hf : cells + mc ≤ R.cells ∧ slots + ms ≤ R.slots) :
    vx_Run p l e R s m args below meth c H locs cells slots mc ms g rest (Qc (Value.ref b :: As).toArray) XC free := by
  obtain ⟨⟨hrc, hrs, hfr, hlo, hws, hcw⟩, hcode, hini, hy, hlen, hl, hin, hse⟩ := cw
  have hK : vx_Back l R p e below s args y 3 8 (PreOf R mc ms Pc) (PostOf Qc mc ms free) (vx_Post XC mc ms free) := vx_backW (hh := hh) (bytes := bytes) (maxL := maxL) (ret := ret) hM hp.1 hrc hrs hfr hlo hws hcw (fun a' U hW => word_at hW (Or.inl (by first | rfl | simp [Cond.onTables, Cond.keeps, Cond.steady])) hini)
  obtain ⟨hx, hb, hml, ho, -⟩ := S
  obtain ⟨-, ⟨cellB, hcB, hoB, hclB⟩, hPc⟩ := hp
  intro T hT X
  rcases vx_callVX X hx (C := C) (hh := hh) (bytes := bytes) (maxL := maxL) (ret := ret) ho hl hin hse hcode hy hK (by rw [hT]; exact hcB) hoB hclB hg (hsize.trans hml.symm) (argsL := As) (rest := rest) (fun sig h => hn.trans (hlen sig h)) hstack hW (by rw [hb]; exact hdg)
    (fun vm₁ hW₁ => ⟨hf.1, hf.2, hPc (T.setVm vm₁) hT hW₁⟩) with ⟨v, vm₁, ⟨U', l2, c2, s2⟩, hW₁, X', ⟨g', mk, t, L, e1, e2, hq, h1, hL, h2, h3⟩, st⟩ | ⟨q, vm₁, ⟨U', l2, c2, s2⟩, hW₁, X', ⟨g', mk, t, L, E, ce, e1, e2, hq, hce, hcv, hcl, h1, hL, h2, h3⟩, st⟩
  · dsimp only [Pt.U, Pt.locs, Pt.cells, Pt.slots] at X' e1 e2 h1 h2 h3 st
    subst h1; subst h2; subst h3
    exact Or.inl ⟨v, (T.setVm vm₁).calling g' mk (Value.ref b :: As).toArray, t, U', L, hT, X', hL, e1, e2, hq, st⟩
  · dsimp only [Pt.U, Pt.locs, Pt.cells, Pt.slots] at X' e1 e2 h1 h2 h3 st hcl
    subst h1; subst h2; subst h3
    exact Or.inr ⟨q, (T.setVm vm₁).calling g' mk (Value.ref b :: As).toArray, t, U', L, E, ce, hT, X', hL, e1, e2, hq, hce, hcv, vx_cls hW₁ hcl, st⟩
theorem vx_runSX {hh : List (Nat × Nat × Nat × Nat)} (S : CallFix p m c cc nL s args Ts own) (hM : vx_Met l y ws rm Pc Qc XC mc ms free) (cw : vx_CSW R s args own index y bytes maxL ret hh ws rm mc ms n) (hp : PreS s H Pc As)
    (hg : g.method = m) (hn : As.length = n) (hsize : g.locals.size = nL) (hstack : g.stack = As.reverse ++ rest) (hW : 2 * g.monitorRoom + (rest.map fun v => v.category).sum ≤ 8) (hdg : decode cc g.pc = .ok (.invokestatic index, 3)) (hf : cells + mc ≤ R.cells ∧ slots + ms ≤ R.slots) :
    vx_Run p l e R s m args below meth c H locs cells slots mc ms g rest (Qc As.toArray) XC free := by
  obtain ⟨⟨hrc, hrs, hfr, hlo, hws, hcw⟩, hcode, hini, hy, hlen, hl, hstt⟩ := cw
  have hK : vx_Back l R p e below s args y 3 8 (PreOf R mc ms Pc) (PostOf Qc mc ms free) (vx_Post XC mc ms free) := vx_backW (hh := hh) (bytes := bytes) (maxL := maxL) (ret := ret) hM hp.1 hrc hrs hfr hlo hws hcw (fun a' U hW => word_at hW (Or.inl (by first | rfl | simp [Cond.onTables, Cond.keeps, Cond.steady])) hini)
  obtain ⟨hx, hb, hml, ho, -⟩ := S
  intro T hT X
  rcases vx_callSX X hx (hh := hh) (bytes := bytes) (maxL := maxL) (ret := ret) ho hl hstt hini hcode hy hK hg (hsize.trans hml.symm) (argsL := As) (rest := rest) (fun sig h => hn.trans (hlen sig h)) hstack hW (by rw [hb]; exact hdg)
    (fun vm₁ hW₁ => ⟨hf.1, hf.2, hp.2 (T.setVm vm₁) hT hW₁⟩) with ⟨v, vm₁, ⟨U', l2, c2, s2⟩, hW₁, X', ⟨g', mk, t, L, e1, e2, hq, h1, hL, h2, h3⟩, st⟩ | ⟨q, vm₁, ⟨U', l2, c2, s2⟩, hW₁, X', ⟨g', mk, t, L, E, ce, e1, e2, hq, hce, hcv, hcl, h1, hL, h2, h3⟩, st⟩
  · dsimp only [Pt.U, Pt.locs, Pt.cells, Pt.slots] at X' e1 e2 h1 h2 h3 st
    subst h1; subst h2; subst h3
    exact Or.inl ⟨v, (T.setVm vm₁).calling g' mk As.toArray, t, U', L, hT, X', hL, e1, e2, hq, st⟩
  · dsimp only [Pt.U, Pt.locs, Pt.cells, Pt.slots] at X' e1 e2 h1 h2 h3 st hcl
    subst h1; subst h2; subst h3
    exact Or.inr ⟨q, (T.setVm vm₁).calling g' mk As.toArray, t, U', L, E, ce, hT, X', hL, e1, e2, hq, hce, hcv, vx_cls hW₁ hcl, st⟩
end
end VXH
theorem vx_ofWH {l : Launch} {y : MethodName} {ws ws' : List Cond} {rm : Room} {Pc : Array Value → State → Prop} {Qc : Array Value → State → Outcome → State → Prop} {XC : String → State → State → Prop} {mc ms : Nat} {free : Addr → Prop} {cc : ByteArray} {maxL : Nat} {ret : Option FieldType} {hh : List (Nat × Nat × Nat × Nat)}
    (hy : plainName y.cls = true) (hw : ws = Cond.codeWith y cc maxL ret hh :: ws')
    (body : ∀ p e s m args below meth c s₁, BodyLoose p l y (headSpec ws rm) cc maxL ret e s m args below meth c s₁ → c.maxLocals = maxL → Pc args s →
      W p l e (headSpec ws rm).room s m args below meth c s.heap [] 0 0 (vx_MQ below Qc XC args s mc ms free) (entryFrame m args maxL)) : vx_Met l y ws rm Pc Qc XC mc ms free := by
  refine MetFree.of_bodyS (code := cc) (maxLocals := maxL) (ret := ret) hy ?_ ?_
  · intro args s m h hn
    obtain ⟨m9, meth, c, hn9, h1, h2, h3, h4, -, h5, h6, -⟩ := Cond.codeWith_spec (atoms_spec (ws := ws) h _ (by rw [hw]; exact List.mem_cons_self))
    cases hn.symm.trans hn9
    exact ⟨meth, c, h1, h2, h3, h4, h5, h6⟩
  · intro p e s m args below meth c s₁ B hml hP _
    have hh0 : s₁.heap = s.heap := by rw [B.state]; rfl
    obtain ⟨t, a1, o, b1, b2, b3⟩ := body p e s m args below meth c s₁ B hml hP s₁ hh0 (Stand.of_body B)
    exact ⟨t, o, a1, b1, b2, b3⟩
/-! ===== END ===== -/
end
section
def RX0 : String := "MarketSockets$Breaker"
def TX0 : u_T := fun k => match k with
  | 0 => ("MarketSockets$Breaker", "bound", "I", false)
  | 1 => ("MarketSockets$Breaker", "isOn", "Z", false)
  | 2 => ("MarketSockets$Breaker", "heat", "I", false)
  | 3 => ("MarketSockets$Breaker", "trips", "I", false)
  | 4 => ("MarketSockets$Breaker", "through", "I", false)
  | _ => ("MarketSockets$Breaker", "carried", "I", false)
def tyX0 : Nat → FieldType := fun k => match k with
  | 0 => .int
  | 1 => .boolean
  | 2 => .int
  | 3 => .int
  | 4 => .int
  | _ => .int
abbrev wsX00 : List Cond := u_ws RX0 TX0 6
theorem nmX0 : ∀ a, a < 6 → ∀ b, b < 6 → a ≠ b → (TX0 a).2.1 ≠ (TX0 b).2.1 := by decide +kernel
theorem tyX0_ok : ∀ k, k < 6 → parseFieldDescriptor (TX0 k).2.2.1 = some (tyX0 k) := by decide +kernel
abbrev cX0_init : ByteArray := prog_2_method_1_code
def yX0_init : MethodName := ⟨RX0, "<init>", "()V"⟩
abbrev cX0_putOn : ByteArray := prog_2_method_2_code
def yX0_putOn : MethodName := ⟨RX0, "putOn", "()V"⟩
abbrev cX0_carriesTooMuch : ByteArray := prog_2_method_3_code
def yX0_carriesTooMuch : MethodName := ⟨RX0, "carriesTooMuch", "()Z"⟩
abbrev cX0_heatOrCool : ByteArray := prog_2_method_4_code
def yX0_heatOrCool : MethodName := ⟨RX0, "heatOrCool", "(I)V"⟩
abbrev cX0_tripIfHot : ByteArray := prog_2_method_5_code
def yX0_tripIfHot : MethodName := ⟨RX0, "tripIfHot", "()V"⟩
abbrev cX0_copyFrom : ByteArray := prog_2_method_6_code
def yX0_copyFrom : MethodName := ⟨RX0, "copyFrom", "(LMarketSockets$Breaker;)V"⟩
def RX1 : String := "MarketSockets$History"
def TX1 : u_T := fun k => match k with
  | 0 => ("MarketSockets$History", "rows", "[LMarketSockets$Market;", true)
  | 1 => ("MarketSockets$History", "next", "I", false)
  | _ => ("MarketSockets$History", "size", "I", false)
def tyX1 : Nat → FieldType := fun k => match k with
  | 0 => .array (.object "MarketSockets$Market")
  | 1 => .int
  | _ => .int
abbrev wsX10 : List Cond := u_ws RX1 TX1 3
theorem nmX1 : ∀ a, a < 3 → ∀ b, b < 3 → a ≠ b → (TX1 a).2.1 ≠ (TX1 b).2.1 := by decide +kernel
theorem tyX1_ok : ∀ k, k < 3 → parseFieldDescriptor (TX1 k).2.2.1 = some (tyX1 k) := by decide +kernel
abbrev cX1_init : ByteArray := prog_3_method_1_code
def yX1_init : MethodName := ⟨RX1, "<init>", "()V"⟩
abbrev cX1_save : ByteArray := prog_3_method_2_code
def yX1_save : MethodName := ⟨RX1, "save", "(LMarketSockets$Market;)V"⟩
abbrev cX1_restoreTo : ByteArray := prog_3_method_3_code
def yX1_restoreTo : MethodName := ⟨RX1, "restoreTo", "(LMarketSockets$Market;)V"⟩
def RX2 : String := "MarketSockets$Market"
def TX2 : u_T := fun k => match k with
  | 0 => ("MarketSockets$Market", "stalls", "[LMarketSockets$Stall;", true)
  | 1 => ("MarketSockets$Market", "stallCount", "I", false)
  | 2 => ("MarketSockets$Market", "breakers", "[LMarketSockets$Breaker;", true)
  | 3 => ("MarketSockets$Market", "isOver", "[Z", true)
  | 4 => ("MarketSockets$Market", "settings", "[I", true)
  | 5 => ("MarketSockets$Market", "hour", "I", false)
  | 6 => ("MarketSockets$Market", "servedHours", "I", false)
  | _ => ("MarketSockets$Market", "shedByRank", "I", false)
def tyX2 : Nat → FieldType := fun k => match k with
  | 0 => .array (.object "MarketSockets$Stall")
  | 1 => .int
  | 2 => .array (.object "MarketSockets$Breaker")
  | 3 => .array .boolean
  | 4 => .array .int
  | 5 => .int
  | 6 => .int
  | _ => .int
abbrev wsX20 : List Cond := u_ws RX2 TX2 8
theorem nmX2 : ∀ a, a < 8 → ∀ b, b < 8 → a ≠ b → (TX2 a).2.1 ≠ (TX2 b).2.1 := by decide +kernel
theorem tyX2_ok : ∀ k, k < 8 → parseFieldDescriptor (TX2 k).2.2.1 = some (tyX2 k) := by decide +kernel
abbrev cX2_init : ByteArray := prog_4_method_1_code
def yX2_init : MethodName := ⟨RX2, "<init>", "()V"⟩
abbrev cX2_copyFrom : ByteArray := prog_4_method_2_code
def yX2_copyFrom : MethodName := ⟨RX2, "copyFrom", "(LMarketSockets$Market;)V"⟩
abbrev cX2_isFull : ByteArray := prog_4_method_3_code
def yX2_isFull : MethodName := ⟨RX2, "isFull", "()Z"⟩
abbrev cX2_add : ByteArray := prog_4_method_4_code
def yX2_add : MethodName := ⟨RX2, "add", "(IIII)I"⟩
abbrev cX2_move : ByteArray := prog_4_method_5_code
def yX2_move : MethodName := ⟨RX2, "move", "(II)I"⟩
abbrev cX2_hasRoomFor : ByteArray := prog_4_method_6_code
def yX2_hasRoomFor : MethodName := ⟨RX2, "hasRoomFor", "(I)Z"⟩
abbrev cX2_goHours : ByteArray := prog_4_method_7_code
def yX2_goHours : MethodName := ⟨RX2, "goHours", "(I)V"⟩
abbrev cX2_goOneHour : ByteArray := prog_4_method_8_code
def yX2_goOneHour : MethodName := ⟨RX2, "goOneHour", "()V"⟩
abbrev cX2_findSources : ByteArray := prog_4_method_9_code
def yX2_findSources : MethodName := ⟨RX2, "findSources", "()V"⟩
abbrev cX2_shedTooMuch : ByteArray := prog_4_method_10_code
def yX2_shedTooMuch : MethodName := ⟨RX2, "shedTooMuch", "(I)V"⟩
abbrev cX2_firstToShed : ByteArray := prog_4_method_11_code
def yX2_firstToShed : MethodName := ⟨RX2, "firstToShed", "(I)I"⟩
abbrev cX2_runMeters : ByteArray := prog_4_method_12_code
def yX2_runMeters : MethodName := ⟨RX2, "runMeters", "()V"⟩
abbrev cX2_breakerOf : ByteArray := prog_4_method_13_code
def yX2_breakerOf : MethodName := ⟨RX2, "breakerOf", "(I)I"⟩
abbrev cX2_stallAt : ByteArray := prog_4_method_14_code
def yX2_stallAt : MethodName := ⟨RX2, "stallAt", "(I)I"⟩
abbrev cX2_sourceOf : ByteArray := prog_4_method_15_code
def yX2_sourceOf : MethodName := ⟨RX2, "sourceOf", "(LMarketSockets$Stall;)I"⟩
abbrev cX2_reasonOf : ByteArray := prog_4_method_16_code
def yX2_reasonOf : MethodName := ⟨RX2, "reasonOf", "(LMarketSockets$Stall;)I"⟩
abbrev cX2_feeOf : ByteArray := prog_4_method_17_code
def yX2_feeOf : MethodName := ⟨RX2, "feeOf", "(LMarketSockets$Stall;)I"⟩
abbrev cX2_loadOn : ByteArray := prog_4_method_18_code
def yX2_loadOn : MethodName := ⟨RX2, "loadOn", "(I)I"⟩
abbrev cX2_loadPluggedInto : ByteArray := prog_4_method_19_code
def yX2_loadPluggedInto : MethodName := ⟨RX2, "loadPluggedInto", "(I)I"⟩
abbrev cX2_drawersOn : ByteArray := prog_4_method_20_code
def yX2_drawersOn : MethodName := ⟨RX2, "drawersOn", "(I)I"⟩
abbrev cX2_pluggedStalls : ByteArray := prog_4_method_21_code
def yX2_pluggedStalls : MethodName := ⟨RX2, "pluggedStalls", "()I"⟩
abbrev cX2_drawingStalls : ByteArray := prog_4_method_22_code
def yX2_drawingStalls : MethodName := ⟨RX2, "drawingStalls", "()I"⟩
abbrev cX2_breakersOn : ByteArray := prog_4_method_23_code
def yX2_breakersOn : MethodName := ⟨RX2, "breakersOn", "()I"⟩
abbrev cX2_meters : ByteArray := prog_4_method_24_code
def yX2_meters : MethodName := ⟨RX2, "meters", "()I"⟩
abbrev cX2_through : ByteArray := prog_4_method_25_code
def yX2_through : MethodName := ⟨RX2, "through", "()I"⟩
abbrev cX2_trips : ByteArray := prog_4_method_26_code
def yX2_trips : MethodName := ⟨RX2, "trips", "()I"⟩
abbrev cX2_darkHours : ByteArray := prog_4_method_27_code
def yX2_darkHours : MethodName := ⟨RX2, "darkHours", "()I"⟩
abbrev cX2_fees : ByteArray := prog_4_method_28_code
def yX2_fees : MethodName := ⟨RX2, "fees", "()I"⟩
def RX3 : String := "MarketSockets$PlanText"
def TX3 : u_T := fun k => match k with
  | 0 => ("MarketSockets$PlanText", "signs", "[C", true)
  | 1 => ("MarketSockets$PlanText", "length", "I", false)
  | 2 => ("MarketSockets$PlanText", "at", "I", false)
  | 3 => ("MarketSockets$PlanText", "kind", "C", false)
  | _ => ("MarketSockets$PlanText", "numbers", "[I", true)
def tyX3 : Nat → FieldType := fun k => match k with
  | 0 => .array .char
  | 1 => .int
  | 2 => .int
  | 3 => .char
  | _ => .array .int
abbrev wsX30 : List Cond := u_ws RX3 TX3 5
theorem nmX3 : ∀ a, a < 5 → ∀ b, b < 5 → a ≠ b → (TX3 a).2.1 ≠ (TX3 b).2.1 := by decide +kernel
theorem tyX3_ok : ∀ k, k < 5 → parseFieldDescriptor (TX3 k).2.2.1 = some (tyX3 k) := by decide +kernel
abbrev cX3_init : ByteArray := prog_5_method_1_code
def yX3_init : MethodName := ⟨RX3, "<init>", "()V"⟩
abbrev cX3_readWhole : ByteArray := prog_5_method_2_code
def yX3_readWhole : MethodName := ⟨RX3, "readWhole", "()Z"⟩
abbrev cX3_readOrder : ByteArray := prog_5_method_3_code
def yX3_readOrder : MethodName := ⟨RX3, "readOrder", "()Z"⟩
abbrev cX3_readSign : ByteArray := prog_5_method_4_code
def yX3_readSign : MethodName := ⟨RX3, "readSign", "(C)Z"⟩
abbrev cX3_readNumber : ByteArray := prog_5_method_5_code
def yX3_readNumber : MethodName := ⟨RX3, "readNumber", "(III)Z"⟩
abbrev cX3_digitAt : ByteArray := prog_5_method_6_code
def yX3_digitAt : MethodName := ⟨RX3, "digitAt", "(I)I"⟩
def RX4 : String := "MarketSockets$Stall"
def TX4 : u_T := fun k => match k with
  | 0 => ("MarketSockets$Stall", "load", "I", false)
  | 1 => ("MarketSockets$Stall", "from", "I", false)
  | 2 => ("MarketSockets$Stall", "to", "I", false)
  | 3 => ("MarketSockets$Stall", "rank", "I", false)
  | 4 => ("MarketSockets$Stall", "socket", "I", false)
  | 5 => ("MarketSockets$Stall", "isShed", "Z", false)
  | 6 => ("MarketSockets$Stall", "meter", "I", false)
  | 7 => ("MarketSockets$Stall", "darkHours", "I", false)
  | _ => ("MarketSockets$Stall", "source", "I", false)
def tyX4 : Nat → FieldType := fun k => match k with
  | 0 => .int
  | 1 => .int
  | 2 => .int
  | 3 => .int
  | 4 => .int
  | 5 => .boolean
  | 6 => .int
  | 7 => .int
  | _ => .int
abbrev wsX40 : List Cond := u_ws RX4 TX4 9
theorem nmX4 : ∀ a, a < 9 → ∀ b, b < 9 → a ≠ b → (TX4 a).2.1 ≠ (TX4 b).2.1 := by decide +kernel
theorem tyX4_ok : ∀ k, k < 9 → parseFieldDescriptor (TX4 k).2.2.1 = some (tyX4 k) := by decide +kernel
abbrev cX4_init : ByteArray := prog_6_method_1_code
def yX4_init : MethodName := ⟨RX4, "<init>", "()V"⟩
abbrev cX4_wantsAt : ByteArray := prog_6_method_2_code
def yX4_wantsAt : MethodName := ⟨RX4, "wantsAt", "(I)Z"⟩
abbrev cX4_begin : ByteArray := prog_6_method_3_code
def yX4_begin : MethodName := ⟨RX4, "begin", "(IIII)V"⟩
abbrev cX4_copyFrom : ByteArray := prog_6_method_4_code
def yX4_copyFrom : MethodName := ⟨RX4, "copyFrom", "(LMarketSockets$Stall;)V"⟩
def RX5 : String := "MarketSockets"
def TX5 : u_T := fun k => match k with
  | 0 => ("MarketSockets", "market", "LMarketSockets$Market;", true)
  | 1 => ("MarketSockets", "trial", "LMarketSockets$Market;", true)
  | 2 => ("MarketSockets", "slots", "[LMarketSockets$Market;", true)
  | 3 => ("MarketSockets", "hasSnapshot", "[Z", true)
  | 4 => ("MarketSockets", "history", "LMarketSockets$History;", true)
  | _ => ("MarketSockets", "plan", "LMarketSockets$PlanText;", true)
def tyX5 : Nat → FieldType := fun k => match k with
  | 0 => .object "MarketSockets$Market"
  | 1 => .object "MarketSockets$Market"
  | 2 => .array (.object "MarketSockets$Market")
  | 3 => .array .boolean
  | 4 => .object "MarketSockets$History"
  | _ => .object "MarketSockets$PlanText"
abbrev wsX50 : List Cond := u_ws RX5 TX5 6
theorem nmX5 : ∀ a, a < 6 → ∀ b, b < 6 → a ≠ b → (TX5 a).2.1 ≠ (TX5 b).2.1 := by decide +kernel
theorem tyX5_ok : ∀ k, k < 6 → parseFieldDescriptor (TX5 k).2.2.1 = some (tyX5 k) := by decide +kernel
abbrev cX5_init : ByteArray := prog_1_method_1_code
def yX5_init : MethodName := ⟨RX5, "<init>", "()V"⟩
abbrev cX5_stall : ByteArray := prog_1_method_2_code
def yX5_stall : MethodName := ⟨RX5, "stall", "(IIII)I"⟩
abbrev cX5_plug : ByteArray := prog_1_method_3_code
def yX5_plug : MethodName := ⟨RX5, "plug", "(II)I"⟩
abbrev cX5_pull : ByteArray := prog_1_method_4_code
def yX5_pull : MethodName := ⟨RX5, "pull", "(I)I"⟩
abbrev cX5_shed : ByteArray := prog_1_method_5_code
def yX5_shed : MethodName := ⟨RX5, "shed", "(I)I"⟩
abbrev cX5_bound : ByteArray := prog_1_method_6_code
def yX5_bound : MethodName := ⟨RX5, "bound", "(II)I"⟩
abbrev cX5_reset : ByteArray := prog_1_method_7_code
def yX5_reset : MethodName := ⟨RX5, "reset", "(I)I"⟩
abbrev cX5_over : ByteArray := prog_1_method_8_code
def yX5_over : MethodName := ⟨RX5, "over", "(I)I"⟩
abbrev cX5_pass : ByteArray := prog_1_method_9_code
def yX5_pass : MethodName := ⟨RX5, "pass", "(I)I"⟩
abbrev cX5_set : ByteArray := prog_1_method_10_code
def yX5_set : MethodName := ⟨RX5, "set", "(II)I"⟩
abbrev cX5_append : ByteArray := prog_1_method_11_code
def yX5_append : MethodName := ⟨RX5, "append", "(I)I"⟩
abbrev cX5_clearBuffer : ByteArray := prog_1_method_12_code
def yX5_clearBuffer : MethodName := ⟨RX5, "clearBuffer", "()I"⟩
abbrev cX5_firstError : ByteArray := prog_1_method_13_code
def yX5_firstError : MethodName := ⟨RX5, "firstError", "()I"⟩
abbrev cX5_open : ByteArray := prog_1_method_14_code
def yX5_open : MethodName := ⟨RX5, "open", "()I"⟩
abbrev cX5_keep : ByteArray := prog_1_method_15_code
def yX5_keep : MethodName := ⟨RX5, "keep", "(I)I"⟩
abbrev cX5_goBack : ByteArray := prog_1_method_16_code
def yX5_goBack : MethodName := ⟨RX5, "goBack", "(I)I"⟩
abbrev cX5_undo : ByteArray := prog_1_method_17_code
def yX5_undo : MethodName := ⟨RX5, "undo", "()I"⟩
abbrev cX5_stallOf : ByteArray := prog_1_method_18_code
def yX5_stallOf : MethodName := ⟨RX5, "stallOf", "(II)I"⟩
abbrev cX5_breaker : ByteArray := prog_1_method_19_code
def yX5_breaker : MethodName := ⟨RX5, "breaker", "(II)I"⟩
abbrev cX5_socket : ByteArray := prog_1_method_20_code
def yX5_socket : MethodName := ⟨RX5, "socket", "(II)I"⟩
abbrev cX5_count : ByteArray := prog_1_method_21_code
def yX5_count : MethodName := ⟨RX5, "count", "(I)I"⟩
abbrev cX5_setting : ByteArray := prog_1_method_22_code
def yX5_setting : MethodName := ⟨RX5, "setting", "(I)I"⟩
abbrev cX5_ifPlugged : ByteArray := prog_1_method_23_code
def yX5_ifPlugged : MethodName := ⟨RX5, "ifPlugged", "(IIII)I"⟩
abbrev cX5_tripsIn : ByteArray := prog_1_method_24_code
def yX5_tripsIn : MethodName := ⟨RX5, "tripsIn", "(I)I"⟩
abbrev cX5_bestSocket : ByteArray := prog_1_method_25_code
def yX5_bestSocket : MethodName := ⟨RX5, "bestSocket", "(I)I"⟩
abbrev cX5_leastBound : ByteArray := prog_1_method_26_code
def yX5_leastBound : MethodName := ⟨RX5, "leastBound", "(I)I"⟩
abbrev cX5_servedShare : ByteArray := prog_1_method_27_code
def yX5_servedShare : MethodName := ⟨RX5, "servedShare", "()D"⟩
abbrev cX5_digest : ByteArray := prog_1_method_28_code
def yX5_digest : MethodName := ⟨RX5, "digest", "()J"⟩
abbrev cX5_checkStall : ByteArray := prog_1_method_29_code
def yX5_checkStall : MethodName := ⟨RX5, "checkStall", "(I)V"⟩
abbrev cX5_checkSetting : ByteArray := prog_1_method_30_code
def yX5_checkSetting : MethodName := ⟨RX5, "checkSetting", "(I)V"⟩
abbrev cX5_checkArgument : ByteArray := prog_1_method_31_code
def yX5_checkArgument : MethodName := ⟨RX5, "checkArgument", "(III)V"⟩
abbrev cX5_doOrders : ByteArray := prog_1_method_32_code
def yX5_doOrders : MethodName := ⟨RX5, "doOrders", "()I"⟩
abbrev cX5_doOrder : ByteArray := prog_1_method_33_code
def yX5_doOrder : MethodName := ⟨RX5, "doOrder", "()Z"⟩
abbrev cX5_isTakenFor : ByteArray := prog_1_method_34_code
def yX5_isTakenFor : MethodName := ⟨RX5, "isTakenFor", "(II)Z"⟩
abbrev cX5_tryAt : ByteArray := prog_1_method_35_code
def yX5_tryAt : MethodName := ⟨RX5, "tryAt", "(III)V"⟩
abbrev cX5_wouldTripWith : ByteArray := prog_1_method_36_code
def yX5_wouldTripWith : MethodName := ⟨RX5, "wouldTripWith", "(II)Z"⟩
abbrev cX5_mix : ByteArray := prog_1_method_37_code
def yX5_mix : MethodName := ⟨RX5, "mix", "(JJ)J"⟩
abbrev cX5_mixBuffer : ByteArray := prog_1_method_38_code
def yX5_mixBuffer : MethodName := ⟨RX5, "mixBuffer", "(J)J"⟩
abbrev cX5_bitsOf : ByteArray := prog_1_method_39_code
def yX5_bitsOf : MethodName := ⟨RX5, "bitsOf", "(D)J"⟩
def RX6 : String := "MarketSocketsModel"
def TX6 : u_T := fun k => match k with
  | 0 => ("MarketSocketsModel", "thrown", "I", false)
  | 1 => ("MarketSocketsModel", "z", "[I", true)
  | 2 => ("MarketSocketsModel", "saved", "[I", true)
  | 3 => ("MarketSocketsModel", "savedMany", "I", false)
  | 4 => ("MarketSocketsModel", "slots", "[I", true)
  | 5 => ("MarketSocketsModel", "isKept", "[Z", true)
  | 6 => ("MarketSocketsModel", "spare", "[I", true)
  | 7 => ("MarketSocketsModel", "buffer", "[I", true)
  | 8 => ("MarketSocketsModel", "typed", "I", false)
  | 9 => ("MarketSocketsModel", "orders", "[I", true)
  | 10 => ("MarketSocketsModel", "orderMany", "I", false)
  | 11 => ("MarketSocketsModel", "spot", "I", false)
  | 12 => ("MarketSocketsModel", "wrong", "I", false)
  | _ => ("MarketSocketsModel", "hash", "J", false)
def tyX6 : Nat → FieldType := fun k => match k with
  | 0 => .int
  | 1 => .array .int
  | 2 => .array .int
  | 3 => .int
  | 4 => .array .int
  | 5 => .array .boolean
  | 6 => .array .int
  | 7 => .array .int
  | 8 => .int
  | 9 => .array .int
  | 10 => .int
  | 11 => .int
  | 12 => .int
  | _ => .long
abbrev wsX60 : List Cond := u_ws RX6 TX6 14
theorem nmX6 : ∀ a, a < 14 → ∀ b, b < 14 → a ≠ b → (TX6 a).2.1 ≠ (TX6 b).2.1 := by decide +kernel
theorem tyX6_ok : ∀ k, k < 14 → parseFieldDescriptor (TX6 k).2.2.1 = some (tyX6 k) := by decide +kernel
abbrev cX6_init : ByteArray := prog_8_method_1_code
def yX6_init : MethodName := ⟨RX6, "<init>", "()V"⟩
abbrev cX6_thrown : ByteArray := prog_8_method_2_code
def yX6_thrown : MethodName := ⟨RX6, "thrown", "()I"⟩
abbrev cX6_in : ByteArray := prog_8_method_3_code
def yX6_in : MethodName := ⟨RX6, "in", "(III)Z"⟩
abbrev cX6_isBreaker : ByteArray := prog_8_method_4_code
def yX6_isBreaker : MethodName := ⟨RX6, "isBreaker", "(I)Z"⟩
abbrev cX6_isSocket : ByteArray := prog_8_method_5_code
def yX6_isSocket : MethodName := ⟨RX6, "isSocket", "(I)Z"⟩
abbrev cX6_isStall : ByteArray := prog_8_method_6_code
def yX6_isStall : MethodName := ⟨RX6, "isStall", "(I)Z"⟩
abbrev cX6_by : ByteArray := prog_8_method_7_code
def yX6_by : MethodName := ⟨RX6, "by", "(II)I"⟩
abbrev cX6_put : ByteArray := prog_8_method_8_code
def yX6_put : MethodName := ⟨RX6, "put", "(III)V"⟩
abbrev cX6_of : ByteArray := prog_8_method_9_code
def yX6_of : MethodName := ⟨RX6, "of", "(II)I"⟩
abbrev cX6_lay : ByteArray := prog_8_method_10_code
def yX6_lay : MethodName := ⟨RX6, "lay", "(III)V"⟩
abbrev cX6_save : ByteArray := prog_8_method_11_code
def yX6_save : MethodName := ⟨RX6, "save", "()V"⟩
abbrev cX6_undo : ByteArray := prog_8_method_12_code
def yX6_undo : MethodName := ⟨RX6, "undo", "()I"⟩
abbrev cX6_putAside : ByteArray := prog_8_method_13_code
def yX6_putAside : MethodName := ⟨RX6, "putAside", "()V"⟩
abbrev cX6_bringBack : ByteArray := prog_8_method_14_code
def yX6_bringBack : MethodName := ⟨RX6, "bringBack", "()V"⟩
abbrev cX6_breakerOf : ByteArray := prog_8_method_15_code
def yX6_breakerOf : MethodName := ⟨RX6, "breakerOf", "(I)I"⟩
abbrev cX6_wantsLoad : ByteArray := prog_8_method_16_code
def yX6_wantsLoad : MethodName := ⟨RX6, "wantsLoad", "(I)Z"⟩
abbrev cX6_reason : ByteArray := prog_8_method_17_code
def yX6_reason : MethodName := ⟨RX6, "reason", "(I)I"⟩
abbrev cX6_isOn : ByteArray := prog_8_method_18_code
def yX6_isOn : MethodName := ⟨RX6, "isOn", "(II)Z"⟩
abbrev cX6_carried : ByteArray := prog_8_method_19_code
def yX6_carried : MethodName := ⟨RX6, "carried", "(I)I"⟩
abbrev cX6_goesFirst : ByteArray := prog_8_method_20_code
def yX6_goesFirst : MethodName := ⟨RX6, "goesFirst", "(II)Z"⟩
abbrev cX6_firstToShed : ByteArray := prog_8_method_21_code
def yX6_firstToShed : MethodName := ⟨RX6, "firstToShed", "(I)I"⟩
abbrev cX6_shedByRank : ByteArray := prog_8_method_22_code
def yX6_shedByRank : MethodName := ⟨RX6, "shedByRank", "(I)V"⟩
abbrev cX6_warm : ByteArray := prog_8_method_23_code
def yX6_warm : MethodName := ⟨RX6, "warm", "(I)V"⟩
abbrev cX6_meter : ByteArray := prog_8_method_24_code
def yX6_meter : MethodName := ⟨RX6, "meter", "(I)V"⟩
abbrev cX6_hour : ByteArray := prog_8_method_25_code
def yX6_hour : MethodName := ⟨RX6, "hour", "()I"⟩
abbrev cX6_hours : ByteArray := prog_8_method_26_code
def yX6_hours : MethodName := ⟨RX6, "hours", "(I)I"⟩
abbrev cX6_stallComes : ByteArray := prog_8_method_27_code
def yX6_stallComes : MethodName := ⟨RX6, "stallComes", "(IIII)I"⟩
abbrev cX6_stall : ByteArray := prog_8_method_28_code
def yX6_stall : MethodName := ⟨RX6, "stall", "(IIII)I"⟩
abbrev cX6_stallAt : ByteArray := prog_8_method_29_code
def yX6_stallAt : MethodName := ⟨RX6, "stallAt", "(I)I"⟩
abbrev cX6_whyNotPlug : ByteArray := prog_8_method_30_code
def yX6_whyNotPlug : MethodName := ⟨RX6, "whyNotPlug", "(II)I"⟩
abbrev cX6_plug : ByteArray := prog_8_method_31_code
def yX6_plug : MethodName := ⟨RX6, "plug", "(II)I"⟩
abbrev cX6_pull : ByteArray := prog_8_method_32_code
def yX6_pull : MethodName := ⟨RX6, "pull", "(I)I"⟩
abbrev cX6_shed : ByteArray := prog_8_method_33_code
def yX6_shed : MethodName := ⟨RX6, "shed", "(I)I"⟩
abbrev cX6_bound : ByteArray := prog_8_method_34_code
def yX6_bound : MethodName := ⟨RX6, "bound", "(II)I"⟩
abbrev cX6_drawing : ByteArray := prog_8_method_35_code
def yX6_drawing : MethodName := ⟨RX6, "drawing", "(I)I"⟩
abbrev cX6_putOn : ByteArray := prog_8_method_36_code
def yX6_putOn : MethodName := ⟨RX6, "putOn", "(I)V"⟩
abbrev cX6_reset : ByteArray := prog_8_method_37_code
def yX6_reset : MethodName := ⟨RX6, "reset", "(I)I"⟩
abbrev cX6_over : ByteArray := prog_8_method_38_code
def yX6_over : MethodName := ⟨RX6, "over", "(I)I"⟩
abbrev cX6_pass : ByteArray := prog_8_method_39_code
def yX6_pass : MethodName := ⟨RX6, "pass", "(I)I"⟩
abbrev cX6_isValue : ByteArray := prog_8_method_40_code
def yX6_isValue : MethodName := ⟨RX6, "isValue", "(II)Z"⟩
abbrev cX6_set : ByteArray := prog_8_method_41_code
def yX6_set : MethodName := ⟨RX6, "set", "(II)I"⟩
abbrev cX6_append : ByteArray := prog_8_method_42_code
def yX6_append : MethodName := ⟨RX6, "append", "(I)I"⟩
abbrev cX6_clearBuffer : ByteArray := prog_8_method_43_code
def yX6_clearBuffer : MethodName := ⟨RX6, "clearBuffer", "()I"⟩
abbrev cX6_letter : ByteArray := prog_8_method_44_code
def yX6_letter : MethodName := ⟨RX6, "letter", "()I"⟩
abbrev cX6_wants : ByteArray := prog_8_method_45_code
def yX6_wants : MethodName := ⟨RX6, "wants", "(Z)V"⟩
abbrev cX6_number : ByteArray := prog_8_method_46_code
def yX6_number : MethodName := ⟨RX6, "number", "(II)I"⟩
abbrev cX6_readStall : ByteArray := prog_8_method_47_code
def yX6_readStall : MethodName := ⟨RX6, "readStall", "(I)V"⟩
abbrev cX6_readOrder : ByteArray := prog_8_method_48_code
def yX6_readOrder : MethodName := ⟨RX6, "readOrder", "()V"⟩
abbrev cX6_readBuffer : ByteArray := prog_8_method_49_code
def yX6_readBuffer : MethodName := ⟨RX6, "readBuffer", "()I"⟩
abbrev cX6_firstError : ByteArray := prog_8_method_50_code
def yX6_firstError : MethodName := ⟨RX6, "firstError", "()I"⟩
abbrev cX6_does : ByteArray := prog_8_method_51_code
def yX6_does : MethodName := ⟨RX6, "does", "(I)Z"⟩
abbrev cX6_open : ByteArray := prog_8_method_52_code
def yX6_open : MethodName := ⟨RX6, "open", "()I"⟩
abbrev cX6_keep : ByteArray := prog_8_method_53_code
def yX6_keep : MethodName := ⟨RX6, "keep", "(I)I"⟩
abbrev cX6_goBack : ByteArray := prog_8_method_54_code
def yX6_goBack : MethodName := ⟨RX6, "goBack", "(I)I"⟩
abbrev cX6_fee : ByteArray := prog_8_method_55_code
def yX6_fee : MethodName := ⟨RX6, "fee", "(I)I"⟩
abbrev cX6_toldStall : ByteArray := prog_8_method_56_code
def yX6_toldStall : MethodName := ⟨RX6, "toldStall", "(II)I"⟩
abbrev cX6_stallOf : ByteArray := prog_8_method_57_code
def yX6_stallOf : MethodName := ⟨RX6, "stallOf", "(II)I"⟩
abbrev cX6_allLoads : ByteArray := prog_8_method_58_code
def yX6_allLoads : MethodName := ⟨RX6, "allLoads", "(I)I"⟩
abbrev cX6_toldBreaker : ByteArray := prog_8_method_59_code
def yX6_toldBreaker : MethodName := ⟨RX6, "toldBreaker", "(II)I"⟩
abbrev cX6_breaker : ByteArray := prog_8_method_60_code
def yX6_breaker : MethodName := ⟨RX6, "breaker", "(II)I"⟩
abbrev cX6_socket : ByteArray := prog_8_method_61_code
def yX6_socket : MethodName := ⟨RX6, "socket", "(II)I"⟩
abbrev cX6_allStalls : ByteArray := prog_8_method_62_code
def yX6_allStalls : MethodName := ⟨RX6, "allStalls", "(I)I"⟩
abbrev cX6_allBreakers : ByteArray := prog_8_method_63_code
def yX6_allBreakers : MethodName := ⟨RX6, "allBreakers", "(I)I"⟩
abbrev cX6_plugged : ByteArray := prog_8_method_64_code
def yX6_plugged : MethodName := ⟨RX6, "plugged", "()I"⟩
abbrev cX6_counted : ByteArray := prog_8_method_65_code
def yX6_counted : MethodName := ⟨RX6, "counted", "(I)I"⟩
abbrev cX6_count : ByteArray := prog_8_method_66_code
def yX6_count : MethodName := ⟨RX6, "count", "(I)I"⟩
abbrev cX6_setting : ByteArray := prog_8_method_67_code
def yX6_setting : MethodName := ⟨RX6, "setting", "(I)I"⟩
abbrev cX6_isTaken : ByteArray := prog_8_method_68_code
def yX6_isTaken : MethodName := ⟨RX6, "isTaken", "(II)Z"⟩
abbrev cX6_wouldPlug : ByteArray := prog_8_method_69_code
def yX6_wouldPlug : MethodName := ⟨RX6, "wouldPlug", "(IIII)I"⟩
abbrev cX6_ifPlugged : ByteArray := prog_8_method_70_code
def yX6_ifPlugged : MethodName := ⟨RX6, "ifPlugged", "(IIII)I"⟩
abbrev cX6_hoursToTrip : ByteArray := prog_8_method_71_code
def yX6_hoursToTrip : MethodName := ⟨RX6, "hoursToTrip", "(I)I"⟩
abbrev cX6_tripsIn : ByteArray := prog_8_method_72_code
def yX6_tripsIn : MethodName := ⟨RX6, "tripsIn", "(I)I"⟩
abbrev cX6_bestFor : ByteArray := prog_8_method_73_code
def yX6_bestFor : MethodName := ⟨RX6, "bestFor", "(I)I"⟩
abbrev cX6_bestSocket : ByteArray := prog_8_method_74_code
def yX6_bestSocket : MethodName := ⟨RX6, "bestSocket", "(I)I"⟩
abbrev cX6_least : ByteArray := prog_8_method_75_code
def yX6_least : MethodName := ⟨RX6, "least", "(I)I"⟩
abbrev cX6_leastBound : ByteArray := prog_8_method_76_code
def yX6_leastBound : MethodName := ⟨RX6, "leastBound", "(I)I"⟩
abbrev cX6_share : ByteArray := prog_8_method_77_code
def yX6_share : MethodName := ⟨RX6, "share", "()D"⟩
abbrev cX6_servedShare : ByteArray := prog_8_method_78_code
def yX6_servedShare : MethodName := ⟨RX6, "servedShare", "()D"⟩
abbrev cX6_bitsOf : ByteArray := prog_8_method_79_code
def yX6_bitsOf : MethodName := ⟨RX6, "bitsOf", "(D)J"⟩
abbrev cX6_mix : ByteArray := prog_8_method_80_code
def yX6_mix : MethodName := ⟨RX6, "mix", "(J)V"⟩
abbrev cX6_mixStall : ByteArray := prog_8_method_81_code
def yX6_mixStall : MethodName := ⟨RX6, "mixStall", "(I)V"⟩
abbrev cX6_mixBreaker : ByteArray := prog_8_method_82_code
def yX6_mixBreaker : MethodName := ⟨RX6, "mixBreaker", "(I)V"⟩
abbrev cX6_digest : ByteArray := prog_8_method_83_code
def yX6_digest : MethodName := ⟨RX6, "digest", "()J"⟩
def RL : String := "MarketSocketsLaw"
abbrev cL_stall : ByteArray := method_3_code
def yL_stall : MethodName := ⟨RL, "stall", "(LMarketSockets;IIII[J)I"⟩
abbrev cL_plug : ByteArray := method_4_code
def yL_plug : MethodName := ⟨RL, "plug", "(LMarketSockets;II[J)I"⟩
abbrev cL_pull : ByteArray := method_5_code
def yL_pull : MethodName := ⟨RL, "pull", "(LMarketSockets;I[J)I"⟩
abbrev cL_shed : ByteArray := method_6_code
def yL_shed : MethodName := ⟨RL, "shed", "(LMarketSockets;I[J)I"⟩
abbrev cL_bound : ByteArray := method_7_code
def yL_bound : MethodName := ⟨RL, "bound", "(LMarketSockets;II[J)I"⟩
abbrev cL_reset : ByteArray := method_8_code
def yL_reset : MethodName := ⟨RL, "reset", "(LMarketSockets;I[J)I"⟩
abbrev cL_over : ByteArray := method_9_code
def yL_over : MethodName := ⟨RL, "over", "(LMarketSockets;I[J)I"⟩
abbrev cL_pass : ByteArray := method_10_code
def yL_pass : MethodName := ⟨RL, "pass", "(LMarketSockets;I[J)I"⟩
abbrev cL_set : ByteArray := method_11_code
def yL_set : MethodName := ⟨RL, "set", "(LMarketSockets;II[J)I"⟩
abbrev cL_append : ByteArray := method_12_code
def yL_append : MethodName := ⟨RL, "append", "(LMarketSockets;I[J)I"⟩
abbrev cL_open : ByteArray := method_13_code
def yL_open : MethodName := ⟨RL, "open", "(LMarketSockets;[J)I"⟩
abbrev cL_keep : ByteArray := method_14_code
def yL_keep : MethodName := ⟨RL, "keep", "(LMarketSockets;I[J)I"⟩
abbrev cL_goBack : ByteArray := method_15_code
def yL_goBack : MethodName := ⟨RL, "goBack", "(LMarketSockets;I[J)I"⟩
abbrev cL_undo : ByteArray := method_16_code
def yL_undo : MethodName := ⟨RL, "undo", "(LMarketSockets;[J)I"⟩
abbrev cL_stallOf : ByteArray := method_17_code
def yL_stallOf : MethodName := ⟨RL, "stallOf", "(LMarketSockets;II[J)I"⟩
abbrev cL_breaker : ByteArray := method_18_code
def yL_breaker : MethodName := ⟨RL, "breaker", "(LMarketSockets;II[J)I"⟩
abbrev cL_socket : ByteArray := method_19_code
def yL_socket : MethodName := ⟨RL, "socket", "(LMarketSockets;II[J)I"⟩
abbrev cL_count : ByteArray := method_20_code
def yL_count : MethodName := ⟨RL, "count", "(LMarketSockets;I[J)I"⟩
abbrev cL_setting : ByteArray := method_21_code
def yL_setting : MethodName := ⟨RL, "setting", "(LMarketSockets;I[J)I"⟩
abbrev cL_ifPlugged : ByteArray := method_22_code
def yL_ifPlugged : MethodName := ⟨RL, "ifPlugged", "(LMarketSockets;IIII[J)I"⟩
abbrev cL_tripsIn : ByteArray := method_23_code
def yL_tripsIn : MethodName := ⟨RL, "tripsIn", "(LMarketSockets;I[J)I"⟩
abbrev cL_bestSocket : ByteArray := method_24_code
def yL_bestSocket : MethodName := ⟨RL, "bestSocket", "(LMarketSockets;I[J)I"⟩
abbrev cL_leastBound : ByteArray := method_25_code
def yL_leastBound : MethodName := ⟨RL, "leastBound", "(LMarketSockets;I[J)I"⟩
abbrev cL_law : ByteArray := code
def yL_law : MethodName := ⟨RL, "law", "([I)Z"⟩
abbrev vwCl : List vw_C := [(RX0, TX0, 6), (RX1, TX1, 3), (RX2, TX2, 8), (RX3, TX3, 5), (RX4, TX4, 9), (RX5, TX5, 6), (RX6, TX6, 14)]
end
section
theorem dX0_init_0 : decode cX0_init 0 = .ok (.aload_n 0, 1) := by decide +kernel
theorem dX0_init_1 : decode cX0_init 1 = .ok (.invokespecial 3, 3) := by decide +kernel
theorem dX0_init_4 : decode cX0_init 4 = .ok (.aload_n 0, 1) := by decide +kernel
theorem dX0_init_5 : decode cX0_init 5 = .ok (.sipush 200, 3) := by decide +kernel
theorem dX0_init_8 : decode cX0_init 8 = .ok (.putfield 9, 3) := by decide +kernel
theorem dX0_init_11 : decode cX0_init 11 = .ok (.aload_n 0, 1) := by decide +kernel
theorem dX0_init_12 : decode cX0_init 12 = .ok (.iconst 1, 1) := by decide +kernel
theorem dX0_init_13 : decode cX0_init 13 = .ok (.putfield 15, 3) := by decide +kernel
theorem dX0_init_16 : decode cX0_init 16 = .ok (.return_, 1) := by decide +kernel
theorem dX0_putOn_0 : decode cX0_putOn 0 = .ok (.aload_n 0, 1) := by decide +kernel
theorem dX0_putOn_1 : decode cX0_putOn 1 = .ok (.iconst 1, 1) := by decide +kernel
theorem dX0_putOn_2 : decode cX0_putOn 2 = .ok (.putfield 15, 3) := by decide +kernel
theorem dX0_putOn_5 : decode cX0_putOn 5 = .ok (.aload_n 0, 1) := by decide +kernel
theorem dX0_putOn_6 : decode cX0_putOn 6 = .ok (.iconst 0, 1) := by decide +kernel
theorem dX0_putOn_7 : decode cX0_putOn 7 = .ok (.putfield 19, 3) := by decide +kernel
theorem dX0_putOn_10 : decode cX0_putOn 10 = .ok (.return_, 1) := by decide +kernel
theorem dX0_carriesTooMuch_0 : decode cX0_carriesTooMuch 0 = .ok (.aload_n 0, 1) := by decide +kernel
theorem dX0_carriesTooMuch_1 : decode cX0_carriesTooMuch 1 = .ok (.getfield 15, 3) := by decide +kernel
theorem dX0_carriesTooMuch_4 : decode cX0_carriesTooMuch 4 = .ok (.ifCond .eq 18, 3) := by decide +kernel
theorem dX0_carriesTooMuch_7 : decode cX0_carriesTooMuch 7 = .ok (.aload_n 0, 1) := by decide +kernel
theorem dX0_carriesTooMuch_8 : decode cX0_carriesTooMuch 8 = .ok (.getfield 22, 3) := by decide +kernel
theorem dX0_carriesTooMuch_11 : decode cX0_carriesTooMuch 11 = .ok (.aload_n 0, 1) := by decide +kernel
theorem dX0_carriesTooMuch_12 : decode cX0_carriesTooMuch 12 = .ok (.getfield 9, 3) := by decide +kernel
theorem dX0_carriesTooMuch_15 : decode cX0_carriesTooMuch 15 = .ok (.if_icmp .le 7, 3) := by decide +kernel
theorem dX0_carriesTooMuch_18 : decode cX0_carriesTooMuch 18 = .ok (.iconst 1, 1) := by decide +kernel
theorem dX0_carriesTooMuch_19 : decode cX0_carriesTooMuch 19 = .ok (.goto 4, 3) := by decide +kernel
theorem dX0_carriesTooMuch_22 : decode cX0_carriesTooMuch 22 = .ok (.iconst 0, 1) := by decide +kernel
theorem dX0_carriesTooMuch_23 : decode cX0_carriesTooMuch 23 = .ok (.ireturn, 1) := by decide +kernel
theorem dX0_heatOrCool_0 : decode cX0_heatOrCool 0 = .ok (.aload_n 0, 1) := by decide +kernel
theorem dX0_heatOrCool_1 : decode cX0_heatOrCool 1 = .ok (.invokevirtual 25, 3) := by decide +kernel
theorem dX0_heatOrCool_4 : decode cX0_heatOrCool 4 = .ok (.ifCond .eq 29, 3) := by decide +kernel
theorem dX0_heatOrCool_7 : decode cX0_heatOrCool 7 = .ok (.aload_n 0, 1) := by decide +kernel
theorem dX0_heatOrCool_8 : decode cX0_heatOrCool 8 = .ok (.dup, 1) := by decide +kernel
theorem dX0_heatOrCool_9 : decode cX0_heatOrCool 9 = .ok (.getfield 19, 3) := by decide +kernel
theorem dX0_heatOrCool_12 : decode cX0_heatOrCool 12 = .ok (.aload_n 0, 1) := by decide +kernel
theorem dX0_heatOrCool_13 : decode cX0_heatOrCool 13 = .ok (.getfield 22, 3) := by decide +kernel
theorem dX0_heatOrCool_16 : decode cX0_heatOrCool 16 = .ok (.aload_n 0, 1) := by decide +kernel
theorem dX0_heatOrCool_17 : decode cX0_heatOrCool 17 = .ok (.getfield 9, 3) := by decide +kernel
theorem dX0_heatOrCool_20 : decode cX0_heatOrCool 20 = .ok (.isub, 1) := by decide +kernel
theorem dX0_heatOrCool_21 : decode cX0_heatOrCool 21 = .ok (.bipush 10, 2) := by decide +kernel
theorem dX0_heatOrCool_23 : decode cX0_heatOrCool 23 = .ok (.idiv, 1) := by decide +kernel
theorem dX0_heatOrCool_24 : decode cX0_heatOrCool 24 = .ok (.iconst 1, 1) := by decide +kernel
theorem dX0_heatOrCool_25 : decode cX0_heatOrCool 25 = .ok (.iadd, 1) := by decide +kernel
theorem dX0_heatOrCool_26 : decode cX0_heatOrCool 26 = .ok (.iadd, 1) := by decide +kernel
theorem dX0_heatOrCool_27 : decode cX0_heatOrCool 27 = .ok (.putfield 19, 3) := by decide +kernel
theorem dX0_heatOrCool_30 : decode cX0_heatOrCool 30 = .ok (.goto 17, 3) := by decide +kernel
theorem dX0_heatOrCool_33 : decode cX0_heatOrCool 33 = .ok (.aload_n 0, 1) := by decide +kernel
theorem dX0_heatOrCool_34 : decode cX0_heatOrCool 34 = .ok (.iconst 0, 1) := by decide +kernel
theorem dX0_heatOrCool_35 : decode cX0_heatOrCool 35 = .ok (.aload_n 0, 1) := by decide +kernel
theorem dX0_heatOrCool_36 : decode cX0_heatOrCool 36 = .ok (.getfield 19, 3) := by decide +kernel
theorem dX0_heatOrCool_39 : decode cX0_heatOrCool 39 = .ok (.iload_n 1, 1) := by decide +kernel
theorem dX0_heatOrCool_40 : decode cX0_heatOrCool 40 = .ok (.isub, 1) := by decide +kernel
theorem dX0_heatOrCool_41 : decode cX0_heatOrCool 41 = .ok (.invokestatic 29, 3) := by decide +kernel
theorem dX0_heatOrCool_44 : decode cX0_heatOrCool 44 = .ok (.putfield 19, 3) := by decide +kernel
theorem dX0_heatOrCool_47 : decode cX0_heatOrCool 47 = .ok (.return_, 1) := by decide +kernel
theorem dX0_tripIfHot_0 : decode cX0_tripIfHot 0 = .ok (.aload_n 0, 1) := by decide +kernel
theorem dX0_tripIfHot_1 : decode cX0_tripIfHot 1 = .ok (.getfield 15, 3) := by decide +kernel
theorem dX0_tripIfHot_4 : decode cX0_tripIfHot 4 = .ok (.ifCond .eq 27, 3) := by decide +kernel
theorem dX0_tripIfHot_7 : decode cX0_tripIfHot 7 = .ok (.aload_n 0, 1) := by decide +kernel
theorem dX0_tripIfHot_8 : decode cX0_tripIfHot 8 = .ok (.getfield 19, 3) := by decide +kernel
theorem dX0_tripIfHot_11 : decode cX0_tripIfHot 11 = .ok (.bipush 9, 2) := by decide +kernel
theorem dX0_tripIfHot_13 : decode cX0_tripIfHot 13 = .ok (.if_icmp .le 18, 3) := by decide +kernel
theorem dX0_tripIfHot_16 : decode cX0_tripIfHot 16 = .ok (.aload_n 0, 1) := by decide +kernel
theorem dX0_tripIfHot_17 : decode cX0_tripIfHot 17 = .ok (.iconst 0, 1) := by decide +kernel
theorem dX0_tripIfHot_18 : decode cX0_tripIfHot 18 = .ok (.putfield 15, 3) := by decide +kernel
theorem dX0_tripIfHot_21 : decode cX0_tripIfHot 21 = .ok (.aload_n 0, 1) := by decide +kernel
theorem dX0_tripIfHot_22 : decode cX0_tripIfHot 22 = .ok (.dup, 1) := by decide +kernel
theorem dX0_tripIfHot_23 : decode cX0_tripIfHot 23 = .ok (.getfield 35, 3) := by decide +kernel
theorem dX0_tripIfHot_26 : decode cX0_tripIfHot 26 = .ok (.iconst 1, 1) := by decide +kernel
theorem dX0_tripIfHot_27 : decode cX0_tripIfHot 27 = .ok (.iadd, 1) := by decide +kernel
theorem dX0_tripIfHot_28 : decode cX0_tripIfHot 28 = .ok (.putfield 35, 3) := by decide +kernel
theorem dX0_tripIfHot_31 : decode cX0_tripIfHot 31 = .ok (.return_, 1) := by decide +kernel
theorem dX0_copyFrom_0 : decode cX0_copyFrom 0 = .ok (.aload_n 0, 1) := by decide +kernel
theorem dX0_copyFrom_1 : decode cX0_copyFrom 1 = .ok (.aload_n 1, 1) := by decide +kernel
theorem dX0_copyFrom_2 : decode cX0_copyFrom 2 = .ok (.getfield 9, 3) := by decide +kernel
theorem dX0_copyFrom_5 : decode cX0_copyFrom 5 = .ok (.putfield 9, 3) := by decide +kernel
theorem dX0_copyFrom_8 : decode cX0_copyFrom 8 = .ok (.aload_n 0, 1) := by decide +kernel
theorem dX0_copyFrom_9 : decode cX0_copyFrom 9 = .ok (.aload_n 1, 1) := by decide +kernel
theorem dX0_copyFrom_10 : decode cX0_copyFrom 10 = .ok (.getfield 15, 3) := by decide +kernel
theorem dX0_copyFrom_13 : decode cX0_copyFrom 13 = .ok (.putfield 15, 3) := by decide +kernel
theorem dX0_copyFrom_16 : decode cX0_copyFrom 16 = .ok (.aload_n 0, 1) := by decide +kernel
theorem dX0_copyFrom_17 : decode cX0_copyFrom 17 = .ok (.aload_n 1, 1) := by decide +kernel
theorem dX0_copyFrom_18 : decode cX0_copyFrom 18 = .ok (.getfield 19, 3) := by decide +kernel
theorem dX0_copyFrom_21 : decode cX0_copyFrom 21 = .ok (.putfield 19, 3) := by decide +kernel
theorem dX0_copyFrom_24 : decode cX0_copyFrom 24 = .ok (.aload_n 0, 1) := by decide +kernel
theorem dX0_copyFrom_25 : decode cX0_copyFrom 25 = .ok (.aload_n 1, 1) := by decide +kernel
theorem dX0_copyFrom_26 : decode cX0_copyFrom 26 = .ok (.getfield 35, 3) := by decide +kernel
theorem dX0_copyFrom_29 : decode cX0_copyFrom 29 = .ok (.putfield 35, 3) := by decide +kernel
theorem dX0_copyFrom_32 : decode cX0_copyFrom 32 = .ok (.aload_n 0, 1) := by decide +kernel
theorem dX0_copyFrom_33 : decode cX0_copyFrom 33 = .ok (.aload_n 1, 1) := by decide +kernel
theorem dX0_copyFrom_34 : decode cX0_copyFrom 34 = .ok (.getfield 38, 3) := by decide +kernel
theorem dX0_copyFrom_37 : decode cX0_copyFrom 37 = .ok (.putfield 38, 3) := by decide +kernel
theorem dX0_copyFrom_40 : decode cX0_copyFrom 40 = .ok (.return_, 1) := by decide +kernel
theorem dX1_init_0 : decode cX1_init 0 = .ok (.aload_n 0, 1) := by decide +kernel
theorem dX1_init_1 : decode cX1_init 1 = .ok (.invokespecial 3, 3) := by decide +kernel
theorem dX1_init_4 : decode cX1_init 4 = .ok (.aload_n 0, 1) := by decide +kernel
theorem dX1_init_5 : decode cX1_init 5 = .ok (.bipush 6, 2) := by decide +kernel
theorem dX1_init_7 : decode cX1_init 7 = .ok (.anewarray 9, 3) := by decide +kernel
theorem dX1_init_10 : decode cX1_init 10 = .ok (.putfield 11, 3) := by decide +kernel
theorem dX1_init_13 : decode cX1_init 13 = .ok (.iconst 0, 1) := by decide +kernel
theorem dX1_init_14 : decode cX1_init 14 = .ok (.istore_n 1, 1) := by decide +kernel
theorem dX1_init_15 : decode cX1_init 15 = .ok (.iload_n 1, 1) := by decide +kernel
theorem dX1_init_16 : decode cX1_init 16 = .ok (.bipush 6, 2) := by decide +kernel
theorem dX1_init_18 : decode cX1_init 18 = .ok (.if_icmp .ge 22, 3) := by decide +kernel
theorem dX1_init_21 : decode cX1_init 21 = .ok (.aload_n 0, 1) := by decide +kernel
theorem dX1_init_22 : decode cX1_init 22 = .ok (.getfield 11, 3) := by decide +kernel
theorem dX1_init_25 : decode cX1_init 25 = .ok (.iload_n 1, 1) := by decide +kernel
theorem dX1_init_26 : decode cX1_init 26 = .ok (.new 9, 3) := by decide +kernel
theorem dX1_init_29 : decode cX1_init 29 = .ok (.dup, 1) := by decide +kernel
theorem dX1_init_30 : decode cX1_init 30 = .ok (.invokespecial 17, 3) := by decide +kernel
theorem dX1_init_33 : decode cX1_init 33 = .ok (.aastore, 1) := by decide +kernel
theorem dX1_init_34 : decode cX1_init 34 = .ok (.iinc 1 1, 3) := by decide +kernel
theorem dX1_init_37 : decode cX1_init 37 = .ok (.goto (-22), 3) := by decide +kernel
theorem dX1_init_40 : decode cX1_init 40 = .ok (.return_, 1) := by decide +kernel
theorem dX1_save_0 : decode cX1_save 0 = .ok (.aload_n 0, 1) := by decide +kernel
theorem dX1_save_1 : decode cX1_save 1 = .ok (.getfield 11, 3) := by decide +kernel
theorem dX1_save_4 : decode cX1_save 4 = .ok (.aload_n 0, 1) := by decide +kernel
theorem dX1_save_5 : decode cX1_save 5 = .ok (.getfield 18, 3) := by decide +kernel
theorem dX1_save_8 : decode cX1_save 8 = .ok (.aaload, 1) := by decide +kernel
theorem dX1_save_9 : decode cX1_save 9 = .ok (.aload_n 1, 1) := by decide +kernel
theorem dX1_save_10 : decode cX1_save 10 = .ok (.invokevirtual 22, 3) := by decide +kernel
theorem dX1_save_13 : decode cX1_save 13 = .ok (.aload_n 0, 1) := by decide +kernel
theorem dX1_save_14 : decode cX1_save 14 = .ok (.aload_n 0, 1) := by decide +kernel
theorem dX1_save_15 : decode cX1_save 15 = .ok (.getfield 18, 3) := by decide +kernel
theorem dX1_save_18 : decode cX1_save 18 = .ok (.iconst 1, 1) := by decide +kernel
theorem dX1_save_19 : decode cX1_save 19 = .ok (.iadd, 1) := by decide +kernel
theorem dX1_save_20 : decode cX1_save 20 = .ok (.bipush 6, 2) := by decide +kernel
theorem dX1_save_22 : decode cX1_save 22 = .ok (.irem, 1) := by decide +kernel
theorem dX1_save_23 : decode cX1_save 23 = .ok (.putfield 18, 3) := by decide +kernel
theorem dX1_save_26 : decode cX1_save 26 = .ok (.aload_n 0, 1) := by decide +kernel
theorem dX1_save_27 : decode cX1_save 27 = .ok (.aload_n 0, 1) := by decide +kernel
theorem dX1_save_28 : decode cX1_save 28 = .ok (.getfield 26, 3) := by decide +kernel
theorem dX1_save_31 : decode cX1_save 31 = .ok (.iconst 1, 1) := by decide +kernel
theorem dX1_save_32 : decode cX1_save 32 = .ok (.iadd, 1) := by decide +kernel
theorem dX1_save_33 : decode cX1_save 33 = .ok (.bipush 6, 2) := by decide +kernel
theorem dX1_save_35 : decode cX1_save 35 = .ok (.invokestatic 29, 3) := by decide +kernel
theorem dX1_save_38 : decode cX1_save 38 = .ok (.putfield 26, 3) := by decide +kernel
theorem dX1_save_41 : decode cX1_save 41 = .ok (.return_, 1) := by decide +kernel
theorem dX1_restoreTo_0 : decode cX1_restoreTo 0 = .ok (.aload_n 0, 1) := by decide +kernel
theorem dX1_restoreTo_1 : decode cX1_restoreTo 1 = .ok (.aload_n 0, 1) := by decide +kernel
theorem dX1_restoreTo_2 : decode cX1_restoreTo 2 = .ok (.getfield 18, 3) := by decide +kernel
theorem dX1_restoreTo_5 : decode cX1_restoreTo 5 = .ok (.bipush 6, 2) := by decide +kernel
theorem dX1_restoreTo_7 : decode cX1_restoreTo 7 = .ok (.iadd, 1) := by decide +kernel
theorem dX1_restoreTo_8 : decode cX1_restoreTo 8 = .ok (.iconst 1, 1) := by decide +kernel
theorem dX1_restoreTo_9 : decode cX1_restoreTo 9 = .ok (.isub, 1) := by decide +kernel
theorem dX1_restoreTo_10 : decode cX1_restoreTo 10 = .ok (.bipush 6, 2) := by decide +kernel
theorem dX1_restoreTo_12 : decode cX1_restoreTo 12 = .ok (.irem, 1) := by decide +kernel
theorem dX1_restoreTo_13 : decode cX1_restoreTo 13 = .ok (.putfield 18, 3) := by decide +kernel
theorem dX1_restoreTo_16 : decode cX1_restoreTo 16 = .ok (.aload_n 1, 1) := by decide +kernel
theorem dX1_restoreTo_17 : decode cX1_restoreTo 17 = .ok (.aload_n 0, 1) := by decide +kernel
theorem dX1_restoreTo_18 : decode cX1_restoreTo 18 = .ok (.getfield 11, 3) := by decide +kernel
theorem dX1_restoreTo_21 : decode cX1_restoreTo 21 = .ok (.aload_n 0, 1) := by decide +kernel
theorem dX1_restoreTo_22 : decode cX1_restoreTo 22 = .ok (.getfield 18, 3) := by decide +kernel
theorem dX1_restoreTo_25 : decode cX1_restoreTo 25 = .ok (.aaload, 1) := by decide +kernel
theorem dX1_restoreTo_26 : decode cX1_restoreTo 26 = .ok (.invokevirtual 22, 3) := by decide +kernel
theorem dX1_restoreTo_29 : decode cX1_restoreTo 29 = .ok (.aload_n 0, 1) := by decide +kernel
theorem dX1_restoreTo_30 : decode cX1_restoreTo 30 = .ok (.dup, 1) := by decide +kernel
theorem dX1_restoreTo_31 : decode cX1_restoreTo 31 = .ok (.getfield 26, 3) := by decide +kernel
theorem dX1_restoreTo_34 : decode cX1_restoreTo 34 = .ok (.iconst 1, 1) := by decide +kernel
theorem dX1_restoreTo_35 : decode cX1_restoreTo 35 = .ok (.isub, 1) := by decide +kernel
theorem dX1_restoreTo_36 : decode cX1_restoreTo 36 = .ok (.putfield 26, 3) := by decide +kernel
theorem dX1_restoreTo_39 : decode cX1_restoreTo 39 = .ok (.return_, 1) := by decide +kernel
theorem dX2_init_0 : decode cX2_init 0 = .ok (.aload_n 0, 1) := by decide +kernel
theorem dX2_init_1 : decode cX2_init 1 = .ok (.invokespecial 3, 3) := by decide +kernel
theorem dX2_init_4 : decode cX2_init 4 = .ok (.aload_n 0, 1) := by decide +kernel
theorem dX2_init_5 : decode cX2_init 5 = .ok (.bipush 10, 2) := by decide +kernel
theorem dX2_init_7 : decode cX2_init 7 = .ok (.anewarray 9, 3) := by decide +kernel
theorem dX2_init_10 : decode cX2_init 10 = .ok (.putfield 11, 3) := by decide +kernel
theorem dX2_init_13 : decode cX2_init 13 = .ok (.aload_n 0, 1) := by decide +kernel
theorem dX2_init_14 : decode cX2_init 14 = .ok (.iconst 4, 1) := by decide +kernel
theorem dX2_init_15 : decode cX2_init 15 = .ok (.anewarray 17, 3) := by decide +kernel
theorem dX2_init_18 : decode cX2_init 18 = .ok (.putfield 19, 3) := by decide +kernel
theorem dX2_init_21 : decode cX2_init 21 = .ok (.aload_n 0, 1) := by decide +kernel
theorem dX2_init_22 : decode cX2_init 22 = .ok (.bipush 12, 2) := by decide +kernel
theorem dX2_init_24 : decode cX2_init 24 = .ok (.newarray .boolean, 2) := by decide +kernel
theorem dX2_init_26 : decode cX2_init 26 = .ok (.putfield 23, 3) := by decide +kernel
theorem dX2_init_29 : decode cX2_init 29 = .ok (.aload_n 0, 1) := by decide +kernel
theorem dX2_init_30 : decode cX2_init 30 = .ok (.getstatic 27, 3) := by decide +kernel
theorem dX2_init_33 : decode cX2_init 33 = .ok (.invokevirtual 31, 3) := by decide +kernel
theorem dX2_init_36 : decode cX2_init 36 = .ok (.checkcast 32, 3) := by decide +kernel
theorem dX2_init_39 : decode cX2_init 39 = .ok (.putfield 36, 3) := by decide +kernel
theorem dX2_init_42 : decode cX2_init 42 = .ok (.iconst 0, 1) := by decide +kernel
theorem dX2_init_43 : decode cX2_init 43 = .ok (.istore_n 1, 1) := by decide +kernel
theorem dX2_init_44 : decode cX2_init 44 = .ok (.iload_n 1, 1) := by decide +kernel
theorem dX2_init_45 : decode cX2_init 45 = .ok (.bipush 10, 2) := by decide +kernel
theorem dX2_init_47 : decode cX2_init 47 = .ok (.if_icmp .ge 22, 3) := by decide +kernel
theorem dX2_init_50 : decode cX2_init 50 = .ok (.aload_n 0, 1) := by decide +kernel
theorem dX2_init_51 : decode cX2_init 51 = .ok (.getfield 11, 3) := by decide +kernel
theorem dX2_init_54 : decode cX2_init 54 = .ok (.iload_n 1, 1) := by decide +kernel
theorem dX2_init_55 : decode cX2_init 55 = .ok (.new 9, 3) := by decide +kernel
theorem dX2_init_58 : decode cX2_init 58 = .ok (.dup, 1) := by decide +kernel
theorem dX2_init_59 : decode cX2_init 59 = .ok (.invokespecial 39, 3) := by decide +kernel
theorem dX2_init_62 : decode cX2_init 62 = .ok (.aastore, 1) := by decide +kernel
theorem dX2_init_63 : decode cX2_init 63 = .ok (.iinc 1 1, 3) := by decide +kernel
theorem dX2_init_66 : decode cX2_init 66 = .ok (.goto (-22), 3) := by decide +kernel
theorem dX2_init_69 : decode cX2_init 69 = .ok (.iconst 0, 1) := by decide +kernel
theorem dX2_init_70 : decode cX2_init 70 = .ok (.istore_n 1, 1) := by decide +kernel
theorem dX2_init_71 : decode cX2_init 71 = .ok (.iload_n 1, 1) := by decide +kernel
theorem dX2_init_72 : decode cX2_init 72 = .ok (.iconst 4, 1) := by decide +kernel
theorem dX2_init_73 : decode cX2_init 73 = .ok (.if_icmp .ge 22, 3) := by decide +kernel
theorem dX2_init_76 : decode cX2_init 76 = .ok (.aload_n 0, 1) := by decide +kernel
theorem dX2_init_77 : decode cX2_init 77 = .ok (.getfield 19, 3) := by decide +kernel
theorem dX2_init_80 : decode cX2_init 80 = .ok (.iload_n 1, 1) := by decide +kernel
theorem dX2_init_81 : decode cX2_init 81 = .ok (.new 17, 3) := by decide +kernel
theorem dX2_init_84 : decode cX2_init 84 = .ok (.dup, 1) := by decide +kernel
theorem dX2_init_85 : decode cX2_init 85 = .ok (.invokespecial 40, 3) := by decide +kernel
theorem dX2_init_88 : decode cX2_init 88 = .ok (.aastore, 1) := by decide +kernel
theorem dX2_init_89 : decode cX2_init 89 = .ok (.iinc 1 1, 3) := by decide +kernel
theorem dX2_init_92 : decode cX2_init 92 = .ok (.goto (-21), 3) := by decide +kernel
theorem dX2_init_95 : decode cX2_init 95 = .ok (.return_, 1) := by decide +kernel
theorem dX2_copyFrom_0 : decode cX2_copyFrom 0 = .ok (.aload_n 0, 1) := by decide +kernel
theorem dX2_copyFrom_1 : decode cX2_copyFrom 1 = .ok (.aload_n 1, 1) := by decide +kernel
theorem dX2_copyFrom_2 : decode cX2_copyFrom 2 = .ok (.getfield 41, 3) := by decide +kernel
theorem dX2_copyFrom_5 : decode cX2_copyFrom 5 = .ok (.putfield 41, 3) := by decide +kernel
theorem dX2_copyFrom_8 : decode cX2_copyFrom 8 = .ok (.iconst 0, 1) := by decide +kernel
theorem dX2_copyFrom_9 : decode cX2_copyFrom 9 = .ok (.istore_n 2, 1) := by decide +kernel
theorem dX2_copyFrom_10 : decode cX2_copyFrom 10 = .ok (.iload_n 2, 1) := by decide +kernel
theorem dX2_copyFrom_11 : decode cX2_copyFrom 11 = .ok (.aload_n 0, 1) := by decide +kernel
theorem dX2_copyFrom_12 : decode cX2_copyFrom 12 = .ok (.getfield 41, 3) := by decide +kernel
theorem dX2_copyFrom_15 : decode cX2_copyFrom 15 = .ok (.if_icmp .ge 24, 3) := by decide +kernel
theorem dX2_copyFrom_18 : decode cX2_copyFrom 18 = .ok (.aload_n 0, 1) := by decide +kernel
theorem dX2_copyFrom_19 : decode cX2_copyFrom 19 = .ok (.getfield 11, 3) := by decide +kernel
theorem dX2_copyFrom_22 : decode cX2_copyFrom 22 = .ok (.iload_n 2, 1) := by decide +kernel
theorem dX2_copyFrom_23 : decode cX2_copyFrom 23 = .ok (.aaload, 1) := by decide +kernel
theorem dX2_copyFrom_24 : decode cX2_copyFrom 24 = .ok (.aload_n 1, 1) := by decide +kernel
theorem dX2_copyFrom_25 : decode cX2_copyFrom 25 = .ok (.getfield 11, 3) := by decide +kernel
theorem dX2_copyFrom_28 : decode cX2_copyFrom 28 = .ok (.iload_n 2, 1) := by decide +kernel
theorem dX2_copyFrom_29 : decode cX2_copyFrom 29 = .ok (.aaload, 1) := by decide +kernel
theorem dX2_copyFrom_30 : decode cX2_copyFrom 30 = .ok (.invokevirtual 45, 3) := by decide +kernel
theorem dX2_copyFrom_33 : decode cX2_copyFrom 33 = .ok (.iinc 2 1, 3) := by decide +kernel
theorem dX2_copyFrom_36 : decode cX2_copyFrom 36 = .ok (.goto (-26), 3) := by decide +kernel
theorem dX2_copyFrom_39 : decode cX2_copyFrom 39 = .ok (.iconst 0, 1) := by decide +kernel
theorem dX2_copyFrom_40 : decode cX2_copyFrom 40 = .ok (.istore_n 2, 1) := by decide +kernel
theorem dX2_copyFrom_41 : decode cX2_copyFrom 41 = .ok (.iload_n 2, 1) := by decide +kernel
theorem dX2_copyFrom_42 : decode cX2_copyFrom 42 = .ok (.iconst 4, 1) := by decide +kernel
theorem dX2_copyFrom_43 : decode cX2_copyFrom 43 = .ok (.if_icmp .ge 24, 3) := by decide +kernel
theorem dX2_copyFrom_46 : decode cX2_copyFrom 46 = .ok (.aload_n 0, 1) := by decide +kernel
theorem dX2_copyFrom_47 : decode cX2_copyFrom 47 = .ok (.getfield 19, 3) := by decide +kernel
theorem dX2_copyFrom_50 : decode cX2_copyFrom 50 = .ok (.iload_n 2, 1) := by decide +kernel
theorem dX2_copyFrom_51 : decode cX2_copyFrom 51 = .ok (.aaload, 1) := by decide +kernel
theorem dX2_copyFrom_52 : decode cX2_copyFrom 52 = .ok (.aload_n 1, 1) := by decide +kernel
theorem dX2_copyFrom_53 : decode cX2_copyFrom 53 = .ok (.getfield 19, 3) := by decide +kernel
theorem dX2_copyFrom_56 : decode cX2_copyFrom 56 = .ok (.iload_n 2, 1) := by decide +kernel
theorem dX2_copyFrom_57 : decode cX2_copyFrom 57 = .ok (.aaload, 1) := by decide +kernel
theorem dX2_copyFrom_58 : decode cX2_copyFrom 58 = .ok (.invokevirtual 49, 3) := by decide +kernel
theorem dX2_copyFrom_61 : decode cX2_copyFrom 61 = .ok (.iinc 2 1, 3) := by decide +kernel
theorem dX2_copyFrom_64 : decode cX2_copyFrom 64 = .ok (.goto (-23), 3) := by decide +kernel
theorem dX2_copyFrom_67 : decode cX2_copyFrom 67 = .ok (.aload_n 1, 1) := by decide +kernel
theorem dX2_copyFrom_68 : decode cX2_copyFrom 68 = .ok (.getfield 23, 3) := by decide +kernel
theorem dX2_copyFrom_71 : decode cX2_copyFrom 71 = .ok (.iconst 0, 1) := by decide +kernel
theorem dX2_copyFrom_72 : decode cX2_copyFrom 72 = .ok (.aload_n 0, 1) := by decide +kernel
theorem dX2_copyFrom_73 : decode cX2_copyFrom 73 = .ok (.getfield 23, 3) := by decide +kernel
theorem dX2_copyFrom_76 : decode cX2_copyFrom 76 = .ok (.iconst 0, 1) := by decide +kernel
theorem dX2_copyFrom_77 : decode cX2_copyFrom 77 = .ok (.bipush 12, 2) := by decide +kernel
theorem dX2_copyFrom_79 : decode cX2_copyFrom 79 = .ok (.invokestatic 52, 3) := by decide +kernel
theorem dX2_copyFrom_82 : decode cX2_copyFrom 82 = .ok (.aload_n 1, 1) := by decide +kernel
theorem dX2_copyFrom_83 : decode cX2_copyFrom 83 = .ok (.getfield 36, 3) := by decide +kernel
theorem dX2_copyFrom_86 : decode cX2_copyFrom 86 = .ok (.iconst 0, 1) := by decide +kernel
theorem dX2_copyFrom_87 : decode cX2_copyFrom 87 = .ok (.aload_n 0, 1) := by decide +kernel
theorem dX2_copyFrom_88 : decode cX2_copyFrom 88 = .ok (.getfield 36, 3) := by decide +kernel
theorem dX2_copyFrom_91 : decode cX2_copyFrom 91 = .ok (.iconst 0, 1) := by decide +kernel
theorem dX2_copyFrom_92 : decode cX2_copyFrom 92 = .ok (.iconst 3, 1) := by decide +kernel
theorem dX2_copyFrom_93 : decode cX2_copyFrom 93 = .ok (.invokestatic 52, 3) := by decide +kernel
theorem dX2_copyFrom_96 : decode cX2_copyFrom 96 = .ok (.aload_n 0, 1) := by decide +kernel
theorem dX2_copyFrom_97 : decode cX2_copyFrom 97 = .ok (.aload_n 1, 1) := by decide +kernel
theorem dX2_copyFrom_98 : decode cX2_copyFrom 98 = .ok (.getfield 58, 3) := by decide +kernel
theorem dX2_copyFrom_101 : decode cX2_copyFrom 101 = .ok (.putfield 58, 3) := by decide +kernel
theorem dX2_copyFrom_104 : decode cX2_copyFrom 104 = .ok (.aload_n 0, 1) := by decide +kernel
theorem dX2_copyFrom_105 : decode cX2_copyFrom 105 = .ok (.aload_n 1, 1) := by decide +kernel
theorem dX2_copyFrom_106 : decode cX2_copyFrom 106 = .ok (.getfield 61, 3) := by decide +kernel
theorem dX2_copyFrom_109 : decode cX2_copyFrom 109 = .ok (.putfield 61, 3) := by decide +kernel
theorem dX2_copyFrom_112 : decode cX2_copyFrom 112 = .ok (.aload_n 0, 1) := by decide +kernel
theorem dX2_copyFrom_113 : decode cX2_copyFrom 113 = .ok (.aload_n 1, 1) := by decide +kernel
theorem dX2_copyFrom_114 : decode cX2_copyFrom 114 = .ok (.getfield 64, 3) := by decide +kernel
theorem dX2_copyFrom_117 : decode cX2_copyFrom 117 = .ok (.putfield 64, 3) := by decide +kernel
theorem dX2_copyFrom_120 : decode cX2_copyFrom 120 = .ok (.return_, 1) := by decide +kernel
theorem dX2_isFull_0 : decode cX2_isFull 0 = .ok (.aload_n 0, 1) := by decide +kernel
theorem dX2_isFull_1 : decode cX2_isFull 1 = .ok (.getfield 41, 3) := by decide +kernel
theorem dX2_isFull_4 : decode cX2_isFull 4 = .ok (.bipush 10, 2) := by decide +kernel
theorem dX2_isFull_6 : decode cX2_isFull 6 = .ok (.if_icmp .lt 7, 3) := by decide +kernel
theorem dX2_isFull_9 : decode cX2_isFull 9 = .ok (.iconst 1, 1) := by decide +kernel
theorem dX2_isFull_10 : decode cX2_isFull 10 = .ok (.goto 4, 3) := by decide +kernel
theorem dX2_isFull_13 : decode cX2_isFull 13 = .ok (.iconst 0, 1) := by decide +kernel
theorem dX2_isFull_14 : decode cX2_isFull 14 = .ok (.ireturn, 1) := by decide +kernel
theorem dX2_add_0 : decode cX2_add 0 = .ok (.aload_n 0, 1) := by decide +kernel
theorem dX2_add_1 : decode cX2_add 1 = .ok (.getfield 41, 3) := by decide +kernel
theorem dX2_add_4 : decode cX2_add 4 = .ok (.istore 5, 2) := by decide +kernel
theorem dX2_add_6 : decode cX2_add 6 = .ok (.aload_n 0, 1) := by decide +kernel
theorem dX2_add_7 : decode cX2_add 7 = .ok (.getfield 11, 3) := by decide +kernel
theorem dX2_add_10 : decode cX2_add 10 = .ok (.iload 5, 2) := by decide +kernel
theorem dX2_add_12 : decode cX2_add 12 = .ok (.aaload, 1) := by decide +kernel
theorem dX2_add_13 : decode cX2_add 13 = .ok (.iload_n 1, 1) := by decide +kernel
theorem dX2_add_14 : decode cX2_add 14 = .ok (.iload_n 2, 1) := by decide +kernel
theorem dX2_add_15 : decode cX2_add 15 = .ok (.iload_n 3, 1) := by decide +kernel
theorem dX2_add_16 : decode cX2_add 16 = .ok (.iload 4, 2) := by decide +kernel
theorem dX2_add_18 : decode cX2_add 18 = .ok (.invokevirtual 67, 3) := by decide +kernel
theorem dX2_add_21 : decode cX2_add 21 = .ok (.aload_n 0, 1) := by decide +kernel
theorem dX2_add_22 : decode cX2_add 22 = .ok (.dup, 1) := by decide +kernel
theorem dX2_add_23 : decode cX2_add 23 = .ok (.getfield 41, 3) := by decide +kernel
theorem dX2_add_26 : decode cX2_add 26 = .ok (.iconst 1, 1) := by decide +kernel
theorem dX2_add_27 : decode cX2_add 27 = .ok (.iadd, 1) := by decide +kernel
theorem dX2_add_28 : decode cX2_add 28 = .ok (.putfield 41, 3) := by decide +kernel
theorem dX2_add_31 : decode cX2_add 31 = .ok (.iload 5, 2) := by decide +kernel
theorem dX2_add_33 : decode cX2_add 33 = .ok (.ireturn, 1) := by decide +kernel
theorem dX2_move_0 : decode cX2_move 0 = .ok (.aload_n 0, 1) := by decide +kernel
theorem dX2_move_1 : decode cX2_move 1 = .ok (.getfield 11, 3) := by decide +kernel
theorem dX2_move_4 : decode cX2_move 4 = .ok (.iload_n 1, 1) := by decide +kernel
theorem dX2_move_5 : decode cX2_move 5 = .ok (.aaload, 1) := by decide +kernel
theorem dX2_move_6 : decode cX2_move 6 = .ok (.getfield 71, 3) := by decide +kernel
theorem dX2_move_9 : decode cX2_move 9 = .ok (.istore_n 3, 1) := by decide +kernel
theorem dX2_move_10 : decode cX2_move 10 = .ok (.aload_n 0, 1) := by decide +kernel
theorem dX2_move_11 : decode cX2_move 11 = .ok (.getfield 11, 3) := by decide +kernel
theorem dX2_move_14 : decode cX2_move 14 = .ok (.iload_n 1, 1) := by decide +kernel
theorem dX2_move_15 : decode cX2_move 15 = .ok (.aaload, 1) := by decide +kernel
theorem dX2_move_16 : decode cX2_move 16 = .ok (.iload_n 2, 1) := by decide +kernel
theorem dX2_move_17 : decode cX2_move 17 = .ok (.putfield 71, 3) := by decide +kernel
theorem dX2_move_20 : decode cX2_move 20 = .ok (.iload_n 3, 1) := by decide +kernel
theorem dX2_move_21 : decode cX2_move 21 = .ok (.ireturn, 1) := by decide +kernel
theorem dX2_hasRoomFor_0 : decode cX2_hasRoomFor 0 = .ok (.aload_n 0, 1) := by decide +kernel
theorem dX2_hasRoomFor_1 : decode cX2_hasRoomFor 1 = .ok (.getfield 58, 3) := by decide +kernel
theorem dX2_hasRoomFor_4 : decode cX2_hasRoomFor 4 = .ok (.iload_n 1, 1) := by decide +kernel
theorem dX2_hasRoomFor_5 : decode cX2_hasRoomFor 5 = .ok (.iadd, 1) := by decide +kernel
theorem dX2_hasRoomFor_6 : decode cX2_hasRoomFor 6 = .ok (.sipush 9999, 3) := by decide +kernel
theorem dX2_hasRoomFor_9 : decode cX2_hasRoomFor 9 = .ok (.if_icmp .gt 7, 3) := by decide +kernel
theorem dX2_hasRoomFor_12 : decode cX2_hasRoomFor 12 = .ok (.iconst 1, 1) := by decide +kernel
theorem dX2_hasRoomFor_13 : decode cX2_hasRoomFor 13 = .ok (.goto 4, 3) := by decide +kernel
theorem dX2_hasRoomFor_16 : decode cX2_hasRoomFor 16 = .ok (.iconst 0, 1) := by decide +kernel
theorem dX2_hasRoomFor_17 : decode cX2_hasRoomFor 17 = .ok (.ireturn, 1) := by decide +kernel
theorem dX2_goHours_0 : decode cX2_goHours 0 = .ok (.iconst 0, 1) := by decide +kernel
theorem dX2_goHours_1 : decode cX2_goHours 1 = .ok (.istore_n 2, 1) := by decide +kernel
theorem dX2_goHours_2 : decode cX2_goHours 2 = .ok (.iload_n 2, 1) := by decide +kernel
theorem dX2_goHours_3 : decode cX2_goHours 3 = .ok (.iload_n 1, 1) := by decide +kernel
theorem dX2_goHours_4 : decode cX2_goHours 4 = .ok (.if_icmp .ge 13, 3) := by decide +kernel
theorem dX2_goHours_7 : decode cX2_goHours 7 = .ok (.aload_n 0, 1) := by decide +kernel
theorem dX2_goHours_8 : decode cX2_goHours 8 = .ok (.invokevirtual 74, 3) := by decide +kernel
theorem dX2_goHours_11 : decode cX2_goHours 11 = .ok (.iinc 2 1, 3) := by decide +kernel
theorem dX2_goHours_14 : decode cX2_goHours 14 = .ok (.goto (-12), 3) := by decide +kernel
theorem dX2_goHours_17 : decode cX2_goHours 17 = .ok (.return_, 1) := by decide +kernel
theorem dX2_goOneHour_0 : decode cX2_goOneHour 0 = .ok (.aload_n 0, 1) := by decide +kernel
theorem dX2_goOneHour_1 : decode cX2_goOneHour 1 = .ok (.invokevirtual 77, 3) := by decide +kernel
theorem dX2_goOneHour_4 : decode cX2_goOneHour 4 = .ok (.aload_n 0, 1) := by decide +kernel
theorem dX2_goOneHour_5 : decode cX2_goOneHour 5 = .ok (.getfield 36, 3) := by decide +kernel
theorem dX2_goOneHour_8 : decode cX2_goOneHour 8 = .ok (.iconst 1, 1) := by decide +kernel
theorem dX2_goOneHour_9 : decode cX2_goOneHour 9 = .ok (.iaload, 1) := by decide +kernel
theorem dX2_goOneHour_10 : decode cX2_goOneHour 10 = .ok (.iconst 1, 1) := by decide +kernel
theorem dX2_goOneHour_11 : decode cX2_goOneHour 11 = .ok (.if_icmp .ne 21, 3) := by decide +kernel
theorem dX2_goOneHour_14 : decode cX2_goOneHour 14 = .ok (.iconst 0, 1) := by decide +kernel
theorem dX2_goOneHour_15 : decode cX2_goOneHour 15 = .ok (.istore_n 1, 1) := by decide +kernel
theorem dX2_goOneHour_16 : decode cX2_goOneHour 16 = .ok (.iload_n 1, 1) := by decide +kernel
theorem dX2_goOneHour_17 : decode cX2_goOneHour 17 = .ok (.iconst 4, 1) := by decide +kernel
theorem dX2_goOneHour_18 : decode cX2_goOneHour 18 = .ok (.if_icmp .ge 14, 3) := by decide +kernel
theorem dX2_goOneHour_21 : decode cX2_goOneHour 21 = .ok (.aload_n 0, 1) := by decide +kernel
theorem dX2_goOneHour_22 : decode cX2_goOneHour 22 = .ok (.iload_n 1, 1) := by decide +kernel
theorem dX2_goOneHour_23 : decode cX2_goOneHour 23 = .ok (.invokevirtual 80, 3) := by decide +kernel
theorem dX2_goOneHour_26 : decode cX2_goOneHour 26 = .ok (.iinc 1 1, 3) := by decide +kernel
theorem dX2_goOneHour_29 : decode cX2_goOneHour 29 = .ok (.goto (-13), 3) := by decide +kernel
theorem dX2_goOneHour_32 : decode cX2_goOneHour 32 = .ok (.iconst 0, 1) := by decide +kernel
theorem dX2_goOneHour_33 : decode cX2_goOneHour 33 = .ok (.istore_n 1, 1) := by decide +kernel
theorem dX2_goOneHour_34 : decode cX2_goOneHour 34 = .ok (.iload_n 1, 1) := by decide +kernel
theorem dX2_goOneHour_35 : decode cX2_goOneHour 35 = .ok (.iconst 4, 1) := by decide +kernel
theorem dX2_goOneHour_36 : decode cX2_goOneHour 36 = .ok (.if_icmp .ge 24, 3) := by decide +kernel
theorem dX2_goOneHour_39 : decode cX2_goOneHour 39 = .ok (.aload_n 0, 1) := by decide +kernel
theorem dX2_goOneHour_40 : decode cX2_goOneHour 40 = .ok (.getfield 19, 3) := by decide +kernel
theorem dX2_goOneHour_43 : decode cX2_goOneHour 43 = .ok (.iload_n 1, 1) := by decide +kernel
theorem dX2_goOneHour_44 : decode cX2_goOneHour 44 = .ok (.aaload, 1) := by decide +kernel
theorem dX2_goOneHour_45 : decode cX2_goOneHour 45 = .ok (.aload_n 0, 1) := by decide +kernel
theorem dX2_goOneHour_46 : decode cX2_goOneHour 46 = .ok (.getfield 36, 3) := by decide +kernel
theorem dX2_goOneHour_49 : decode cX2_goOneHour 49 = .ok (.iconst 0, 1) := by decide +kernel
theorem dX2_goOneHour_50 : decode cX2_goOneHour 50 = .ok (.iaload, 1) := by decide +kernel
theorem dX2_goOneHour_51 : decode cX2_goOneHour 51 = .ok (.invokevirtual 84, 3) := by decide +kernel
theorem dX2_goOneHour_54 : decode cX2_goOneHour 54 = .ok (.iinc 1 1, 3) := by decide +kernel
theorem dX2_goOneHour_57 : decode cX2_goOneHour 57 = .ok (.goto (-23), 3) := by decide +kernel
theorem dX2_goOneHour_60 : decode cX2_goOneHour 60 = .ok (.aload_n 0, 1) := by decide +kernel
theorem dX2_goOneHour_61 : decode cX2_goOneHour 61 = .ok (.invokevirtual 87, 3) := by decide +kernel
theorem dX2_goOneHour_64 : decode cX2_goOneHour 64 = .ok (.iconst 0, 1) := by decide +kernel
theorem dX2_goOneHour_65 : decode cX2_goOneHour 65 = .ok (.istore_n 1, 1) := by decide +kernel
theorem dX2_goOneHour_66 : decode cX2_goOneHour 66 = .ok (.iload_n 1, 1) := by decide +kernel
theorem dX2_goOneHour_67 : decode cX2_goOneHour 67 = .ok (.iconst 4, 1) := by decide +kernel
theorem dX2_goOneHour_68 : decode cX2_goOneHour 68 = .ok (.if_icmp .ge 18, 3) := by decide +kernel
theorem dX2_goOneHour_71 : decode cX2_goOneHour 71 = .ok (.aload_n 0, 1) := by decide +kernel
theorem dX2_goOneHour_72 : decode cX2_goOneHour 72 = .ok (.getfield 19, 3) := by decide +kernel
theorem dX2_goOneHour_75 : decode cX2_goOneHour 75 = .ok (.iload_n 1, 1) := by decide +kernel
theorem dX2_goOneHour_76 : decode cX2_goOneHour 76 = .ok (.aaload, 1) := by decide +kernel
theorem dX2_goOneHour_77 : decode cX2_goOneHour 77 = .ok (.invokevirtual 90, 3) := by decide +kernel
theorem dX2_goOneHour_80 : decode cX2_goOneHour 80 = .ok (.iinc 1 1, 3) := by decide +kernel
theorem dX2_goOneHour_83 : decode cX2_goOneHour 83 = .ok (.goto (-17), 3) := by decide +kernel
theorem dX2_goOneHour_86 : decode cX2_goOneHour 86 = .ok (.aload_n 0, 1) := by decide +kernel
theorem dX2_goOneHour_87 : decode cX2_goOneHour 87 = .ok (.dup, 1) := by decide +kernel
theorem dX2_goOneHour_88 : decode cX2_goOneHour 88 = .ok (.getfield 58, 3) := by decide +kernel
theorem dX2_goOneHour_91 : decode cX2_goOneHour 91 = .ok (.iconst 1, 1) := by decide +kernel
theorem dX2_goOneHour_92 : decode cX2_goOneHour 92 = .ok (.iadd, 1) := by decide +kernel
theorem dX2_goOneHour_93 : decode cX2_goOneHour 93 = .ok (.putfield 58, 3) := by decide +kernel
theorem dX2_goOneHour_96 : decode cX2_goOneHour 96 = .ok (.return_, 1) := by decide +kernel
theorem dX2_findSources_0 : decode cX2_findSources 0 = .ok (.iconst 0, 1) := by decide +kernel
theorem dX2_findSources_1 : decode cX2_findSources 1 = .ok (.istore_n 1, 1) := by decide +kernel
theorem dX2_findSources_2 : decode cX2_findSources 2 = .ok (.iload_n 1, 1) := by decide +kernel
theorem dX2_findSources_3 : decode cX2_findSources 3 = .ok (.iconst 4, 1) := by decide +kernel
theorem dX2_findSources_4 : decode cX2_findSources 4 = .ok (.if_icmp .ge 19, 3) := by decide +kernel
theorem dX2_findSources_7 : decode cX2_findSources 7 = .ok (.aload_n 0, 1) := by decide +kernel
theorem dX2_findSources_8 : decode cX2_findSources 8 = .ok (.getfield 19, 3) := by decide +kernel
theorem dX2_findSources_11 : decode cX2_findSources 11 = .ok (.iload_n 1, 1) := by decide +kernel
theorem dX2_findSources_12 : decode cX2_findSources 12 = .ok (.aaload, 1) := by decide +kernel
theorem dX2_findSources_13 : decode cX2_findSources 13 = .ok (.iconst 0, 1) := by decide +kernel
theorem dX2_findSources_14 : decode cX2_findSources 14 = .ok (.putfield 93, 3) := by decide +kernel
theorem dX2_findSources_17 : decode cX2_findSources 17 = .ok (.iinc 1 1, 3) := by decide +kernel
theorem dX2_findSources_20 : decode cX2_findSources 20 = .ok (.goto (-18), 3) := by decide +kernel
theorem dX2_findSources_23 : decode cX2_findSources 23 = .ok (.iconst 0, 1) := by decide +kernel
theorem dX2_findSources_24 : decode cX2_findSources 24 = .ok (.istore_n 1, 1) := by decide +kernel
theorem dX2_findSources_25 : decode cX2_findSources 25 = .ok (.iload_n 1, 1) := by decide +kernel
theorem dX2_findSources_26 : decode cX2_findSources 26 = .ok (.aload_n 0, 1) := by decide +kernel
theorem dX2_findSources_27 : decode cX2_findSources 27 = .ok (.getfield 41, 3) := by decide +kernel
theorem dX2_findSources_30 : decode cX2_findSources 30 = .ok (.if_icmp .ge 54, 3) := by decide +kernel
theorem dX2_findSources_33 : decode cX2_findSources 33 = .ok (.aload_n 0, 1) := by decide +kernel
theorem dX2_findSources_34 : decode cX2_findSources 34 = .ok (.getfield 11, 3) := by decide +kernel
theorem dX2_findSources_37 : decode cX2_findSources 37 = .ok (.iload_n 1, 1) := by decide +kernel
theorem dX2_findSources_38 : decode cX2_findSources 38 = .ok (.aaload, 1) := by decide +kernel
theorem dX2_findSources_39 : decode cX2_findSources 39 = .ok (.astore_n 2, 1) := by decide +kernel
theorem dX2_findSources_40 : decode cX2_findSources 40 = .ok (.aload_n 2, 1) := by decide +kernel
theorem dX2_findSources_41 : decode cX2_findSources 41 = .ok (.aload_n 0, 1) := by decide +kernel
theorem dX2_findSources_42 : decode cX2_findSources 42 = .ok (.aload_n 2, 1) := by decide +kernel
theorem dX2_findSources_43 : decode cX2_findSources 43 = .ok (.invokevirtual 96, 3) := by decide +kernel
theorem dX2_findSources_46 : decode cX2_findSources 46 = .ok (.putfield 100, 3) := by decide +kernel
theorem dX2_findSources_49 : decode cX2_findSources 49 = .ok (.aload_n 2, 1) := by decide +kernel
theorem dX2_findSources_50 : decode cX2_findSources 50 = .ok (.getfield 100, 3) := by decide +kernel
theorem dX2_findSources_53 : decode cX2_findSources 53 = .ok (.iconst (-1), 1) := by decide +kernel
theorem dX2_findSources_54 : decode cX2_findSources 54 = .ok (.if_icmp .eq 24, 3) := by decide +kernel
theorem dX2_findSources_57 : decode cX2_findSources 57 = .ok (.aload_n 0, 1) := by decide +kernel
theorem dX2_findSources_58 : decode cX2_findSources 58 = .ok (.getfield 19, 3) := by decide +kernel
theorem dX2_findSources_61 : decode cX2_findSources 61 = .ok (.aload_n 2, 1) := by decide +kernel
theorem dX2_findSources_62 : decode cX2_findSources 62 = .ok (.getfield 100, 3) := by decide +kernel
theorem dX2_findSources_65 : decode cX2_findSources 65 = .ok (.aaload, 1) := by decide +kernel
theorem dX2_findSources_66 : decode cX2_findSources 66 = .ok (.dup, 1) := by decide +kernel
theorem dX2_findSources_67 : decode cX2_findSources 67 = .ok (.getfield 93, 3) := by decide +kernel
theorem dX2_findSources_70 : decode cX2_findSources 70 = .ok (.aload_n 2, 1) := by decide +kernel
theorem dX2_findSources_71 : decode cX2_findSources 71 = .ok (.getfield 103, 3) := by decide +kernel
theorem dX2_findSources_74 : decode cX2_findSources 74 = .ok (.iadd, 1) := by decide +kernel
theorem dX2_findSources_75 : decode cX2_findSources 75 = .ok (.putfield 93, 3) := by decide +kernel
theorem dX2_findSources_78 : decode cX2_findSources 78 = .ok (.iinc 1 1, 3) := by decide +kernel
theorem dX2_findSources_81 : decode cX2_findSources 81 = .ok (.goto (-56), 3) := by decide +kernel
theorem dX2_findSources_84 : decode cX2_findSources 84 = .ok (.return_, 1) := by decide +kernel
theorem dX2_shedTooMuch_0 : decode cX2_shedTooMuch 0 = .ok (.iconst 0, 1) := by decide +kernel
theorem dX2_shedTooMuch_1 : decode cX2_shedTooMuch 1 = .ok (.istore_n 2, 1) := by decide +kernel
theorem dX2_shedTooMuch_2 : decode cX2_shedTooMuch 2 = .ok (.iload_n 2, 1) := by decide +kernel
theorem dX2_shedTooMuch_3 : decode cX2_shedTooMuch 3 = .ok (.aload_n 0, 1) := by decide +kernel
theorem dX2_shedTooMuch_4 : decode cX2_shedTooMuch 4 = .ok (.getfield 41, 3) := by decide +kernel
theorem dX2_shedTooMuch_7 : decode cX2_shedTooMuch 7 = .ok (.if_icmp .ge 82, 3) := by decide +kernel
theorem dX2_shedTooMuch_10 : decode cX2_shedTooMuch 10 = .ok (.aload_n 0, 1) := by decide +kernel
theorem dX2_shedTooMuch_11 : decode cX2_shedTooMuch 11 = .ok (.getfield 19, 3) := by decide +kernel
theorem dX2_shedTooMuch_14 : decode cX2_shedTooMuch 14 = .ok (.iload_n 1, 1) := by decide +kernel
theorem dX2_shedTooMuch_15 : decode cX2_shedTooMuch 15 = .ok (.aaload, 1) := by decide +kernel
theorem dX2_shedTooMuch_16 : decode cX2_shedTooMuch 16 = .ok (.invokevirtual 106, 3) := by decide +kernel
theorem dX2_shedTooMuch_19 : decode cX2_shedTooMuch 19 = .ok (.ifCond .eq 70, 3) := by decide +kernel
theorem dX2_shedTooMuch_22 : decode cX2_shedTooMuch 22 = .ok (.aload_n 0, 1) := by decide +kernel
theorem dX2_shedTooMuch_23 : decode cX2_shedTooMuch 23 = .ok (.iload_n 1, 1) := by decide +kernel
theorem dX2_shedTooMuch_24 : decode cX2_shedTooMuch 24 = .ok (.invokevirtual 110, 3) := by decide +kernel
theorem dX2_shedTooMuch_27 : decode cX2_shedTooMuch 27 = .ok (.istore_n 3, 1) := by decide +kernel
theorem dX2_shedTooMuch_28 : decode cX2_shedTooMuch 28 = .ok (.iload_n 3, 1) := by decide +kernel
theorem dX2_shedTooMuch_29 : decode cX2_shedTooMuch 29 = .ok (.iconst (-1), 1) := by decide +kernel
theorem dX2_shedTooMuch_30 : decode cX2_shedTooMuch 30 = .ok (.if_icmp .ne 4, 3) := by decide +kernel
theorem dX2_shedTooMuch_33 : decode cX2_shedTooMuch 33 = .ok (.return_, 1) := by decide +kernel
theorem dX2_shedTooMuch_34 : decode cX2_shedTooMuch 34 = .ok (.aload_n 0, 1) := by decide +kernel
theorem dX2_shedTooMuch_35 : decode cX2_shedTooMuch 35 = .ok (.getfield 11, 3) := by decide +kernel
theorem dX2_shedTooMuch_38 : decode cX2_shedTooMuch 38 = .ok (.iload_n 3, 1) := by decide +kernel
theorem dX2_shedTooMuch_39 : decode cX2_shedTooMuch 39 = .ok (.aaload, 1) := by decide +kernel
theorem dX2_shedTooMuch_40 : decode cX2_shedTooMuch 40 = .ok (.astore 4, 2) := by decide +kernel
theorem dX2_shedTooMuch_42 : decode cX2_shedTooMuch 42 = .ok (.aload 4, 2) := by decide +kernel
theorem dX2_shedTooMuch_44 : decode cX2_shedTooMuch 44 = .ok (.iconst 1, 1) := by decide +kernel
theorem dX2_shedTooMuch_45 : decode cX2_shedTooMuch 45 = .ok (.putfield 114, 3) := by decide +kernel
theorem dX2_shedTooMuch_48 : decode cX2_shedTooMuch 48 = .ok (.aload 4, 2) := by decide +kernel
theorem dX2_shedTooMuch_50 : decode cX2_shedTooMuch 50 = .ok (.iconst (-1), 1) := by decide +kernel
theorem dX2_shedTooMuch_51 : decode cX2_shedTooMuch 51 = .ok (.putfield 100, 3) := by decide +kernel
theorem dX2_shedTooMuch_54 : decode cX2_shedTooMuch 54 = .ok (.aload_n 0, 1) := by decide +kernel
theorem dX2_shedTooMuch_55 : decode cX2_shedTooMuch 55 = .ok (.getfield 19, 3) := by decide +kernel
theorem dX2_shedTooMuch_58 : decode cX2_shedTooMuch 58 = .ok (.iload_n 1, 1) := by decide +kernel
theorem dX2_shedTooMuch_59 : decode cX2_shedTooMuch 59 = .ok (.aaload, 1) := by decide +kernel
theorem dX2_shedTooMuch_60 : decode cX2_shedTooMuch 60 = .ok (.dup, 1) := by decide +kernel
theorem dX2_shedTooMuch_61 : decode cX2_shedTooMuch 61 = .ok (.getfield 93, 3) := by decide +kernel
theorem dX2_shedTooMuch_64 : decode cX2_shedTooMuch 64 = .ok (.aload 4, 2) := by decide +kernel
theorem dX2_shedTooMuch_66 : decode cX2_shedTooMuch 66 = .ok (.getfield 103, 3) := by decide +kernel
theorem dX2_shedTooMuch_69 : decode cX2_shedTooMuch 69 = .ok (.isub, 1) := by decide +kernel
theorem dX2_shedTooMuch_70 : decode cX2_shedTooMuch 70 = .ok (.putfield 93, 3) := by decide +kernel
theorem dX2_shedTooMuch_73 : decode cX2_shedTooMuch 73 = .ok (.aload_n 0, 1) := by decide +kernel
theorem dX2_shedTooMuch_74 : decode cX2_shedTooMuch 74 = .ok (.dup, 1) := by decide +kernel
theorem dX2_shedTooMuch_75 : decode cX2_shedTooMuch 75 = .ok (.getfield 64, 3) := by decide +kernel
theorem dX2_shedTooMuch_78 : decode cX2_shedTooMuch 78 = .ok (.iconst 1, 1) := by decide +kernel
theorem dX2_shedTooMuch_79 : decode cX2_shedTooMuch 79 = .ok (.iadd, 1) := by decide +kernel
theorem dX2_shedTooMuch_80 : decode cX2_shedTooMuch 80 = .ok (.putfield 64, 3) := by decide +kernel
theorem dX2_shedTooMuch_83 : decode cX2_shedTooMuch 83 = .ok (.iinc 2 1, 3) := by decide +kernel
theorem dX2_shedTooMuch_86 : decode cX2_shedTooMuch 86 = .ok (.goto (-84), 3) := by decide +kernel
theorem dX2_shedTooMuch_89 : decode cX2_shedTooMuch 89 = .ok (.return_, 1) := by decide +kernel
theorem dX2_firstToShed_0 : decode cX2_firstToShed 0 = .ok (.iconst (-1), 1) := by decide +kernel
theorem dX2_firstToShed_1 : decode cX2_firstToShed 1 = .ok (.istore_n 2, 1) := by decide +kernel
theorem dX2_firstToShed_2 : decode cX2_firstToShed 2 = .ok (.iconst 0, 1) := by decide +kernel
theorem dX2_firstToShed_3 : decode cX2_firstToShed 3 = .ok (.istore_n 3, 1) := by decide +kernel
theorem dX2_firstToShed_4 : decode cX2_firstToShed 4 = .ok (.iconst 0, 1) := by decide +kernel
theorem dX2_firstToShed_5 : decode cX2_firstToShed 5 = .ok (.istore 4, 2) := by decide +kernel
theorem dX2_firstToShed_7 : decode cX2_firstToShed 7 = .ok (.iconst 0, 1) := by decide +kernel
theorem dX2_firstToShed_8 : decode cX2_firstToShed 8 = .ok (.istore 5, 2) := by decide +kernel
theorem dX2_firstToShed_10 : decode cX2_firstToShed 10 = .ok (.iload 5, 2) := by decide +kernel
theorem dX2_firstToShed_12 : decode cX2_firstToShed 12 = .ok (.aload_n 0, 1) := by decide +kernel
theorem dX2_firstToShed_13 : decode cX2_firstToShed 13 = .ok (.getfield 41, 3) := by decide +kernel
theorem dX2_firstToShed_16 : decode cX2_firstToShed 16 = .ok (.if_icmp .ge 71, 3) := by decide +kernel
theorem dX2_firstToShed_19 : decode cX2_firstToShed 19 = .ok (.aload_n 0, 1) := by decide +kernel
theorem dX2_firstToShed_20 : decode cX2_firstToShed 20 = .ok (.getfield 11, 3) := by decide +kernel
theorem dX2_firstToShed_23 : decode cX2_firstToShed 23 = .ok (.iload 5, 2) := by decide +kernel
theorem dX2_firstToShed_25 : decode cX2_firstToShed 25 = .ok (.aaload, 1) := by decide +kernel
theorem dX2_firstToShed_26 : decode cX2_firstToShed 26 = .ok (.astore 6, 2) := by decide +kernel
theorem dX2_firstToShed_28 : decode cX2_firstToShed 28 = .ok (.aload 6, 2) := by decide +kernel
theorem dX2_firstToShed_30 : decode cX2_firstToShed 30 = .ok (.getfield 100, 3) := by decide +kernel
theorem dX2_firstToShed_33 : decode cX2_firstToShed 33 = .ok (.iload_n 1, 1) := by decide +kernel
theorem dX2_firstToShed_34 : decode cX2_firstToShed 34 = .ok (.if_icmp .ne 47, 3) := by decide +kernel
theorem dX2_firstToShed_37 : decode cX2_firstToShed 37 = .ok (.aload 6, 2) := by decide +kernel
theorem dX2_firstToShed_39 : decode cX2_firstToShed 39 = .ok (.getfield 118, 3) := by decide +kernel
theorem dX2_firstToShed_42 : decode cX2_firstToShed 42 = .ok (.iload_n 3, 1) := by decide +kernel
theorem dX2_firstToShed_43 : decode cX2_firstToShed 43 = .ok (.if_icmp .gt 22, 3) := by decide +kernel
theorem dX2_firstToShed_46 : decode cX2_firstToShed 46 = .ok (.aload 6, 2) := by decide +kernel
theorem dX2_firstToShed_48 : decode cX2_firstToShed 48 = .ok (.getfield 118, 3) := by decide +kernel
theorem dX2_firstToShed_51 : decode cX2_firstToShed 51 = .ok (.iload_n 3, 1) := by decide +kernel
theorem dX2_firstToShed_52 : decode cX2_firstToShed 52 = .ok (.if_icmp .ne 29, 3) := by decide +kernel
theorem dX2_firstToShed_55 : decode cX2_firstToShed 55 = .ok (.aload 6, 2) := by decide +kernel
theorem dX2_firstToShed_57 : decode cX2_firstToShed 57 = .ok (.getfield 103, 3) := by decide +kernel
theorem dX2_firstToShed_60 : decode cX2_firstToShed 60 = .ok (.iload 4, 2) := by decide +kernel
theorem dX2_firstToShed_62 : decode cX2_firstToShed 62 = .ok (.if_icmp .le 19, 3) := by decide +kernel
theorem dX2_firstToShed_65 : decode cX2_firstToShed 65 = .ok (.iload 5, 2) := by decide +kernel
theorem dX2_firstToShed_67 : decode cX2_firstToShed 67 = .ok (.istore_n 2, 1) := by decide +kernel
theorem dX2_firstToShed_68 : decode cX2_firstToShed 68 = .ok (.aload 6, 2) := by decide +kernel
theorem dX2_firstToShed_70 : decode cX2_firstToShed 70 = .ok (.getfield 118, 3) := by decide +kernel
theorem dX2_firstToShed_73 : decode cX2_firstToShed 73 = .ok (.istore_n 3, 1) := by decide +kernel
theorem dX2_firstToShed_74 : decode cX2_firstToShed 74 = .ok (.aload 6, 2) := by decide +kernel
theorem dX2_firstToShed_76 : decode cX2_firstToShed 76 = .ok (.getfield 103, 3) := by decide +kernel
theorem dX2_firstToShed_79 : decode cX2_firstToShed 79 = .ok (.istore 4, 2) := by decide +kernel
theorem dX2_firstToShed_81 : decode cX2_firstToShed 81 = .ok (.iinc 5 1, 3) := by decide +kernel
theorem dX2_firstToShed_84 : decode cX2_firstToShed 84 = .ok (.goto (-74), 3) := by decide +kernel
theorem dX2_firstToShed_87 : decode cX2_firstToShed 87 = .ok (.iload_n 2, 1) := by decide +kernel
theorem dX2_firstToShed_88 : decode cX2_firstToShed 88 = .ok (.ireturn, 1) := by decide +kernel
theorem dX2_runMeters_0 : decode cX2_runMeters 0 = .ok (.aload_n 0, 1) := by decide +kernel
theorem dX2_runMeters_1 : decode cX2_runMeters 1 = .ok (.getfield 58, 3) := by decide +kernel
theorem dX2_runMeters_4 : decode cX2_runMeters 4 = .ok (.bipush 24, 2) := by decide +kernel
theorem dX2_runMeters_6 : decode cX2_runMeters 6 = .ok (.irem, 1) := by decide +kernel
theorem dX2_runMeters_7 : decode cX2_runMeters 7 = .ok (.istore_n 1, 1) := by decide +kernel
theorem dX2_runMeters_8 : decode cX2_runMeters 8 = .ok (.iconst 0, 1) := by decide +kernel
theorem dX2_runMeters_9 : decode cX2_runMeters 9 = .ok (.istore_n 2, 1) := by decide +kernel
theorem dX2_runMeters_10 : decode cX2_runMeters 10 = .ok (.iload_n 2, 1) := by decide +kernel
theorem dX2_runMeters_11 : decode cX2_runMeters 11 = .ok (.aload_n 0, 1) := by decide +kernel
theorem dX2_runMeters_12 : decode cX2_runMeters 12 = .ok (.getfield 41, 3) := by decide +kernel
theorem dX2_runMeters_15 : decode cX2_runMeters 15 = .ok (.if_icmp .ge 89, 3) := by decide +kernel
theorem dX2_runMeters_18 : decode cX2_runMeters 18 = .ok (.aload_n 0, 1) := by decide +kernel
theorem dX2_runMeters_19 : decode cX2_runMeters 19 = .ok (.getfield 11, 3) := by decide +kernel
theorem dX2_runMeters_22 : decode cX2_runMeters 22 = .ok (.iload_n 2, 1) := by decide +kernel
theorem dX2_runMeters_23 : decode cX2_runMeters 23 = .ok (.aaload, 1) := by decide +kernel
theorem dX2_runMeters_24 : decode cX2_runMeters 24 = .ok (.astore_n 3, 1) := by decide +kernel
theorem dX2_runMeters_25 : decode cX2_runMeters 25 = .ok (.aload_n 3, 1) := by decide +kernel
theorem dX2_runMeters_26 : decode cX2_runMeters 26 = .ok (.getfield 100, 3) := by decide +kernel
theorem dX2_runMeters_29 : decode cX2_runMeters 29 = .ok (.iconst (-1), 1) := by decide +kernel
theorem dX2_runMeters_30 : decode cX2_runMeters 30 = .ok (.if_icmp .eq 50, 3) := by decide +kernel
theorem dX2_runMeters_33 : decode cX2_runMeters 33 = .ok (.aload_n 3, 1) := by decide +kernel
theorem dX2_runMeters_34 : decode cX2_runMeters 34 = .ok (.dup, 1) := by decide +kernel
theorem dX2_runMeters_35 : decode cX2_runMeters 35 = .ok (.getfield 121, 3) := by decide +kernel
theorem dX2_runMeters_38 : decode cX2_runMeters 38 = .ok (.aload_n 3, 1) := by decide +kernel
theorem dX2_runMeters_39 : decode cX2_runMeters 39 = .ok (.getfield 103, 3) := by decide +kernel
theorem dX2_runMeters_42 : decode cX2_runMeters 42 = .ok (.iadd, 1) := by decide +kernel
theorem dX2_runMeters_43 : decode cX2_runMeters 43 = .ok (.putfield 121, 3) := by decide +kernel
theorem dX2_runMeters_46 : decode cX2_runMeters 46 = .ok (.aload_n 0, 1) := by decide +kernel
theorem dX2_runMeters_47 : decode cX2_runMeters 47 = .ok (.getfield 19, 3) := by decide +kernel
theorem dX2_runMeters_50 : decode cX2_runMeters 50 = .ok (.aload_n 3, 1) := by decide +kernel
theorem dX2_runMeters_51 : decode cX2_runMeters 51 = .ok (.getfield 100, 3) := by decide +kernel
theorem dX2_runMeters_54 : decode cX2_runMeters 54 = .ok (.aaload, 1) := by decide +kernel
theorem dX2_runMeters_55 : decode cX2_runMeters 55 = .ok (.dup, 1) := by decide +kernel
theorem dX2_runMeters_56 : decode cX2_runMeters 56 = .ok (.getfield 124, 3) := by decide +kernel
theorem dX2_runMeters_59 : decode cX2_runMeters 59 = .ok (.aload_n 3, 1) := by decide +kernel
theorem dX2_runMeters_60 : decode cX2_runMeters 60 = .ok (.getfield 103, 3) := by decide +kernel
theorem dX2_runMeters_63 : decode cX2_runMeters 63 = .ok (.iadd, 1) := by decide +kernel
theorem dX2_runMeters_64 : decode cX2_runMeters 64 = .ok (.putfield 124, 3) := by decide +kernel
theorem dX2_runMeters_67 : decode cX2_runMeters 67 = .ok (.aload_n 0, 1) := by decide +kernel
theorem dX2_runMeters_68 : decode cX2_runMeters 68 = .ok (.dup, 1) := by decide +kernel
theorem dX2_runMeters_69 : decode cX2_runMeters 69 = .ok (.getfield 61, 3) := by decide +kernel
theorem dX2_runMeters_72 : decode cX2_runMeters 72 = .ok (.iconst 1, 1) := by decide +kernel
theorem dX2_runMeters_73 : decode cX2_runMeters 73 = .ok (.iadd, 1) := by decide +kernel
theorem dX2_runMeters_74 : decode cX2_runMeters 74 = .ok (.putfield 61, 3) := by decide +kernel
theorem dX2_runMeters_77 : decode cX2_runMeters 77 = .ok (.goto 21, 3) := by decide +kernel
theorem dX2_runMeters_80 : decode cX2_runMeters 80 = .ok (.aload_n 3, 1) := by decide +kernel
theorem dX2_runMeters_81 : decode cX2_runMeters 81 = .ok (.iload_n 1, 1) := by decide +kernel
theorem dX2_runMeters_82 : decode cX2_runMeters 82 = .ok (.invokevirtual 127, 3) := by decide +kernel
theorem dX2_runMeters_85 : decode cX2_runMeters 85 = .ok (.ifCond .eq 13, 3) := by decide +kernel
theorem dX2_runMeters_88 : decode cX2_runMeters 88 = .ok (.aload_n 3, 1) := by decide +kernel
theorem dX2_runMeters_89 : decode cX2_runMeters 89 = .ok (.dup, 1) := by decide +kernel
theorem dX2_runMeters_90 : decode cX2_runMeters 90 = .ok (.getfield 131, 3) := by decide +kernel
theorem dX2_runMeters_93 : decode cX2_runMeters 93 = .ok (.iconst 1, 1) := by decide +kernel
theorem dX2_runMeters_94 : decode cX2_runMeters 94 = .ok (.iadd, 1) := by decide +kernel
theorem dX2_runMeters_95 : decode cX2_runMeters 95 = .ok (.putfield 131, 3) := by decide +kernel
theorem dX2_runMeters_98 : decode cX2_runMeters 98 = .ok (.iinc 2 1, 3) := by decide +kernel
theorem dX2_runMeters_101 : decode cX2_runMeters 101 = .ok (.goto (-91), 3) := by decide +kernel
theorem dX2_runMeters_104 : decode cX2_runMeters 104 = .ok (.return_, 1) := by decide +kernel
theorem dX2_breakerOf_0 : decode cX2_breakerOf 0 = .ok (.iload_n 1, 1) := by decide +kernel
theorem dX2_breakerOf_1 : decode cX2_breakerOf 1 = .ok (.ifCond .lt 9, 3) := by decide +kernel
theorem dX2_breakerOf_4 : decode cX2_breakerOf 4 = .ok (.iload_n 1, 1) := by decide +kernel
theorem dX2_breakerOf_5 : decode cX2_breakerOf 5 = .ok (.bipush 12, 2) := by decide +kernel
theorem dX2_breakerOf_7 : decode cX2_breakerOf 7 = .ok (.if_icmp .lt 5, 3) := by decide +kernel
theorem dX2_breakerOf_10 : decode cX2_breakerOf 10 = .ok (.iconst (-1), 1) := by decide +kernel
theorem dX2_breakerOf_11 : decode cX2_breakerOf 11 = .ok (.ireturn, 1) := by decide +kernel
theorem dX2_breakerOf_12 : decode cX2_breakerOf 12 = .ok (.aload_n 0, 1) := by decide +kernel
theorem dX2_breakerOf_13 : decode cX2_breakerOf 13 = .ok (.getfield 23, 3) := by decide +kernel
theorem dX2_breakerOf_16 : decode cX2_breakerOf 16 = .ok (.iload_n 1, 1) := by decide +kernel
theorem dX2_breakerOf_17 : decode cX2_breakerOf 17 = .ok (.baload, 1) := by decide +kernel
theorem dX2_breakerOf_18 : decode cX2_breakerOf 18 = .ok (.ifCond .eq 7, 3) := by decide +kernel
theorem dX2_breakerOf_21 : decode cX2_breakerOf 21 = .ok (.iconst 3, 1) := by decide +kernel
theorem dX2_breakerOf_22 : decode cX2_breakerOf 22 = .ok (.goto 6, 3) := by decide +kernel
theorem dX2_breakerOf_25 : decode cX2_breakerOf 25 = .ok (.iload_n 1, 1) := by decide +kernel
theorem dX2_breakerOf_26 : decode cX2_breakerOf 26 = .ok (.iconst 3, 1) := by decide +kernel
theorem dX2_breakerOf_27 : decode cX2_breakerOf 27 = .ok (.idiv, 1) := by decide +kernel
theorem dX2_breakerOf_28 : decode cX2_breakerOf 28 = .ok (.ireturn, 1) := by decide +kernel
theorem dX2_stallAt_0 : decode cX2_stallAt 0 = .ok (.iconst 0, 1) := by decide +kernel
theorem dX2_stallAt_1 : decode cX2_stallAt 1 = .ok (.istore_n 2, 1) := by decide +kernel
theorem dX2_stallAt_2 : decode cX2_stallAt 2 = .ok (.iload_n 2, 1) := by decide +kernel
theorem dX2_stallAt_3 : decode cX2_stallAt 3 = .ok (.aload_n 0, 1) := by decide +kernel
theorem dX2_stallAt_4 : decode cX2_stallAt 4 = .ok (.getfield 41, 3) := by decide +kernel
theorem dX2_stallAt_7 : decode cX2_stallAt 7 = .ok (.if_icmp .ge 24, 3) := by decide +kernel
theorem dX2_stallAt_10 : decode cX2_stallAt 10 = .ok (.aload_n 0, 1) := by decide +kernel
theorem dX2_stallAt_11 : decode cX2_stallAt 11 = .ok (.getfield 11, 3) := by decide +kernel
theorem dX2_stallAt_14 : decode cX2_stallAt 14 = .ok (.iload_n 2, 1) := by decide +kernel
theorem dX2_stallAt_15 : decode cX2_stallAt 15 = .ok (.aaload, 1) := by decide +kernel
theorem dX2_stallAt_16 : decode cX2_stallAt 16 = .ok (.getfield 71, 3) := by decide +kernel
theorem dX2_stallAt_19 : decode cX2_stallAt 19 = .ok (.iload_n 1, 1) := by decide +kernel
theorem dX2_stallAt_20 : decode cX2_stallAt 20 = .ok (.if_icmp .ne 5, 3) := by decide +kernel
theorem dX2_stallAt_23 : decode cX2_stallAt 23 = .ok (.iload_n 2, 1) := by decide +kernel
theorem dX2_stallAt_24 : decode cX2_stallAt 24 = .ok (.ireturn, 1) := by decide +kernel
theorem dX2_stallAt_25 : decode cX2_stallAt 25 = .ok (.iinc 2 1, 3) := by decide +kernel
theorem dX2_stallAt_28 : decode cX2_stallAt 28 = .ok (.goto (-26), 3) := by decide +kernel
theorem dX2_stallAt_31 : decode cX2_stallAt 31 = .ok (.iconst (-1), 1) := by decide +kernel
theorem dX2_stallAt_32 : decode cX2_stallAt 32 = .ok (.ireturn, 1) := by decide +kernel
theorem dX2_sourceOf_0 : decode cX2_sourceOf 0 = .ok (.aload_n 0, 1) := by decide +kernel
theorem dX2_sourceOf_1 : decode cX2_sourceOf 1 = .ok (.aload_n 1, 1) := by decide +kernel
theorem dX2_sourceOf_2 : decode cX2_sourceOf 2 = .ok (.getfield 71, 3) := by decide +kernel
theorem dX2_sourceOf_5 : decode cX2_sourceOf 5 = .ok (.invokevirtual 134, 3) := by decide +kernel
theorem dX2_sourceOf_8 : decode cX2_sourceOf 8 = .ok (.istore_n 2, 1) := by decide +kernel
theorem dX2_sourceOf_9 : decode cX2_sourceOf 9 = .ok (.iload_n 2, 1) := by decide +kernel
theorem dX2_sourceOf_10 : decode cX2_sourceOf 10 = .ok (.iconst (-1), 1) := by decide +kernel
theorem dX2_sourceOf_11 : decode cX2_sourceOf 11 = .ok (.if_icmp .eq 36, 3) := by decide +kernel
theorem dX2_sourceOf_14 : decode cX2_sourceOf 14 = .ok (.aload_n 1, 1) := by decide +kernel
theorem dX2_sourceOf_15 : decode cX2_sourceOf 15 = .ok (.getfield 114, 3) := by decide +kernel
theorem dX2_sourceOf_18 : decode cX2_sourceOf 18 = .ok (.ifCond .ne 29, 3) := by decide +kernel
theorem dX2_sourceOf_21 : decode cX2_sourceOf 21 = .ok (.aload_n 0, 1) := by decide +kernel
theorem dX2_sourceOf_22 : decode cX2_sourceOf 22 = .ok (.getfield 19, 3) := by decide +kernel
theorem dX2_sourceOf_25 : decode cX2_sourceOf 25 = .ok (.iload_n 2, 1) := by decide +kernel
theorem dX2_sourceOf_26 : decode cX2_sourceOf 26 = .ok (.aaload, 1) := by decide +kernel
theorem dX2_sourceOf_27 : decode cX2_sourceOf 27 = .ok (.getfield 137, 3) := by decide +kernel
theorem dX2_sourceOf_30 : decode cX2_sourceOf 30 = .ok (.ifCond .eq 17, 3) := by decide +kernel
theorem dX2_sourceOf_33 : decode cX2_sourceOf 33 = .ok (.aload_n 1, 1) := by decide +kernel
theorem dX2_sourceOf_34 : decode cX2_sourceOf 34 = .ok (.aload_n 0, 1) := by decide +kernel
theorem dX2_sourceOf_35 : decode cX2_sourceOf 35 = .ok (.getfield 58, 3) := by decide +kernel
theorem dX2_sourceOf_38 : decode cX2_sourceOf 38 = .ok (.bipush 24, 2) := by decide +kernel
theorem dX2_sourceOf_40 : decode cX2_sourceOf 40 = .ok (.irem, 1) := by decide +kernel
theorem dX2_sourceOf_41 : decode cX2_sourceOf 41 = .ok (.invokevirtual 127, 3) := by decide +kernel
theorem dX2_sourceOf_44 : decode cX2_sourceOf 44 = .ok (.ifCond .ne 5, 3) := by decide +kernel
theorem dX2_sourceOf_47 : decode cX2_sourceOf 47 = .ok (.iconst (-1), 1) := by decide +kernel
theorem dX2_sourceOf_48 : decode cX2_sourceOf 48 = .ok (.ireturn, 1) := by decide +kernel
theorem dX2_sourceOf_49 : decode cX2_sourceOf 49 = .ok (.iload_n 2, 1) := by decide +kernel
theorem dX2_sourceOf_50 : decode cX2_sourceOf 50 = .ok (.ireturn, 1) := by decide +kernel
theorem dX2_reasonOf_0 : decode cX2_reasonOf 0 = .ok (.aload_n 1, 1) := by decide +kernel
theorem dX2_reasonOf_1 : decode cX2_reasonOf 1 = .ok (.aload_n 0, 1) := by decide +kernel
theorem dX2_reasonOf_2 : decode cX2_reasonOf 2 = .ok (.getfield 58, 3) := by decide +kernel
theorem dX2_reasonOf_5 : decode cX2_reasonOf 5 = .ok (.bipush 24, 2) := by decide +kernel
theorem dX2_reasonOf_7 : decode cX2_reasonOf 7 = .ok (.irem, 1) := by decide +kernel
theorem dX2_reasonOf_8 : decode cX2_reasonOf 8 = .ok (.invokevirtual 127, 3) := by decide +kernel
theorem dX2_reasonOf_11 : decode cX2_reasonOf 11 = .ok (.ifCond .ne 5, 3) := by decide +kernel
theorem dX2_reasonOf_14 : decode cX2_reasonOf 14 = .ok (.iconst 1, 1) := by decide +kernel
theorem dX2_reasonOf_15 : decode cX2_reasonOf 15 = .ok (.ireturn, 1) := by decide +kernel
theorem dX2_reasonOf_16 : decode cX2_reasonOf 16 = .ok (.aload_n 0, 1) := by decide +kernel
theorem dX2_reasonOf_17 : decode cX2_reasonOf 17 = .ok (.aload_n 1, 1) := by decide +kernel
theorem dX2_reasonOf_18 : decode cX2_reasonOf 18 = .ok (.getfield 71, 3) := by decide +kernel
theorem dX2_reasonOf_21 : decode cX2_reasonOf 21 = .ok (.invokevirtual 134, 3) := by decide +kernel
theorem dX2_reasonOf_24 : decode cX2_reasonOf 24 = .ok (.istore_n 2, 1) := by decide +kernel
theorem dX2_reasonOf_25 : decode cX2_reasonOf 25 = .ok (.iload_n 2, 1) := by decide +kernel
theorem dX2_reasonOf_26 : decode cX2_reasonOf 26 = .ok (.iconst (-1), 1) := by decide +kernel
theorem dX2_reasonOf_27 : decode cX2_reasonOf 27 = .ok (.if_icmp .ne 5, 3) := by decide +kernel
theorem dX2_reasonOf_30 : decode cX2_reasonOf 30 = .ok (.iconst 2, 1) := by decide +kernel
theorem dX2_reasonOf_31 : decode cX2_reasonOf 31 = .ok (.ireturn, 1) := by decide +kernel
theorem dX2_reasonOf_32 : decode cX2_reasonOf 32 = .ok (.aload_n 0, 1) := by decide +kernel
theorem dX2_reasonOf_33 : decode cX2_reasonOf 33 = .ok (.getfield 19, 3) := by decide +kernel
theorem dX2_reasonOf_36 : decode cX2_reasonOf 36 = .ok (.iload_n 2, 1) := by decide +kernel
theorem dX2_reasonOf_37 : decode cX2_reasonOf 37 = .ok (.aaload, 1) := by decide +kernel
theorem dX2_reasonOf_38 : decode cX2_reasonOf 38 = .ok (.getfield 137, 3) := by decide +kernel
theorem dX2_reasonOf_41 : decode cX2_reasonOf 41 = .ok (.ifCond .ne 5, 3) := by decide +kernel
theorem dX2_reasonOf_44 : decode cX2_reasonOf 44 = .ok (.iconst 3, 1) := by decide +kernel
theorem dX2_reasonOf_45 : decode cX2_reasonOf 45 = .ok (.ireturn, 1) := by decide +kernel
theorem dX2_reasonOf_46 : decode cX2_reasonOf 46 = .ok (.aload_n 1, 1) := by decide +kernel
theorem dX2_reasonOf_47 : decode cX2_reasonOf 47 = .ok (.getfield 114, 3) := by decide +kernel
theorem dX2_reasonOf_50 : decode cX2_reasonOf 50 = .ok (.ifCond .eq 7, 3) := by decide +kernel
theorem dX2_reasonOf_53 : decode cX2_reasonOf 53 = .ok (.iconst 4, 1) := by decide +kernel
theorem dX2_reasonOf_54 : decode cX2_reasonOf 54 = .ok (.goto 4, 3) := by decide +kernel
theorem dX2_reasonOf_57 : decode cX2_reasonOf 57 = .ok (.iconst 0, 1) := by decide +kernel
theorem dX2_reasonOf_58 : decode cX2_reasonOf 58 = .ok (.ireturn, 1) := by decide +kernel
theorem dX2_feeOf_0 : decode cX2_feeOf 0 = .ok (.aload_n 1, 1) := by decide +kernel
theorem dX2_feeOf_1 : decode cX2_feeOf 1 = .ok (.getfield 121, 3) := by decide +kernel
theorem dX2_feeOf_4 : decode cX2_feeOf 4 = .ok (.aload_n 0, 1) := by decide +kernel
theorem dX2_feeOf_5 : decode cX2_feeOf 5 = .ok (.getfield 36, 3) := by decide +kernel
theorem dX2_feeOf_8 : decode cX2_feeOf 8 = .ok (.iconst 2, 1) := by decide +kernel
theorem dX2_feeOf_9 : decode cX2_feeOf 9 = .ok (.iaload, 1) := by decide +kernel
theorem dX2_feeOf_10 : decode cX2_feeOf 10 = .ok (.imul, 1) := by decide +kernel
theorem dX2_feeOf_11 : decode cX2_feeOf 11 = .ok (.bipush 10, 2) := by decide +kernel
theorem dX2_feeOf_13 : decode cX2_feeOf 13 = .ok (.idiv, 1) := by decide +kernel
theorem dX2_feeOf_14 : decode cX2_feeOf 14 = .ok (.ireturn, 1) := by decide +kernel
theorem dX2_loadOn_0 : decode cX2_loadOn 0 = .ok (.iconst 0, 1) := by decide +kernel
theorem dX2_loadOn_1 : decode cX2_loadOn 1 = .ok (.istore_n 2, 1) := by decide +kernel
theorem dX2_loadOn_2 : decode cX2_loadOn 2 = .ok (.iconst 0, 1) := by decide +kernel
theorem dX2_loadOn_3 : decode cX2_loadOn 3 = .ok (.istore_n 3, 1) := by decide +kernel
theorem dX2_loadOn_4 : decode cX2_loadOn 4 = .ok (.iload_n 3, 1) := by decide +kernel
theorem dX2_loadOn_5 : decode cX2_loadOn 5 = .ok (.aload_n 0, 1) := by decide +kernel
theorem dX2_loadOn_6 : decode cX2_loadOn 6 = .ok (.getfield 41, 3) := by decide +kernel
theorem dX2_loadOn_9 : decode cX2_loadOn 9 = .ok (.if_icmp .ge 35, 3) := by decide +kernel
theorem dX2_loadOn_12 : decode cX2_loadOn 12 = .ok (.aload_n 0, 1) := by decide +kernel
theorem dX2_loadOn_13 : decode cX2_loadOn 13 = .ok (.aload_n 0, 1) := by decide +kernel
theorem dX2_loadOn_14 : decode cX2_loadOn 14 = .ok (.getfield 11, 3) := by decide +kernel
theorem dX2_loadOn_17 : decode cX2_loadOn 17 = .ok (.iload_n 3, 1) := by decide +kernel
theorem dX2_loadOn_18 : decode cX2_loadOn 18 = .ok (.aaload, 1) := by decide +kernel
theorem dX2_loadOn_19 : decode cX2_loadOn 19 = .ok (.invokevirtual 96, 3) := by decide +kernel
theorem dX2_loadOn_22 : decode cX2_loadOn 22 = .ok (.iload_n 1, 1) := by decide +kernel
theorem dX2_loadOn_23 : decode cX2_loadOn 23 = .ok (.if_icmp .ne 15, 3) := by decide +kernel
theorem dX2_loadOn_26 : decode cX2_loadOn 26 = .ok (.iload_n 2, 1) := by decide +kernel
theorem dX2_loadOn_27 : decode cX2_loadOn 27 = .ok (.aload_n 0, 1) := by decide +kernel
theorem dX2_loadOn_28 : decode cX2_loadOn 28 = .ok (.getfield 11, 3) := by decide +kernel
theorem dX2_loadOn_31 : decode cX2_loadOn 31 = .ok (.iload_n 3, 1) := by decide +kernel
theorem dX2_loadOn_32 : decode cX2_loadOn 32 = .ok (.aaload, 1) := by decide +kernel
theorem dX2_loadOn_33 : decode cX2_loadOn 33 = .ok (.getfield 103, 3) := by decide +kernel
theorem dX2_loadOn_36 : decode cX2_loadOn 36 = .ok (.iadd, 1) := by decide +kernel
theorem dX2_loadOn_37 : decode cX2_loadOn 37 = .ok (.istore_n 2, 1) := by decide +kernel
theorem dX2_loadOn_38 : decode cX2_loadOn 38 = .ok (.iinc 3 1, 3) := by decide +kernel
theorem dX2_loadOn_41 : decode cX2_loadOn 41 = .ok (.goto (-37), 3) := by decide +kernel
theorem dX2_loadOn_44 : decode cX2_loadOn 44 = .ok (.iload_n 2, 1) := by decide +kernel
theorem dX2_loadOn_45 : decode cX2_loadOn 45 = .ok (.ireturn, 1) := by decide +kernel
theorem dX2_loadPluggedInto_0 : decode cX2_loadPluggedInto 0 = .ok (.iconst 0, 1) := by decide +kernel
theorem dX2_loadPluggedInto_1 : decode cX2_loadPluggedInto 1 = .ok (.istore_n 2, 1) := by decide +kernel
theorem dX2_loadPluggedInto_2 : decode cX2_loadPluggedInto 2 = .ok (.iconst 0, 1) := by decide +kernel
theorem dX2_loadPluggedInto_3 : decode cX2_loadPluggedInto 3 = .ok (.istore_n 3, 1) := by decide +kernel
theorem dX2_loadPluggedInto_4 : decode cX2_loadPluggedInto 4 = .ok (.iload_n 3, 1) := by decide +kernel
theorem dX2_loadPluggedInto_5 : decode cX2_loadPluggedInto 5 = .ok (.aload_n 0, 1) := by decide +kernel
theorem dX2_loadPluggedInto_6 : decode cX2_loadPluggedInto 6 = .ok (.getfield 41, 3) := by decide +kernel
theorem dX2_loadPluggedInto_9 : decode cX2_loadPluggedInto 9 = .ok (.if_icmp .ge 46, 3) := by decide +kernel
theorem dX2_loadPluggedInto_12 : decode cX2_loadPluggedInto 12 = .ok (.aload_n 0, 1) := by decide +kernel
theorem dX2_loadPluggedInto_13 : decode cX2_loadPluggedInto 13 = .ok (.getfield 11, 3) := by decide +kernel
theorem dX2_loadPluggedInto_16 : decode cX2_loadPluggedInto 16 = .ok (.iload_n 3, 1) := by decide +kernel
theorem dX2_loadPluggedInto_17 : decode cX2_loadPluggedInto 17 = .ok (.aaload, 1) := by decide +kernel
theorem dX2_loadPluggedInto_18 : decode cX2_loadPluggedInto 18 = .ok (.astore 4, 2) := by decide +kernel
theorem dX2_loadPluggedInto_20 : decode cX2_loadPluggedInto 20 = .ok (.aload 4, 2) := by decide +kernel
theorem dX2_loadPluggedInto_22 : decode cX2_loadPluggedInto 22 = .ok (.getfield 114, 3) := by decide +kernel
theorem dX2_loadPluggedInto_25 : decode cX2_loadPluggedInto 25 = .ok (.ifCond .ne 24, 3) := by decide +kernel
theorem dX2_loadPluggedInto_28 : decode cX2_loadPluggedInto 28 = .ok (.aload_n 0, 1) := by decide +kernel
theorem dX2_loadPluggedInto_29 : decode cX2_loadPluggedInto 29 = .ok (.aload 4, 2) := by decide +kernel
theorem dX2_loadPluggedInto_31 : decode cX2_loadPluggedInto 31 = .ok (.getfield 71, 3) := by decide +kernel
theorem dX2_loadPluggedInto_34 : decode cX2_loadPluggedInto 34 = .ok (.invokevirtual 134, 3) := by decide +kernel
theorem dX2_loadPluggedInto_37 : decode cX2_loadPluggedInto 37 = .ok (.iload_n 1, 1) := by decide +kernel
theorem dX2_loadPluggedInto_38 : decode cX2_loadPluggedInto 38 = .ok (.if_icmp .ne 11, 3) := by decide +kernel
theorem dX2_loadPluggedInto_41 : decode cX2_loadPluggedInto 41 = .ok (.iload_n 2, 1) := by decide +kernel
theorem dX2_loadPluggedInto_42 : decode cX2_loadPluggedInto 42 = .ok (.aload 4, 2) := by decide +kernel
theorem dX2_loadPluggedInto_44 : decode cX2_loadPluggedInto 44 = .ok (.getfield 103, 3) := by decide +kernel
theorem dX2_loadPluggedInto_47 : decode cX2_loadPluggedInto 47 = .ok (.iadd, 1) := by decide +kernel
theorem dX2_loadPluggedInto_48 : decode cX2_loadPluggedInto 48 = .ok (.istore_n 2, 1) := by decide +kernel
theorem dX2_loadPluggedInto_49 : decode cX2_loadPluggedInto 49 = .ok (.iinc 3 1, 3) := by decide +kernel
theorem dX2_loadPluggedInto_52 : decode cX2_loadPluggedInto 52 = .ok (.goto (-48), 3) := by decide +kernel
theorem dX2_loadPluggedInto_55 : decode cX2_loadPluggedInto 55 = .ok (.iload_n 2, 1) := by decide +kernel
theorem dX2_loadPluggedInto_56 : decode cX2_loadPluggedInto 56 = .ok (.ireturn, 1) := by decide +kernel
theorem dX2_drawersOn_0 : decode cX2_drawersOn 0 = .ok (.iconst 0, 1) := by decide +kernel
theorem dX2_drawersOn_1 : decode cX2_drawersOn 1 = .ok (.istore_n 2, 1) := by decide +kernel
theorem dX2_drawersOn_2 : decode cX2_drawersOn 2 = .ok (.iconst 0, 1) := by decide +kernel
theorem dX2_drawersOn_3 : decode cX2_drawersOn 3 = .ok (.istore_n 3, 1) := by decide +kernel
theorem dX2_drawersOn_4 : decode cX2_drawersOn 4 = .ok (.iload_n 3, 1) := by decide +kernel
theorem dX2_drawersOn_5 : decode cX2_drawersOn 5 = .ok (.aload_n 0, 1) := by decide +kernel
theorem dX2_drawersOn_6 : decode cX2_drawersOn 6 = .ok (.getfield 41, 3) := by decide +kernel
theorem dX2_drawersOn_9 : decode cX2_drawersOn 9 = .ok (.if_icmp .ge 26, 3) := by decide +kernel
theorem dX2_drawersOn_12 : decode cX2_drawersOn 12 = .ok (.aload_n 0, 1) := by decide +kernel
theorem dX2_drawersOn_13 : decode cX2_drawersOn 13 = .ok (.aload_n 0, 1) := by decide +kernel
theorem dX2_drawersOn_14 : decode cX2_drawersOn 14 = .ok (.getfield 11, 3) := by decide +kernel
theorem dX2_drawersOn_17 : decode cX2_drawersOn 17 = .ok (.iload_n 3, 1) := by decide +kernel
theorem dX2_drawersOn_18 : decode cX2_drawersOn 18 = .ok (.aaload, 1) := by decide +kernel
theorem dX2_drawersOn_19 : decode cX2_drawersOn 19 = .ok (.invokevirtual 96, 3) := by decide +kernel
theorem dX2_drawersOn_22 : decode cX2_drawersOn 22 = .ok (.iload_n 1, 1) := by decide +kernel
theorem dX2_drawersOn_23 : decode cX2_drawersOn 23 = .ok (.if_icmp .ne 6, 3) := by decide +kernel
theorem dX2_drawersOn_26 : decode cX2_drawersOn 26 = .ok (.iinc 2 1, 3) := by decide +kernel
theorem dX2_drawersOn_29 : decode cX2_drawersOn 29 = .ok (.iinc 3 1, 3) := by decide +kernel
theorem dX2_drawersOn_32 : decode cX2_drawersOn 32 = .ok (.goto (-28), 3) := by decide +kernel
theorem dX2_drawersOn_35 : decode cX2_drawersOn 35 = .ok (.iload_n 2, 1) := by decide +kernel
theorem dX2_drawersOn_36 : decode cX2_drawersOn 36 = .ok (.ireturn, 1) := by decide +kernel
theorem dX2_pluggedStalls_0 : decode cX2_pluggedStalls 0 = .ok (.iconst 0, 1) := by decide +kernel
theorem dX2_pluggedStalls_1 : decode cX2_pluggedStalls 1 = .ok (.istore_n 1, 1) := by decide +kernel
theorem dX2_pluggedStalls_2 : decode cX2_pluggedStalls 2 = .ok (.iconst 0, 1) := by decide +kernel
theorem dX2_pluggedStalls_3 : decode cX2_pluggedStalls 3 = .ok (.istore_n 2, 1) := by decide +kernel
theorem dX2_pluggedStalls_4 : decode cX2_pluggedStalls 4 = .ok (.iload_n 2, 1) := by decide +kernel
theorem dX2_pluggedStalls_5 : decode cX2_pluggedStalls 5 = .ok (.aload_n 0, 1) := by decide +kernel
theorem dX2_pluggedStalls_6 : decode cX2_pluggedStalls 6 = .ok (.getfield 41, 3) := by decide +kernel
theorem dX2_pluggedStalls_9 : decode cX2_pluggedStalls 9 = .ok (.if_icmp .ge 25, 3) := by decide +kernel
theorem dX2_pluggedStalls_12 : decode cX2_pluggedStalls 12 = .ok (.aload_n 0, 1) := by decide +kernel
theorem dX2_pluggedStalls_13 : decode cX2_pluggedStalls 13 = .ok (.getfield 11, 3) := by decide +kernel
theorem dX2_pluggedStalls_16 : decode cX2_pluggedStalls 16 = .ok (.iload_n 2, 1) := by decide +kernel
theorem dX2_pluggedStalls_17 : decode cX2_pluggedStalls 17 = .ok (.aaload, 1) := by decide +kernel
theorem dX2_pluggedStalls_18 : decode cX2_pluggedStalls 18 = .ok (.getfield 71, 3) := by decide +kernel
theorem dX2_pluggedStalls_21 : decode cX2_pluggedStalls 21 = .ok (.iconst (-1), 1) := by decide +kernel
theorem dX2_pluggedStalls_22 : decode cX2_pluggedStalls 22 = .ok (.if_icmp .eq 6, 3) := by decide +kernel
theorem dX2_pluggedStalls_25 : decode cX2_pluggedStalls 25 = .ok (.iinc 1 1, 3) := by decide +kernel
theorem dX2_pluggedStalls_28 : decode cX2_pluggedStalls 28 = .ok (.iinc 2 1, 3) := by decide +kernel
theorem dX2_pluggedStalls_31 : decode cX2_pluggedStalls 31 = .ok (.goto (-27), 3) := by decide +kernel
theorem dX2_pluggedStalls_34 : decode cX2_pluggedStalls 34 = .ok (.iload_n 1, 1) := by decide +kernel
theorem dX2_pluggedStalls_35 : decode cX2_pluggedStalls 35 = .ok (.ireturn, 1) := by decide +kernel
theorem dX2_drawingStalls_0 : decode cX2_drawingStalls 0 = .ok (.iconst 0, 1) := by decide +kernel
theorem dX2_drawingStalls_1 : decode cX2_drawingStalls 1 = .ok (.istore_n 1, 1) := by decide +kernel
theorem dX2_drawingStalls_2 : decode cX2_drawingStalls 2 = .ok (.iconst 0, 1) := by decide +kernel
theorem dX2_drawingStalls_3 : decode cX2_drawingStalls 3 = .ok (.istore_n 2, 1) := by decide +kernel
theorem dX2_drawingStalls_4 : decode cX2_drawingStalls 4 = .ok (.iload_n 2, 1) := by decide +kernel
theorem dX2_drawingStalls_5 : decode cX2_drawingStalls 5 = .ok (.iconst 4, 1) := by decide +kernel
theorem dX2_drawingStalls_6 : decode cX2_drawingStalls 6 = .ok (.if_icmp .ge 17, 3) := by decide +kernel
theorem dX2_drawingStalls_9 : decode cX2_drawingStalls 9 = .ok (.iload_n 1, 1) := by decide +kernel
theorem dX2_drawingStalls_10 : decode cX2_drawingStalls 10 = .ok (.aload_n 0, 1) := by decide +kernel
theorem dX2_drawingStalls_11 : decode cX2_drawingStalls 11 = .ok (.iload_n 2, 1) := by decide +kernel
theorem dX2_drawingStalls_12 : decode cX2_drawingStalls 12 = .ok (.invokevirtual 140, 3) := by decide +kernel
theorem dX2_drawingStalls_15 : decode cX2_drawingStalls 15 = .ok (.iadd, 1) := by decide +kernel
theorem dX2_drawingStalls_16 : decode cX2_drawingStalls 16 = .ok (.istore_n 1, 1) := by decide +kernel
theorem dX2_drawingStalls_17 : decode cX2_drawingStalls 17 = .ok (.iinc 2 1, 3) := by decide +kernel
theorem dX2_drawingStalls_20 : decode cX2_drawingStalls 20 = .ok (.goto (-16), 3) := by decide +kernel
theorem dX2_drawingStalls_23 : decode cX2_drawingStalls 23 = .ok (.iload_n 1, 1) := by decide +kernel
theorem dX2_drawingStalls_24 : decode cX2_drawingStalls 24 = .ok (.ireturn, 1) := by decide +kernel
theorem dX2_breakersOn_0 : decode cX2_breakersOn 0 = .ok (.iconst 0, 1) := by decide +kernel
theorem dX2_breakersOn_1 : decode cX2_breakersOn 1 = .ok (.istore_n 1, 1) := by decide +kernel
theorem dX2_breakersOn_2 : decode cX2_breakersOn 2 = .ok (.iconst 0, 1) := by decide +kernel
theorem dX2_breakersOn_3 : decode cX2_breakersOn 3 = .ok (.istore_n 2, 1) := by decide +kernel
theorem dX2_breakersOn_4 : decode cX2_breakersOn 4 = .ok (.iload_n 2, 1) := by decide +kernel
theorem dX2_breakersOn_5 : decode cX2_breakersOn 5 = .ok (.iconst 4, 1) := by decide +kernel
theorem dX2_breakersOn_6 : decode cX2_breakersOn 6 = .ok (.if_icmp .ge 24, 3) := by decide +kernel
theorem dX2_breakersOn_9 : decode cX2_breakersOn 9 = .ok (.aload_n 0, 1) := by decide +kernel
theorem dX2_breakersOn_10 : decode cX2_breakersOn 10 = .ok (.getfield 19, 3) := by decide +kernel
theorem dX2_breakersOn_13 : decode cX2_breakersOn 13 = .ok (.iload_n 2, 1) := by decide +kernel
theorem dX2_breakersOn_14 : decode cX2_breakersOn 14 = .ok (.aaload, 1) := by decide +kernel
theorem dX2_breakersOn_15 : decode cX2_breakersOn 15 = .ok (.getfield 137, 3) := by decide +kernel
theorem dX2_breakersOn_18 : decode cX2_breakersOn 18 = .ok (.ifCond .eq 6, 3) := by decide +kernel
theorem dX2_breakersOn_21 : decode cX2_breakersOn 21 = .ok (.iinc 1 1, 3) := by decide +kernel
theorem dX2_breakersOn_24 : decode cX2_breakersOn 24 = .ok (.iinc 2 1, 3) := by decide +kernel
theorem dX2_breakersOn_27 : decode cX2_breakersOn 27 = .ok (.goto (-23), 3) := by decide +kernel
theorem dX2_breakersOn_30 : decode cX2_breakersOn 30 = .ok (.iload_n 1, 1) := by decide +kernel
theorem dX2_breakersOn_31 : decode cX2_breakersOn 31 = .ok (.ireturn, 1) := by decide +kernel
theorem dX2_meters_0 : decode cX2_meters 0 = .ok (.iconst 0, 1) := by decide +kernel
theorem dX2_meters_1 : decode cX2_meters 1 = .ok (.istore_n 1, 1) := by decide +kernel
theorem dX2_meters_2 : decode cX2_meters 2 = .ok (.iconst 0, 1) := by decide +kernel
theorem dX2_meters_3 : decode cX2_meters 3 = .ok (.istore_n 2, 1) := by decide +kernel
theorem dX2_meters_4 : decode cX2_meters 4 = .ok (.iload_n 2, 1) := by decide +kernel
theorem dX2_meters_5 : decode cX2_meters 5 = .ok (.aload_n 0, 1) := by decide +kernel
theorem dX2_meters_6 : decode cX2_meters 6 = .ok (.getfield 41, 3) := by decide +kernel
theorem dX2_meters_9 : decode cX2_meters 9 = .ok (.if_icmp .ge 21, 3) := by decide +kernel
theorem dX2_meters_12 : decode cX2_meters 12 = .ok (.iload_n 1, 1) := by decide +kernel
theorem dX2_meters_13 : decode cX2_meters 13 = .ok (.aload_n 0, 1) := by decide +kernel
theorem dX2_meters_14 : decode cX2_meters 14 = .ok (.getfield 11, 3) := by decide +kernel
theorem dX2_meters_17 : decode cX2_meters 17 = .ok (.iload_n 2, 1) := by decide +kernel
theorem dX2_meters_18 : decode cX2_meters 18 = .ok (.aaload, 1) := by decide +kernel
theorem dX2_meters_19 : decode cX2_meters 19 = .ok (.getfield 121, 3) := by decide +kernel
theorem dX2_meters_22 : decode cX2_meters 22 = .ok (.iadd, 1) := by decide +kernel
theorem dX2_meters_23 : decode cX2_meters 23 = .ok (.istore_n 1, 1) := by decide +kernel
theorem dX2_meters_24 : decode cX2_meters 24 = .ok (.iinc 2 1, 3) := by decide +kernel
theorem dX2_meters_27 : decode cX2_meters 27 = .ok (.goto (-23), 3) := by decide +kernel
theorem dX2_meters_30 : decode cX2_meters 30 = .ok (.iload_n 1, 1) := by decide +kernel
theorem dX2_meters_31 : decode cX2_meters 31 = .ok (.ireturn, 1) := by decide +kernel
theorem dX2_through_0 : decode cX2_through 0 = .ok (.iconst 0, 1) := by decide +kernel
theorem dX2_through_1 : decode cX2_through 1 = .ok (.istore_n 1, 1) := by decide +kernel
theorem dX2_through_2 : decode cX2_through 2 = .ok (.iconst 0, 1) := by decide +kernel
theorem dX2_through_3 : decode cX2_through 3 = .ok (.istore_n 2, 1) := by decide +kernel
theorem dX2_through_4 : decode cX2_through 4 = .ok (.iload_n 2, 1) := by decide +kernel
theorem dX2_through_5 : decode cX2_through 5 = .ok (.iconst 4, 1) := by decide +kernel
theorem dX2_through_6 : decode cX2_through 6 = .ok (.if_icmp .ge 21, 3) := by decide +kernel
theorem dX2_through_9 : decode cX2_through 9 = .ok (.iload_n 1, 1) := by decide +kernel
theorem dX2_through_10 : decode cX2_through 10 = .ok (.aload_n 0, 1) := by decide +kernel
theorem dX2_through_11 : decode cX2_through 11 = .ok (.getfield 19, 3) := by decide +kernel
theorem dX2_through_14 : decode cX2_through 14 = .ok (.iload_n 2, 1) := by decide +kernel
theorem dX2_through_15 : decode cX2_through 15 = .ok (.aaload, 1) := by decide +kernel
theorem dX2_through_16 : decode cX2_through 16 = .ok (.getfield 124, 3) := by decide +kernel
theorem dX2_through_19 : decode cX2_through 19 = .ok (.iadd, 1) := by decide +kernel
theorem dX2_through_20 : decode cX2_through 20 = .ok (.istore_n 1, 1) := by decide +kernel
theorem dX2_through_21 : decode cX2_through 21 = .ok (.iinc 2 1, 3) := by decide +kernel
theorem dX2_through_24 : decode cX2_through 24 = .ok (.goto (-20), 3) := by decide +kernel
theorem dX2_through_27 : decode cX2_through 27 = .ok (.iload_n 1, 1) := by decide +kernel
theorem dX2_through_28 : decode cX2_through 28 = .ok (.ireturn, 1) := by decide +kernel
theorem dX2_trips_0 : decode cX2_trips 0 = .ok (.iconst 0, 1) := by decide +kernel
theorem dX2_trips_1 : decode cX2_trips 1 = .ok (.istore_n 1, 1) := by decide +kernel
theorem dX2_trips_2 : decode cX2_trips 2 = .ok (.iconst 0, 1) := by decide +kernel
theorem dX2_trips_3 : decode cX2_trips 3 = .ok (.istore_n 2, 1) := by decide +kernel
theorem dX2_trips_4 : decode cX2_trips 4 = .ok (.iload_n 2, 1) := by decide +kernel
theorem dX2_trips_5 : decode cX2_trips 5 = .ok (.iconst 4, 1) := by decide +kernel
theorem dX2_trips_6 : decode cX2_trips 6 = .ok (.if_icmp .ge 21, 3) := by decide +kernel
theorem dX2_trips_9 : decode cX2_trips 9 = .ok (.iload_n 1, 1) := by decide +kernel
theorem dX2_trips_10 : decode cX2_trips 10 = .ok (.aload_n 0, 1) := by decide +kernel
theorem dX2_trips_11 : decode cX2_trips 11 = .ok (.getfield 19, 3) := by decide +kernel
theorem dX2_trips_14 : decode cX2_trips 14 = .ok (.iload_n 2, 1) := by decide +kernel
theorem dX2_trips_15 : decode cX2_trips 15 = .ok (.aaload, 1) := by decide +kernel
theorem dX2_trips_16 : decode cX2_trips 16 = .ok (.getfield 143, 3) := by decide +kernel
theorem dX2_trips_19 : decode cX2_trips 19 = .ok (.iadd, 1) := by decide +kernel
theorem dX2_trips_20 : decode cX2_trips 20 = .ok (.istore_n 1, 1) := by decide +kernel
theorem dX2_trips_21 : decode cX2_trips 21 = .ok (.iinc 2 1, 3) := by decide +kernel
theorem dX2_trips_24 : decode cX2_trips 24 = .ok (.goto (-20), 3) := by decide +kernel
theorem dX2_trips_27 : decode cX2_trips 27 = .ok (.iload_n 1, 1) := by decide +kernel
theorem dX2_trips_28 : decode cX2_trips 28 = .ok (.ireturn, 1) := by decide +kernel
theorem dX2_darkHours_0 : decode cX2_darkHours 0 = .ok (.iconst 0, 1) := by decide +kernel
theorem dX2_darkHours_1 : decode cX2_darkHours 1 = .ok (.istore_n 1, 1) := by decide +kernel
theorem dX2_darkHours_2 : decode cX2_darkHours 2 = .ok (.iconst 0, 1) := by decide +kernel
theorem dX2_darkHours_3 : decode cX2_darkHours 3 = .ok (.istore_n 2, 1) := by decide +kernel
theorem dX2_darkHours_4 : decode cX2_darkHours 4 = .ok (.iload_n 2, 1) := by decide +kernel
theorem dX2_darkHours_5 : decode cX2_darkHours 5 = .ok (.aload_n 0, 1) := by decide +kernel
theorem dX2_darkHours_6 : decode cX2_darkHours 6 = .ok (.getfield 41, 3) := by decide +kernel
theorem dX2_darkHours_9 : decode cX2_darkHours 9 = .ok (.if_icmp .ge 21, 3) := by decide +kernel
theorem dX2_darkHours_12 : decode cX2_darkHours 12 = .ok (.iload_n 1, 1) := by decide +kernel
theorem dX2_darkHours_13 : decode cX2_darkHours 13 = .ok (.aload_n 0, 1) := by decide +kernel
theorem dX2_darkHours_14 : decode cX2_darkHours 14 = .ok (.getfield 11, 3) := by decide +kernel
theorem dX2_darkHours_17 : decode cX2_darkHours 17 = .ok (.iload_n 2, 1) := by decide +kernel
theorem dX2_darkHours_18 : decode cX2_darkHours 18 = .ok (.aaload, 1) := by decide +kernel
theorem dX2_darkHours_19 : decode cX2_darkHours 19 = .ok (.getfield 131, 3) := by decide +kernel
theorem dX2_darkHours_22 : decode cX2_darkHours 22 = .ok (.iadd, 1) := by decide +kernel
theorem dX2_darkHours_23 : decode cX2_darkHours 23 = .ok (.istore_n 1, 1) := by decide +kernel
theorem dX2_darkHours_24 : decode cX2_darkHours 24 = .ok (.iinc 2 1, 3) := by decide +kernel
theorem dX2_darkHours_27 : decode cX2_darkHours 27 = .ok (.goto (-23), 3) := by decide +kernel
theorem dX2_darkHours_30 : decode cX2_darkHours 30 = .ok (.iload_n 1, 1) := by decide +kernel
theorem dX2_darkHours_31 : decode cX2_darkHours 31 = .ok (.ireturn, 1) := by decide +kernel
theorem dX2_fees_0 : decode cX2_fees 0 = .ok (.iconst 0, 1) := by decide +kernel
theorem dX2_fees_1 : decode cX2_fees 1 = .ok (.istore_n 1, 1) := by decide +kernel
theorem dX2_fees_2 : decode cX2_fees 2 = .ok (.iconst 0, 1) := by decide +kernel
theorem dX2_fees_3 : decode cX2_fees 3 = .ok (.istore_n 2, 1) := by decide +kernel
theorem dX2_fees_4 : decode cX2_fees 4 = .ok (.iload_n 2, 1) := by decide +kernel
theorem dX2_fees_5 : decode cX2_fees 5 = .ok (.aload_n 0, 1) := by decide +kernel
theorem dX2_fees_6 : decode cX2_fees 6 = .ok (.getfield 41, 3) := by decide +kernel
theorem dX2_fees_9 : decode cX2_fees 9 = .ok (.if_icmp .ge 22, 3) := by decide +kernel
theorem dX2_fees_12 : decode cX2_fees 12 = .ok (.iload_n 1, 1) := by decide +kernel
theorem dX2_fees_13 : decode cX2_fees 13 = .ok (.aload_n 0, 1) := by decide +kernel
theorem dX2_fees_14 : decode cX2_fees 14 = .ok (.aload_n 0, 1) := by decide +kernel
theorem dX2_fees_15 : decode cX2_fees 15 = .ok (.getfield 11, 3) := by decide +kernel
theorem dX2_fees_18 : decode cX2_fees 18 = .ok (.iload_n 2, 1) := by decide +kernel
theorem dX2_fees_19 : decode cX2_fees 19 = .ok (.aaload, 1) := by decide +kernel
theorem dX2_fees_20 : decode cX2_fees 20 = .ok (.invokevirtual 146, 3) := by decide +kernel
theorem dX2_fees_23 : decode cX2_fees 23 = .ok (.iadd, 1) := by decide +kernel
theorem dX2_fees_24 : decode cX2_fees 24 = .ok (.istore_n 1, 1) := by decide +kernel
theorem dX2_fees_25 : decode cX2_fees 25 = .ok (.iinc 2 1, 3) := by decide +kernel
theorem dX2_fees_28 : decode cX2_fees 28 = .ok (.goto (-24), 3) := by decide +kernel
theorem dX2_fees_31 : decode cX2_fees 31 = .ok (.iload_n 1, 1) := by decide +kernel
theorem dX2_fees_32 : decode cX2_fees 32 = .ok (.ireturn, 1) := by decide +kernel
theorem dX3_init_0 : decode cX3_init 0 = .ok (.aload_n 0, 1) := by decide +kernel
theorem dX3_init_1 : decode cX3_init 1 = .ok (.invokespecial 3, 3) := by decide +kernel
theorem dX3_init_4 : decode cX3_init 4 = .ok (.aload_n 0, 1) := by decide +kernel
theorem dX3_init_5 : decode cX3_init 5 = .ok (.bipush 60, 2) := by decide +kernel
theorem dX3_init_7 : decode cX3_init 7 = .ok (.newarray .char, 2) := by decide +kernel
theorem dX3_init_9 : decode cX3_init 9 = .ok (.putfield 9, 3) := by decide +kernel
theorem dX3_init_12 : decode cX3_init 12 = .ok (.aload_n 0, 1) := by decide +kernel
theorem dX3_init_13 : decode cX3_init 13 = .ok (.iconst 4, 1) := by decide +kernel
theorem dX3_init_14 : decode cX3_init 14 = .ok (.newarray .int, 2) := by decide +kernel
theorem dX3_init_16 : decode cX3_init 16 = .ok (.putfield 15, 3) := by decide +kernel
theorem dX3_init_19 : decode cX3_init 19 = .ok (.return_, 1) := by decide +kernel
theorem dX3_readWhole_0 : decode cX3_readWhole 0 = .ok (.aload_n 0, 1) := by decide +kernel
theorem dX3_readWhole_1 : decode cX3_readWhole 1 = .ok (.iconst 0, 1) := by decide +kernel
theorem dX3_readWhole_2 : decode cX3_readWhole 2 = .ok (.putfield 19, 3) := by decide +kernel
theorem dX3_readWhole_5 : decode cX3_readWhole 5 = .ok (.iconst 0, 1) := by decide +kernel
theorem dX3_readWhole_6 : decode cX3_readWhole 6 = .ok (.istore_n 1, 1) := by decide +kernel
theorem dX3_readWhole_7 : decode cX3_readWhole 7 = .ok (.iload_n 1, 1) := by decide +kernel
theorem dX3_readWhole_8 : decode cX3_readWhole 8 = .ok (.bipush 60, 2) := by decide +kernel
theorem dX3_readWhole_10 : decode cX3_readWhole 10 = .ok (.if_icmp .ge 42, 3) := by decide +kernel
theorem dX3_readWhole_13 : decode cX3_readWhole 13 = .ok (.aload_n 0, 1) := by decide +kernel
theorem dX3_readWhole_14 : decode cX3_readWhole 14 = .ok (.invokevirtual 23, 3) := by decide +kernel
theorem dX3_readWhole_17 : decode cX3_readWhole 17 = .ok (.ifCond .ne 5, 3) := by decide +kernel
theorem dX3_readWhole_20 : decode cX3_readWhole 20 = .ok (.iconst 0, 1) := by decide +kernel
theorem dX3_readWhole_21 : decode cX3_readWhole 21 = .ok (.ireturn, 1) := by decide +kernel
theorem dX3_readWhole_22 : decode cX3_readWhole 22 = .ok (.aload_n 0, 1) := by decide +kernel
theorem dX3_readWhole_23 : decode cX3_readWhole 23 = .ok (.getfield 19, 3) := by decide +kernel
theorem dX3_readWhole_26 : decode cX3_readWhole 26 = .ok (.aload_n 0, 1) := by decide +kernel
theorem dX3_readWhole_27 : decode cX3_readWhole 27 = .ok (.getfield 27, 3) := by decide +kernel
theorem dX3_readWhole_30 : decode cX3_readWhole 30 = .ok (.if_icmp .lt 5, 3) := by decide +kernel
theorem dX3_readWhole_33 : decode cX3_readWhole 33 = .ok (.iconst 1, 1) := by decide +kernel
theorem dX3_readWhole_34 : decode cX3_readWhole 34 = .ok (.ireturn, 1) := by decide +kernel
theorem dX3_readWhole_35 : decode cX3_readWhole 35 = .ok (.aload_n 0, 1) := by decide +kernel
theorem dX3_readWhole_36 : decode cX3_readWhole 36 = .ok (.bipush 59, 2) := by decide +kernel
theorem dX3_readWhole_38 : decode cX3_readWhole 38 = .ok (.invokevirtual 30, 3) := by decide +kernel
theorem dX3_readWhole_41 : decode cX3_readWhole 41 = .ok (.ifCond .ne 5, 3) := by decide +kernel
theorem dX3_readWhole_44 : decode cX3_readWhole 44 = .ok (.iconst 0, 1) := by decide +kernel
theorem dX3_readWhole_45 : decode cX3_readWhole 45 = .ok (.ireturn, 1) := by decide +kernel
theorem dX3_readWhole_46 : decode cX3_readWhole 46 = .ok (.iinc 1 1, 3) := by decide +kernel
theorem dX3_readWhole_49 : decode cX3_readWhole 49 = .ok (.goto (-42), 3) := by decide +kernel
theorem dX3_readWhole_52 : decode cX3_readWhole 52 = .ok (.iconst 0, 1) := by decide +kernel
theorem dX3_readWhole_53 : decode cX3_readWhole 53 = .ok (.ireturn, 1) := by decide +kernel
theorem dX3_readOrder_0 : decode cX3_readOrder 0 = .ok (.aload_n 0, 1) := by decide +kernel
theorem dX3_readOrder_1 : decode cX3_readOrder 1 = .ok (.bipush 115, 2) := by decide +kernel
theorem dX3_readOrder_3 : decode cX3_readOrder 3 = .ok (.invokevirtual 30, 3) := by decide +kernel
theorem dX3_readOrder_6 : decode cX3_readOrder 6 = .ok (.ifCond .eq 87, 3) := by decide +kernel
theorem dX3_readOrder_9 : decode cX3_readOrder 9 = .ok (.aload_n 0, 1) := by decide +kernel
theorem dX3_readOrder_10 : decode cX3_readOrder 10 = .ok (.bipush 115, 2) := by decide +kernel
theorem dX3_readOrder_12 : decode cX3_readOrder 12 = .ok (.putfield 34, 3) := by decide +kernel
theorem dX3_readOrder_15 : decode cX3_readOrder 15 = .ok (.aload_n 0, 1) := by decide +kernel
theorem dX3_readOrder_16 : decode cX3_readOrder 16 = .ok (.iconst 0, 1) := by decide +kernel
theorem dX3_readOrder_17 : decode cX3_readOrder 17 = .ok (.iconst 1, 1) := by decide +kernel
theorem dX3_readOrder_18 : decode cX3_readOrder 18 = .ok (.sipush 500, 3) := by decide +kernel
theorem dX3_readOrder_21 : decode cX3_readOrder 21 = .ok (.invokevirtual 38, 3) := by decide +kernel
theorem dX3_readOrder_24 : decode cX3_readOrder 24 = .ok (.ifCond .eq 67, 3) := by decide +kernel
theorem dX3_readOrder_27 : decode cX3_readOrder 27 = .ok (.aload_n 0, 1) := by decide +kernel
theorem dX3_readOrder_28 : decode cX3_readOrder 28 = .ok (.bipush 64, 2) := by decide +kernel
theorem dX3_readOrder_30 : decode cX3_readOrder 30 = .ok (.invokevirtual 30, 3) := by decide +kernel
theorem dX3_readOrder_33 : decode cX3_readOrder 33 = .ok (.ifCond .eq 58, 3) := by decide +kernel
theorem dX3_readOrder_36 : decode cX3_readOrder 36 = .ok (.aload_n 0, 1) := by decide +kernel
theorem dX3_readOrder_37 : decode cX3_readOrder 37 = .ok (.iconst 1, 1) := by decide +kernel
theorem dX3_readOrder_38 : decode cX3_readOrder 38 = .ok (.iconst 0, 1) := by decide +kernel
theorem dX3_readOrder_39 : decode cX3_readOrder 39 = .ok (.bipush 23, 2) := by decide +kernel
theorem dX3_readOrder_41 : decode cX3_readOrder 41 = .ok (.invokevirtual 38, 3) := by decide +kernel
theorem dX3_readOrder_44 : decode cX3_readOrder 44 = .ok (.ifCond .eq 47, 3) := by decide +kernel
theorem dX3_readOrder_47 : decode cX3_readOrder 47 = .ok (.aload_n 0, 1) := by decide +kernel
theorem dX3_readOrder_48 : decode cX3_readOrder 48 = .ok (.bipush 45, 2) := by decide +kernel
theorem dX3_readOrder_50 : decode cX3_readOrder 50 = .ok (.invokevirtual 30, 3) := by decide +kernel
theorem dX3_readOrder_53 : decode cX3_readOrder 53 = .ok (.ifCond .eq 38, 3) := by decide +kernel
theorem dX3_readOrder_56 : decode cX3_readOrder 56 = .ok (.aload_n 0, 1) := by decide +kernel
theorem dX3_readOrder_57 : decode cX3_readOrder 57 = .ok (.iconst 2, 1) := by decide +kernel
theorem dX3_readOrder_58 : decode cX3_readOrder 58 = .ok (.iconst 0, 1) := by decide +kernel
theorem dX3_readOrder_59 : decode cX3_readOrder 59 = .ok (.bipush 23, 2) := by decide +kernel
theorem dX3_readOrder_61 : decode cX3_readOrder 61 = .ok (.invokevirtual 38, 3) := by decide +kernel
theorem dX3_readOrder_64 : decode cX3_readOrder 64 = .ok (.ifCond .eq 27, 3) := by decide +kernel
theorem dX3_readOrder_67 : decode cX3_readOrder 67 = .ok (.aload_n 0, 1) := by decide +kernel
theorem dX3_readOrder_68 : decode cX3_readOrder 68 = .ok (.bipush 42, 2) := by decide +kernel
theorem dX3_readOrder_70 : decode cX3_readOrder 70 = .ok (.invokevirtual 30, 3) := by decide +kernel
theorem dX3_readOrder_73 : decode cX3_readOrder 73 = .ok (.ifCond .eq 18, 3) := by decide +kernel
theorem dX3_readOrder_76 : decode cX3_readOrder 76 = .ok (.aload_n 0, 1) := by decide +kernel
theorem dX3_readOrder_77 : decode cX3_readOrder 77 = .ok (.iconst 3, 1) := by decide +kernel
theorem dX3_readOrder_78 : decode cX3_readOrder 78 = .ok (.iconst 1, 1) := by decide +kernel
theorem dX3_readOrder_79 : decode cX3_readOrder 79 = .ok (.bipush 9, 2) := by decide +kernel
theorem dX3_readOrder_81 : decode cX3_readOrder 81 = .ok (.invokevirtual 38, 3) := by decide +kernel
theorem dX3_readOrder_84 : decode cX3_readOrder 84 = .ok (.ifCond .eq 7, 3) := by decide +kernel
theorem dX3_readOrder_87 : decode cX3_readOrder 87 = .ok (.iconst 1, 1) := by decide +kernel
theorem dX3_readOrder_88 : decode cX3_readOrder 88 = .ok (.goto 4, 3) := by decide +kernel
theorem dX3_readOrder_91 : decode cX3_readOrder 91 = .ok (.iconst 0, 1) := by decide +kernel
theorem dX3_readOrder_92 : decode cX3_readOrder 92 = .ok (.ireturn, 1) := by decide +kernel
theorem dX3_readOrder_93 : decode cX3_readOrder 93 = .ok (.aload_n 0, 1) := by decide +kernel
theorem dX3_readOrder_94 : decode cX3_readOrder 94 = .ok (.bipush 112, 2) := by decide +kernel
theorem dX3_readOrder_96 : decode cX3_readOrder 96 = .ok (.invokevirtual 30, 3) := by decide +kernel
theorem dX3_readOrder_99 : decode cX3_readOrder 99 = .ok (.ifCond .eq 46, 3) := by decide +kernel
theorem dX3_readOrder_102 : decode cX3_readOrder 102 = .ok (.aload_n 0, 1) := by decide +kernel
theorem dX3_readOrder_103 : decode cX3_readOrder 103 = .ok (.bipush 112, 2) := by decide +kernel
theorem dX3_readOrder_105 : decode cX3_readOrder 105 = .ok (.putfield 34, 3) := by decide +kernel
theorem dX3_readOrder_108 : decode cX3_readOrder 108 = .ok (.aload_n 0, 1) := by decide +kernel
theorem dX3_readOrder_109 : decode cX3_readOrder 109 = .ok (.iconst 0, 1) := by decide +kernel
theorem dX3_readOrder_110 : decode cX3_readOrder 110 = .ok (.iconst 0, 1) := by decide +kernel
theorem dX3_readOrder_111 : decode cX3_readOrder 111 = .ok (.bipush 9, 2) := by decide +kernel
theorem dX3_readOrder_113 : decode cX3_readOrder 113 = .ok (.invokevirtual 38, 3) := by decide +kernel
theorem dX3_readOrder_116 : decode cX3_readOrder 116 = .ok (.ifCond .eq 27, 3) := by decide +kernel
theorem dX3_readOrder_119 : decode cX3_readOrder 119 = .ok (.aload_n 0, 1) := by decide +kernel
theorem dX3_readOrder_120 : decode cX3_readOrder 120 = .ok (.bipush 61, 2) := by decide +kernel
theorem dX3_readOrder_122 : decode cX3_readOrder 122 = .ok (.invokevirtual 30, 3) := by decide +kernel
theorem dX3_readOrder_125 : decode cX3_readOrder 125 = .ok (.ifCond .eq 18, 3) := by decide +kernel
theorem dX3_readOrder_128 : decode cX3_readOrder 128 = .ok (.aload_n 0, 1) := by decide +kernel
theorem dX3_readOrder_129 : decode cX3_readOrder 129 = .ok (.iconst 1, 1) := by decide +kernel
theorem dX3_readOrder_130 : decode cX3_readOrder 130 = .ok (.iconst 0, 1) := by decide +kernel
theorem dX3_readOrder_131 : decode cX3_readOrder 131 = .ok (.bipush 11, 2) := by decide +kernel
theorem dX3_readOrder_133 : decode cX3_readOrder 133 = .ok (.invokevirtual 38, 3) := by decide +kernel
theorem dX3_readOrder_136 : decode cX3_readOrder 136 = .ok (.ifCond .eq 7, 3) := by decide +kernel
theorem dX3_readOrder_139 : decode cX3_readOrder 139 = .ok (.iconst 1, 1) := by decide +kernel
theorem dX3_readOrder_140 : decode cX3_readOrder 140 = .ok (.goto 4, 3) := by decide +kernel
theorem dX3_readOrder_143 : decode cX3_readOrder 143 = .ok (.iconst 0, 1) := by decide +kernel
theorem dX3_readOrder_144 : decode cX3_readOrder 144 = .ok (.ireturn, 1) := by decide +kernel
theorem dX3_readOrder_145 : decode cX3_readOrder 145 = .ok (.aload_n 0, 1) := by decide +kernel
theorem dX3_readOrder_146 : decode cX3_readOrder 146 = .ok (.bipush 104, 2) := by decide +kernel
theorem dX3_readOrder_148 : decode cX3_readOrder 148 = .ok (.invokevirtual 30, 3) := by decide +kernel
theorem dX3_readOrder_151 : decode cX3_readOrder 151 = .ok (.ifCond .eq 18, 3) := by decide +kernel
theorem dX3_readOrder_154 : decode cX3_readOrder 154 = .ok (.aload_n 0, 1) := by decide +kernel
theorem dX3_readOrder_155 : decode cX3_readOrder 155 = .ok (.bipush 104, 2) := by decide +kernel
theorem dX3_readOrder_157 : decode cX3_readOrder 157 = .ok (.putfield 34, 3) := by decide +kernel
theorem dX3_readOrder_160 : decode cX3_readOrder 160 = .ok (.aload_n 0, 1) := by decide +kernel
theorem dX3_readOrder_161 : decode cX3_readOrder 161 = .ok (.iconst 0, 1) := by decide +kernel
theorem dX3_readOrder_162 : decode cX3_readOrder 162 = .ok (.iconst 1, 1) := by decide +kernel
theorem dX3_readOrder_163 : decode cX3_readOrder 163 = .ok (.bipush 48, 2) := by decide +kernel
theorem dX3_readOrder_165 : decode cX3_readOrder 165 = .ok (.invokevirtual 38, 3) := by decide +kernel
theorem dX3_readOrder_168 : decode cX3_readOrder 168 = .ok (.ireturn, 1) := by decide +kernel
theorem dX3_readOrder_169 : decode cX3_readOrder 169 = .ok (.iconst 0, 1) := by decide +kernel
theorem dX3_readOrder_170 : decode cX3_readOrder 170 = .ok (.ireturn, 1) := by decide +kernel
theorem dX3_readSign_0 : decode cX3_readSign 0 = .ok (.aload_n 0, 1) := by decide +kernel
theorem dX3_readSign_1 : decode cX3_readSign 1 = .ok (.getfield 19, 3) := by decide +kernel
theorem dX3_readSign_4 : decode cX3_readSign 4 = .ok (.aload_n 0, 1) := by decide +kernel
theorem dX3_readSign_5 : decode cX3_readSign 5 = .ok (.getfield 27, 3) := by decide +kernel
theorem dX3_readSign_8 : decode cX3_readSign 8 = .ok (.if_icmp .ge 16, 3) := by decide +kernel
theorem dX3_readSign_11 : decode cX3_readSign 11 = .ok (.aload_n 0, 1) := by decide +kernel
theorem dX3_readSign_12 : decode cX3_readSign 12 = .ok (.getfield 9, 3) := by decide +kernel
theorem dX3_readSign_15 : decode cX3_readSign 15 = .ok (.aload_n 0, 1) := by decide +kernel
theorem dX3_readSign_16 : decode cX3_readSign 16 = .ok (.getfield 19, 3) := by decide +kernel
theorem dX3_readSign_19 : decode cX3_readSign 19 = .ok (.caload, 1) := by decide +kernel
theorem dX3_readSign_20 : decode cX3_readSign 20 = .ok (.iload_n 1, 1) := by decide +kernel
theorem dX3_readSign_21 : decode cX3_readSign 21 = .ok (.if_icmp .eq 5, 3) := by decide +kernel
theorem dX3_readSign_24 : decode cX3_readSign 24 = .ok (.iconst 0, 1) := by decide +kernel
theorem dX3_readSign_25 : decode cX3_readSign 25 = .ok (.ireturn, 1) := by decide +kernel
theorem dX3_readSign_26 : decode cX3_readSign 26 = .ok (.aload_n 0, 1) := by decide +kernel
theorem dX3_readSign_27 : decode cX3_readSign 27 = .ok (.dup, 1) := by decide +kernel
theorem dX3_readSign_28 : decode cX3_readSign 28 = .ok (.getfield 19, 3) := by decide +kernel
theorem dX3_readSign_31 : decode cX3_readSign 31 = .ok (.iconst 1, 1) := by decide +kernel
theorem dX3_readSign_32 : decode cX3_readSign 32 = .ok (.iadd, 1) := by decide +kernel
theorem dX3_readSign_33 : decode cX3_readSign 33 = .ok (.putfield 19, 3) := by decide +kernel
theorem dX3_readSign_36 : decode cX3_readSign 36 = .ok (.iconst 1, 1) := by decide +kernel
theorem dX3_readSign_37 : decode cX3_readSign 37 = .ok (.ireturn, 1) := by decide +kernel
theorem dX3_readNumber_0 : decode cX3_readNumber 0 = .ok (.aload_n 0, 1) := by decide +kernel
theorem dX3_readNumber_1 : decode cX3_readNumber 1 = .ok (.aload_n 0, 1) := by decide +kernel
theorem dX3_readNumber_2 : decode cX3_readNumber 2 = .ok (.getfield 19, 3) := by decide +kernel
theorem dX3_readNumber_5 : decode cX3_readNumber 5 = .ok (.invokevirtual 42, 3) := by decide +kernel
theorem dX3_readNumber_8 : decode cX3_readNumber 8 = .ok (.istore 4, 2) := by decide +kernel
theorem dX3_readNumber_10 : decode cX3_readNumber 10 = .ok (.iload 4, 2) := by decide +kernel
theorem dX3_readNumber_12 : decode cX3_readNumber 12 = .ok (.iload_n 2, 1) := by decide +kernel
theorem dX3_readNumber_13 : decode cX3_readNumber 13 = .ok (.if_icmp .ge 5, 3) := by decide +kernel
theorem dX3_readNumber_16 : decode cX3_readNumber 16 = .ok (.iconst 0, 1) := by decide +kernel
theorem dX3_readNumber_17 : decode cX3_readNumber 17 = .ok (.ireturn, 1) := by decide +kernel
theorem dX3_readNumber_18 : decode cX3_readNumber 18 = .ok (.aload_n 0, 1) := by decide +kernel
theorem dX3_readNumber_19 : decode cX3_readNumber 19 = .ok (.dup, 1) := by decide +kernel
theorem dX3_readNumber_20 : decode cX3_readNumber 20 = .ok (.getfield 19, 3) := by decide +kernel
theorem dX3_readNumber_23 : decode cX3_readNumber 23 = .ok (.iconst 1, 1) := by decide +kernel
theorem dX3_readNumber_24 : decode cX3_readNumber 24 = .ok (.iadd, 1) := by decide +kernel
theorem dX3_readNumber_25 : decode cX3_readNumber 25 = .ok (.putfield 19, 3) := by decide +kernel
theorem dX3_readNumber_28 : decode cX3_readNumber 28 = .ok (.aload_n 0, 1) := by decide +kernel
theorem dX3_readNumber_29 : decode cX3_readNumber 29 = .ok (.getfield 19, 3) := by decide +kernel
theorem dX3_readNumber_32 : decode cX3_readNumber 32 = .ok (.aload_n 0, 1) := by decide +kernel
theorem dX3_readNumber_33 : decode cX3_readNumber 33 = .ok (.getfield 27, 3) := by decide +kernel
theorem dX3_readNumber_36 : decode cX3_readNumber 36 = .ok (.if_icmp .ge 62, 3) := by decide +kernel
theorem dX3_readNumber_39 : decode cX3_readNumber 39 = .ok (.iload 4, 2) := by decide +kernel
theorem dX3_readNumber_41 : decode cX3_readNumber 41 = .ok (.ifCond .le 57, 3) := by decide +kernel
theorem dX3_readNumber_44 : decode cX3_readNumber 44 = .ok (.aload_n 0, 1) := by decide +kernel
theorem dX3_readNumber_45 : decode cX3_readNumber 45 = .ok (.aload_n 0, 1) := by decide +kernel
theorem dX3_readNumber_46 : decode cX3_readNumber 46 = .ok (.getfield 19, 3) := by decide +kernel
theorem dX3_readNumber_49 : decode cX3_readNumber 49 = .ok (.invokevirtual 42, 3) := by decide +kernel
theorem dX3_readNumber_52 : decode cX3_readNumber 52 = .ok (.istore 5, 2) := by decide +kernel
theorem dX3_readNumber_54 : decode cX3_readNumber 54 = .ok (.iload 5, 2) := by decide +kernel
theorem dX3_readNumber_56 : decode cX3_readNumber 56 = .ok (.iconst (-1), 1) := by decide +kernel
theorem dX3_readNumber_57 : decode cX3_readNumber 57 = .ok (.if_icmp .eq 41, 3) := by decide +kernel
theorem dX3_readNumber_60 : decode cX3_readNumber 60 = .ok (.bipush 10, 2) := by decide +kernel
theorem dX3_readNumber_62 : decode cX3_readNumber 62 = .ok (.iload 4, 2) := by decide +kernel
theorem dX3_readNumber_64 : decode cX3_readNumber 64 = .ok (.imul, 1) := by decide +kernel
theorem dX3_readNumber_65 : decode cX3_readNumber 65 = .ok (.iload 5, 2) := by decide +kernel
theorem dX3_readNumber_67 : decode cX3_readNumber 67 = .ok (.iadd, 1) := by decide +kernel
theorem dX3_readNumber_68 : decode cX3_readNumber 68 = .ok (.iload_n 3, 1) := by decide +kernel
theorem dX3_readNumber_69 : decode cX3_readNumber 69 = .ok (.if_icmp .le 6, 3) := by decide +kernel
theorem dX3_readNumber_72 : decode cX3_readNumber 72 = .ok (.goto 26, 3) := by decide +kernel
theorem dX3_readNumber_75 : decode cX3_readNumber 75 = .ok (.bipush 10, 2) := by decide +kernel
theorem dX3_readNumber_77 : decode cX3_readNumber 77 = .ok (.iload 4, 2) := by decide +kernel
theorem dX3_readNumber_79 : decode cX3_readNumber 79 = .ok (.imul, 1) := by decide +kernel
theorem dX3_readNumber_80 : decode cX3_readNumber 80 = .ok (.iload 5, 2) := by decide +kernel
theorem dX3_readNumber_82 : decode cX3_readNumber 82 = .ok (.iadd, 1) := by decide +kernel
theorem dX3_readNumber_83 : decode cX3_readNumber 83 = .ok (.istore 4, 2) := by decide +kernel
theorem dX3_readNumber_85 : decode cX3_readNumber 85 = .ok (.aload_n 0, 1) := by decide +kernel
theorem dX3_readNumber_86 : decode cX3_readNumber 86 = .ok (.dup, 1) := by decide +kernel
theorem dX3_readNumber_87 : decode cX3_readNumber 87 = .ok (.getfield 19, 3) := by decide +kernel
theorem dX3_readNumber_90 : decode cX3_readNumber 90 = .ok (.iconst 1, 1) := by decide +kernel
theorem dX3_readNumber_91 : decode cX3_readNumber 91 = .ok (.iadd, 1) := by decide +kernel
theorem dX3_readNumber_92 : decode cX3_readNumber 92 = .ok (.putfield 19, 3) := by decide +kernel
theorem dX3_readNumber_95 : decode cX3_readNumber 95 = .ok (.goto (-67), 3) := by decide +kernel
theorem dX3_readNumber_98 : decode cX3_readNumber 98 = .ok (.aload_n 0, 1) := by decide +kernel
theorem dX3_readNumber_99 : decode cX3_readNumber 99 = .ok (.getfield 15, 3) := by decide +kernel
theorem dX3_readNumber_102 : decode cX3_readNumber 102 = .ok (.iload_n 1, 1) := by decide +kernel
theorem dX3_readNumber_103 : decode cX3_readNumber 103 = .ok (.iload 4, 2) := by decide +kernel
theorem dX3_readNumber_105 : decode cX3_readNumber 105 = .ok (.iastore, 1) := by decide +kernel
theorem dX3_readNumber_106 : decode cX3_readNumber 106 = .ok (.iconst 1, 1) := by decide +kernel
theorem dX3_readNumber_107 : decode cX3_readNumber 107 = .ok (.ireturn, 1) := by decide +kernel
theorem dX3_digitAt_0 : decode cX3_digitAt 0 = .ok (.iload_n 1, 1) := by decide +kernel
theorem dX3_digitAt_1 : decode cX3_digitAt 1 = .ok (.aload_n 0, 1) := by decide +kernel
theorem dX3_digitAt_2 : decode cX3_digitAt 2 = .ok (.getfield 27, 3) := by decide +kernel
theorem dX3_digitAt_5 : decode cX3_digitAt 5 = .ok (.if_icmp .ge 25, 3) := by decide +kernel
theorem dX3_digitAt_8 : decode cX3_digitAt 8 = .ok (.aload_n 0, 1) := by decide +kernel
theorem dX3_digitAt_9 : decode cX3_digitAt 9 = .ok (.getfield 9, 3) := by decide +kernel
theorem dX3_digitAt_12 : decode cX3_digitAt 12 = .ok (.iload_n 1, 1) := by decide +kernel
theorem dX3_digitAt_13 : decode cX3_digitAt 13 = .ok (.caload, 1) := by decide +kernel
theorem dX3_digitAt_14 : decode cX3_digitAt 14 = .ok (.bipush 48, 2) := by decide +kernel
theorem dX3_digitAt_16 : decode cX3_digitAt 16 = .ok (.if_icmp .lt 14, 3) := by decide +kernel
theorem dX3_digitAt_19 : decode cX3_digitAt 19 = .ok (.aload_n 0, 1) := by decide +kernel
theorem dX3_digitAt_20 : decode cX3_digitAt 20 = .ok (.getfield 9, 3) := by decide +kernel
theorem dX3_digitAt_23 : decode cX3_digitAt 23 = .ok (.iload_n 1, 1) := by decide +kernel
theorem dX3_digitAt_24 : decode cX3_digitAt 24 = .ok (.caload, 1) := by decide +kernel
theorem dX3_digitAt_25 : decode cX3_digitAt 25 = .ok (.bipush 57, 2) := by decide +kernel
theorem dX3_digitAt_27 : decode cX3_digitAt 27 = .ok (.if_icmp .le 5, 3) := by decide +kernel
theorem dX3_digitAt_30 : decode cX3_digitAt 30 = .ok (.iconst (-1), 1) := by decide +kernel
theorem dX3_digitAt_31 : decode cX3_digitAt 31 = .ok (.ireturn, 1) := by decide +kernel
theorem dX3_digitAt_32 : decode cX3_digitAt 32 = .ok (.aload_n 0, 1) := by decide +kernel
theorem dX3_digitAt_33 : decode cX3_digitAt 33 = .ok (.getfield 9, 3) := by decide +kernel
theorem dX3_digitAt_36 : decode cX3_digitAt 36 = .ok (.iload_n 1, 1) := by decide +kernel
theorem dX3_digitAt_37 : decode cX3_digitAt 37 = .ok (.caload, 1) := by decide +kernel
theorem dX3_digitAt_38 : decode cX3_digitAt 38 = .ok (.bipush 48, 2) := by decide +kernel
theorem dX3_digitAt_40 : decode cX3_digitAt 40 = .ok (.isub, 1) := by decide +kernel
theorem dX3_digitAt_41 : decode cX3_digitAt 41 = .ok (.ireturn, 1) := by decide +kernel
theorem dX4_init_0 : decode cX4_init 0 = .ok (.aload_n 0, 1) := by decide +kernel
theorem dX4_init_1 : decode cX4_init 1 = .ok (.invokespecial 3, 3) := by decide +kernel
theorem dX4_init_4 : decode cX4_init 4 = .ok (.aload_n 0, 1) := by decide +kernel
theorem dX4_init_5 : decode cX4_init 5 = .ok (.iconst (-1), 1) := by decide +kernel
theorem dX4_init_6 : decode cX4_init 6 = .ok (.putfield 9, 3) := by decide +kernel
theorem dX4_init_9 : decode cX4_init 9 = .ok (.aload_n 0, 1) := by decide +kernel
theorem dX4_init_10 : decode cX4_init 10 = .ok (.iconst (-1), 1) := by decide +kernel
theorem dX4_init_11 : decode cX4_init 11 = .ok (.putfield 15, 3) := by decide +kernel
theorem dX4_init_14 : decode cX4_init 14 = .ok (.return_, 1) := by decide +kernel
theorem dX4_wantsAt_0 : decode cX4_wantsAt 0 = .ok (.aload_n 0, 1) := by decide +kernel
theorem dX4_wantsAt_1 : decode cX4_wantsAt 1 = .ok (.getfield 18, 3) := by decide +kernel
theorem dX4_wantsAt_4 : decode cX4_wantsAt 4 = .ok (.aload_n 0, 1) := by decide +kernel
theorem dX4_wantsAt_5 : decode cX4_wantsAt 5 = .ok (.getfield 21, 3) := by decide +kernel
theorem dX4_wantsAt_8 : decode cX4_wantsAt 8 = .ok (.if_icmp .ge 25, 3) := by decide +kernel
theorem dX4_wantsAt_11 : decode cX4_wantsAt 11 = .ok (.iload_n 1, 1) := by decide +kernel
theorem dX4_wantsAt_12 : decode cX4_wantsAt 12 = .ok (.aload_n 0, 1) := by decide +kernel
theorem dX4_wantsAt_13 : decode cX4_wantsAt 13 = .ok (.getfield 21, 3) := by decide +kernel
theorem dX4_wantsAt_16 : decode cX4_wantsAt 16 = .ok (.if_icmp .ge 11, 3) := by decide +kernel
theorem dX4_wantsAt_19 : decode cX4_wantsAt 19 = .ok (.iload_n 1, 1) := by decide +kernel
theorem dX4_wantsAt_20 : decode cX4_wantsAt 20 = .ok (.aload_n 0, 1) := by decide +kernel
theorem dX4_wantsAt_21 : decode cX4_wantsAt 21 = .ok (.getfield 18, 3) := by decide +kernel
theorem dX4_wantsAt_24 : decode cX4_wantsAt 24 = .ok (.if_icmp .gt 7, 3) := by decide +kernel
theorem dX4_wantsAt_27 : decode cX4_wantsAt 27 = .ok (.iconst 1, 1) := by decide +kernel
theorem dX4_wantsAt_28 : decode cX4_wantsAt 28 = .ok (.goto 4, 3) := by decide +kernel
theorem dX4_wantsAt_31 : decode cX4_wantsAt 31 = .ok (.iconst 0, 1) := by decide +kernel
theorem dX4_wantsAt_32 : decode cX4_wantsAt 32 = .ok (.ireturn, 1) := by decide +kernel
theorem dX4_wantsAt_33 : decode cX4_wantsAt 33 = .ok (.iload_n 1, 1) := by decide +kernel
theorem dX4_wantsAt_34 : decode cX4_wantsAt 34 = .ok (.aload_n 0, 1) := by decide +kernel
theorem dX4_wantsAt_35 : decode cX4_wantsAt 35 = .ok (.getfield 21, 3) := by decide +kernel
theorem dX4_wantsAt_38 : decode cX4_wantsAt 38 = .ok (.if_icmp .lt 15, 3) := by decide +kernel
theorem dX4_wantsAt_41 : decode cX4_wantsAt 41 = .ok (.iload_n 1, 1) := by decide +kernel
theorem dX4_wantsAt_42 : decode cX4_wantsAt 42 = .ok (.aload_n 0, 1) := by decide +kernel
theorem dX4_wantsAt_43 : decode cX4_wantsAt 43 = .ok (.getfield 18, 3) := by decide +kernel
theorem dX4_wantsAt_46 : decode cX4_wantsAt 46 = .ok (.if_icmp .gt 7, 3) := by decide +kernel
theorem dX4_wantsAt_49 : decode cX4_wantsAt 49 = .ok (.iconst 1, 1) := by decide +kernel
theorem dX4_wantsAt_50 : decode cX4_wantsAt 50 = .ok (.goto 4, 3) := by decide +kernel
theorem dX4_wantsAt_53 : decode cX4_wantsAt 53 = .ok (.iconst 0, 1) := by decide +kernel
theorem dX4_wantsAt_54 : decode cX4_wantsAt 54 = .ok (.ireturn, 1) := by decide +kernel
theorem dX4_begin_0 : decode cX4_begin 0 = .ok (.aload_n 0, 1) := by decide +kernel
theorem dX4_begin_1 : decode cX4_begin 1 = .ok (.iload_n 1, 1) := by decide +kernel
theorem dX4_begin_2 : decode cX4_begin 2 = .ok (.putfield 24, 3) := by decide +kernel
theorem dX4_begin_5 : decode cX4_begin 5 = .ok (.aload_n 0, 1) := by decide +kernel
theorem dX4_begin_6 : decode cX4_begin 6 = .ok (.iload_n 2, 1) := by decide +kernel
theorem dX4_begin_7 : decode cX4_begin 7 = .ok (.putfield 21, 3) := by decide +kernel
theorem dX4_begin_10 : decode cX4_begin 10 = .ok (.aload_n 0, 1) := by decide +kernel
theorem dX4_begin_11 : decode cX4_begin 11 = .ok (.iload_n 3, 1) := by decide +kernel
theorem dX4_begin_12 : decode cX4_begin 12 = .ok (.putfield 18, 3) := by decide +kernel
theorem dX4_begin_15 : decode cX4_begin 15 = .ok (.aload_n 0, 1) := by decide +kernel
theorem dX4_begin_16 : decode cX4_begin 16 = .ok (.iload 4, 2) := by decide +kernel
theorem dX4_begin_18 : decode cX4_begin 18 = .ok (.putfield 27, 3) := by decide +kernel
theorem dX4_begin_21 : decode cX4_begin 21 = .ok (.aload_n 0, 1) := by decide +kernel
theorem dX4_begin_22 : decode cX4_begin 22 = .ok (.iconst (-1), 1) := by decide +kernel
theorem dX4_begin_23 : decode cX4_begin 23 = .ok (.putfield 9, 3) := by decide +kernel
theorem dX4_begin_26 : decode cX4_begin 26 = .ok (.aload_n 0, 1) := by decide +kernel
theorem dX4_begin_27 : decode cX4_begin 27 = .ok (.iconst 0, 1) := by decide +kernel
theorem dX4_begin_28 : decode cX4_begin 28 = .ok (.putfield 30, 3) := by decide +kernel
theorem dX4_begin_31 : decode cX4_begin 31 = .ok (.aload_n 0, 1) := by decide +kernel
theorem dX4_begin_32 : decode cX4_begin 32 = .ok (.iconst 0, 1) := by decide +kernel
theorem dX4_begin_33 : decode cX4_begin 33 = .ok (.putfield 34, 3) := by decide +kernel
theorem dX4_begin_36 : decode cX4_begin 36 = .ok (.aload_n 0, 1) := by decide +kernel
theorem dX4_begin_37 : decode cX4_begin 37 = .ok (.iconst 0, 1) := by decide +kernel
theorem dX4_begin_38 : decode cX4_begin 38 = .ok (.putfield 37, 3) := by decide +kernel
theorem dX4_begin_41 : decode cX4_begin 41 = .ok (.return_, 1) := by decide +kernel
theorem dX4_copyFrom_0 : decode cX4_copyFrom 0 = .ok (.aload_n 0, 1) := by decide +kernel
theorem dX4_copyFrom_1 : decode cX4_copyFrom 1 = .ok (.aload_n 1, 1) := by decide +kernel
theorem dX4_copyFrom_2 : decode cX4_copyFrom 2 = .ok (.getfield 24, 3) := by decide +kernel
theorem dX4_copyFrom_5 : decode cX4_copyFrom 5 = .ok (.putfield 24, 3) := by decide +kernel
theorem dX4_copyFrom_8 : decode cX4_copyFrom 8 = .ok (.aload_n 0, 1) := by decide +kernel
theorem dX4_copyFrom_9 : decode cX4_copyFrom 9 = .ok (.aload_n 1, 1) := by decide +kernel
theorem dX4_copyFrom_10 : decode cX4_copyFrom 10 = .ok (.getfield 21, 3) := by decide +kernel
theorem dX4_copyFrom_13 : decode cX4_copyFrom 13 = .ok (.putfield 21, 3) := by decide +kernel
theorem dX4_copyFrom_16 : decode cX4_copyFrom 16 = .ok (.aload_n 0, 1) := by decide +kernel
theorem dX4_copyFrom_17 : decode cX4_copyFrom 17 = .ok (.aload_n 1, 1) := by decide +kernel
theorem dX4_copyFrom_18 : decode cX4_copyFrom 18 = .ok (.getfield 18, 3) := by decide +kernel
theorem dX4_copyFrom_21 : decode cX4_copyFrom 21 = .ok (.putfield 18, 3) := by decide +kernel
theorem dX4_copyFrom_24 : decode cX4_copyFrom 24 = .ok (.aload_n 0, 1) := by decide +kernel
theorem dX4_copyFrom_25 : decode cX4_copyFrom 25 = .ok (.aload_n 1, 1) := by decide +kernel
theorem dX4_copyFrom_26 : decode cX4_copyFrom 26 = .ok (.getfield 27, 3) := by decide +kernel
theorem dX4_copyFrom_29 : decode cX4_copyFrom 29 = .ok (.putfield 27, 3) := by decide +kernel
theorem dX4_copyFrom_32 : decode cX4_copyFrom 32 = .ok (.aload_n 0, 1) := by decide +kernel
theorem dX4_copyFrom_33 : decode cX4_copyFrom 33 = .ok (.aload_n 1, 1) := by decide +kernel
theorem dX4_copyFrom_34 : decode cX4_copyFrom 34 = .ok (.getfield 9, 3) := by decide +kernel
theorem dX4_copyFrom_37 : decode cX4_copyFrom 37 = .ok (.putfield 9, 3) := by decide +kernel
theorem dX4_copyFrom_40 : decode cX4_copyFrom 40 = .ok (.aload_n 0, 1) := by decide +kernel
theorem dX4_copyFrom_41 : decode cX4_copyFrom 41 = .ok (.aload_n 1, 1) := by decide +kernel
theorem dX4_copyFrom_42 : decode cX4_copyFrom 42 = .ok (.getfield 30, 3) := by decide +kernel
theorem dX4_copyFrom_45 : decode cX4_copyFrom 45 = .ok (.putfield 30, 3) := by decide +kernel
theorem dX4_copyFrom_48 : decode cX4_copyFrom 48 = .ok (.aload_n 0, 1) := by decide +kernel
theorem dX4_copyFrom_49 : decode cX4_copyFrom 49 = .ok (.aload_n 1, 1) := by decide +kernel
theorem dX4_copyFrom_50 : decode cX4_copyFrom 50 = .ok (.getfield 34, 3) := by decide +kernel
theorem dX4_copyFrom_53 : decode cX4_copyFrom 53 = .ok (.putfield 34, 3) := by decide +kernel
theorem dX4_copyFrom_56 : decode cX4_copyFrom 56 = .ok (.aload_n 0, 1) := by decide +kernel
theorem dX4_copyFrom_57 : decode cX4_copyFrom 57 = .ok (.aload_n 1, 1) := by decide +kernel
theorem dX4_copyFrom_58 : decode cX4_copyFrom 58 = .ok (.getfield 37, 3) := by decide +kernel
theorem dX4_copyFrom_61 : decode cX4_copyFrom 61 = .ok (.putfield 37, 3) := by decide +kernel
theorem dX4_copyFrom_64 : decode cX4_copyFrom 64 = .ok (.return_, 1) := by decide +kernel
end
section
theorem dX5_init_0 : decode cX5_init 0 = .ok (.aload_n 0, 1) := by decide +kernel
theorem dX5_init_1 : decode cX5_init 1 = .ok (.invokespecial 1, 3) := by decide +kernel
theorem dX5_init_4 : decode cX5_init 4 = .ok (.aload_n 0, 1) := by decide +kernel
theorem dX5_init_5 : decode cX5_init 5 = .ok (.new 7, 3) := by decide +kernel
theorem dX5_init_8 : decode cX5_init 8 = .ok (.dup, 1) := by decide +kernel
theorem dX5_init_9 : decode cX5_init 9 = .ok (.invokespecial 9, 3) := by decide +kernel
theorem dX5_init_12 : decode cX5_init 12 = .ok (.putfield 10, 3) := by decide +kernel
theorem dX5_init_15 : decode cX5_init 15 = .ok (.aload_n 0, 1) := by decide +kernel
theorem dX5_init_16 : decode cX5_init 16 = .ok (.new 7, 3) := by decide +kernel
theorem dX5_init_19 : decode cX5_init 19 = .ok (.dup, 1) := by decide +kernel
theorem dX5_init_20 : decode cX5_init 20 = .ok (.invokespecial 9, 3) := by decide +kernel
theorem dX5_init_23 : decode cX5_init 23 = .ok (.putfield 16, 3) := by decide +kernel
theorem dX5_init_26 : decode cX5_init 26 = .ok (.aload_n 0, 1) := by decide +kernel
theorem dX5_init_27 : decode cX5_init 27 = .ok (.iconst 2, 1) := by decide +kernel
theorem dX5_init_28 : decode cX5_init 28 = .ok (.anewarray 7, 3) := by decide +kernel
theorem dX5_init_31 : decode cX5_init 31 = .ok (.putfield 19, 3) := by decide +kernel
theorem dX5_init_34 : decode cX5_init 34 = .ok (.iconst 0, 1) := by decide +kernel
theorem dX5_init_35 : decode cX5_init 35 = .ok (.istore_n 1, 1) := by decide +kernel
theorem dX5_init_36 : decode cX5_init 36 = .ok (.iload_n 1, 1) := by decide +kernel
theorem dX5_init_37 : decode cX5_init 37 = .ok (.iconst 2, 1) := by decide +kernel
theorem dX5_init_38 : decode cX5_init 38 = .ok (.if_icmp .ge 22, 3) := by decide +kernel
theorem dX5_init_41 : decode cX5_init 41 = .ok (.aload_n 0, 1) := by decide +kernel
theorem dX5_init_42 : decode cX5_init 42 = .ok (.getfield 19, 3) := by decide +kernel
theorem dX5_init_45 : decode cX5_init 45 = .ok (.iload_n 1, 1) := by decide +kernel
theorem dX5_init_46 : decode cX5_init 46 = .ok (.new 7, 3) := by decide +kernel
theorem dX5_init_49 : decode cX5_init 49 = .ok (.dup, 1) := by decide +kernel
theorem dX5_init_50 : decode cX5_init 50 = .ok (.invokespecial 9, 3) := by decide +kernel
theorem dX5_init_53 : decode cX5_init 53 = .ok (.aastore, 1) := by decide +kernel
theorem dX5_init_54 : decode cX5_init 54 = .ok (.iinc 1 1, 3) := by decide +kernel
theorem dX5_init_57 : decode cX5_init 57 = .ok (.goto (-21), 3) := by decide +kernel
theorem dX5_init_60 : decode cX5_init 60 = .ok (.aload_n 0, 1) := by decide +kernel
theorem dX5_init_61 : decode cX5_init 61 = .ok (.iconst 2, 1) := by decide +kernel
theorem dX5_init_62 : decode cX5_init 62 = .ok (.newarray .boolean, 2) := by decide +kernel
theorem dX5_init_64 : decode cX5_init 64 = .ok (.putfield 23, 3) := by decide +kernel
theorem dX5_init_67 : decode cX5_init 67 = .ok (.aload_n 0, 1) := by decide +kernel
theorem dX5_init_68 : decode cX5_init 68 = .ok (.new 27, 3) := by decide +kernel
theorem dX5_init_71 : decode cX5_init 71 = .ok (.dup, 1) := by decide +kernel
theorem dX5_init_72 : decode cX5_init 72 = .ok (.invokespecial 29, 3) := by decide +kernel
theorem dX5_init_75 : decode cX5_init 75 = .ok (.putfield 30, 3) := by decide +kernel
theorem dX5_init_78 : decode cX5_init 78 = .ok (.aload_n 0, 1) := by decide +kernel
theorem dX5_init_79 : decode cX5_init 79 = .ok (.new 34, 3) := by decide +kernel
theorem dX5_init_82 : decode cX5_init 82 = .ok (.dup, 1) := by decide +kernel
theorem dX5_init_83 : decode cX5_init 83 = .ok (.invokespecial 36, 3) := by decide +kernel
theorem dX5_init_86 : decode cX5_init 86 = .ok (.putfield 37, 3) := by decide +kernel
theorem dX5_init_89 : decode cX5_init 89 = .ok (.return_, 1) := by decide +kernel
theorem dX5_stall_0 : decode cX5_stall 0 = .ok (.iload_n 1, 1) := by decide +kernel
theorem dX5_stall_1 : decode cX5_stall 1 = .ok (.iconst 1, 1) := by decide +kernel
theorem dX5_stall_2 : decode cX5_stall 2 = .ok (.if_icmp .lt 23, 3) := by decide +kernel
theorem dX5_stall_5 : decode cX5_stall 5 = .ok (.iload_n 1, 1) := by decide +kernel
theorem dX5_stall_6 : decode cX5_stall 6 = .ok (.sipush 500, 3) := by decide +kernel
theorem dX5_stall_9 : decode cX5_stall 9 = .ok (.if_icmp .gt 16, 3) := by decide +kernel
theorem dX5_stall_12 : decode cX5_stall 12 = .ok (.iload 4, 2) := by decide +kernel
theorem dX5_stall_14 : decode cX5_stall 14 = .ok (.iconst 1, 1) := by decide +kernel
theorem dX5_stall_15 : decode cX5_stall 15 = .ok (.if_icmp .lt 10, 3) := by decide +kernel
theorem dX5_stall_18 : decode cX5_stall 18 = .ok (.iload 4, 2) := by decide +kernel
theorem dX5_stall_20 : decode cX5_stall 20 = .ok (.bipush 9, 2) := by decide +kernel
theorem dX5_stall_22 : decode cX5_stall 22 = .ok (.if_icmp .le 13, 3) := by decide +kernel
theorem dX5_stall_25 : decode cX5_stall 25 = .ok (.new 41, 3) := by decide +kernel
theorem dX5_stall_28 : decode cX5_stall 28 = .ok (.dup, 1) := by decide +kernel
theorem dX5_stall_29 : decode cX5_stall 29 = .ok (.ldc 43, 2) := by decide +kernel
theorem dX5_stall_31 : decode cX5_stall 31 = .ok (.invokespecial 45, 3) := by decide +kernel
theorem dX5_stall_34 : decode cX5_stall 34 = .ok (.athrow, 1) := by decide +kernel
theorem dX5_stall_35 : decode cX5_stall 35 = .ok (.iload_n 2, 1) := by decide +kernel
theorem dX5_stall_36 : decode cX5_stall 36 = .ok (.ifCond .lt 19, 3) := by decide +kernel
theorem dX5_stall_39 : decode cX5_stall 39 = .ok (.iload_n 2, 1) := by decide +kernel
theorem dX5_stall_40 : decode cX5_stall 40 = .ok (.bipush 24, 2) := by decide +kernel
theorem dX5_stall_42 : decode cX5_stall 42 = .ok (.if_icmp .ge 13, 3) := by decide +kernel
theorem dX5_stall_45 : decode cX5_stall 45 = .ok (.iload_n 3, 1) := by decide +kernel
theorem dX5_stall_46 : decode cX5_stall 46 = .ok (.ifCond .lt 9, 3) := by decide +kernel
theorem dX5_stall_49 : decode cX5_stall 49 = .ok (.iload_n 3, 1) := by decide +kernel
theorem dX5_stall_50 : decode cX5_stall 50 = .ok (.bipush 24, 2) := by decide +kernel
theorem dX5_stall_52 : decode cX5_stall 52 = .ok (.if_icmp .lt 13, 3) := by decide +kernel
theorem dX5_stall_55 : decode cX5_stall 55 = .ok (.new 41, 3) := by decide +kernel
theorem dX5_stall_58 : decode cX5_stall 58 = .ok (.dup, 1) := by decide +kernel
theorem dX5_stall_59 : decode cX5_stall 59 = .ok (.ldc 48, 2) := by decide +kernel
theorem dX5_stall_61 : decode cX5_stall 61 = .ok (.invokespecial 45, 3) := by decide +kernel
theorem dX5_stall_64 : decode cX5_stall 64 = .ok (.athrow, 1) := by decide +kernel
theorem dX5_stall_65 : decode cX5_stall 65 = .ok (.aload_n 0, 1) := by decide +kernel
theorem dX5_stall_66 : decode cX5_stall 66 = .ok (.getfield 10, 3) := by decide +kernel
theorem dX5_stall_69 : decode cX5_stall 69 = .ok (.invokevirtual 50, 3) := by decide +kernel
theorem dX5_stall_72 : decode cX5_stall 72 = .ok (.ifCond .eq 13, 3) := by decide +kernel
theorem dX5_stall_75 : decode cX5_stall 75 = .ok (.new 54, 3) := by decide +kernel
theorem dX5_stall_78 : decode cX5_stall 78 = .ok (.dup, 1) := by decide +kernel
theorem dX5_stall_79 : decode cX5_stall 79 = .ok (.ldc 56, 2) := by decide +kernel
theorem dX5_stall_81 : decode cX5_stall 81 = .ok (.invokespecial 58, 3) := by decide +kernel
theorem dX5_stall_84 : decode cX5_stall 84 = .ok (.athrow, 1) := by decide +kernel
theorem dX5_stall_85 : decode cX5_stall 85 = .ok (.aload_n 0, 1) := by decide +kernel
theorem dX5_stall_86 : decode cX5_stall 86 = .ok (.getfield 30, 3) := by decide +kernel
theorem dX5_stall_89 : decode cX5_stall 89 = .ok (.aload_n 0, 1) := by decide +kernel
theorem dX5_stall_90 : decode cX5_stall 90 = .ok (.getfield 10, 3) := by decide +kernel
theorem dX5_stall_93 : decode cX5_stall 93 = .ok (.invokevirtual 59, 3) := by decide +kernel
theorem dX5_stall_96 : decode cX5_stall 96 = .ok (.aload_n 0, 1) := by decide +kernel
theorem dX5_stall_97 : decode cX5_stall 97 = .ok (.getfield 10, 3) := by decide +kernel
theorem dX5_stall_100 : decode cX5_stall 100 = .ok (.iload_n 1, 1) := by decide +kernel
theorem dX5_stall_101 : decode cX5_stall 101 = .ok (.iload_n 2, 1) := by decide +kernel
theorem dX5_stall_102 : decode cX5_stall 102 = .ok (.iload_n 3, 1) := by decide +kernel
theorem dX5_stall_103 : decode cX5_stall 103 = .ok (.iload 4, 2) := by decide +kernel
theorem dX5_stall_105 : decode cX5_stall 105 = .ok (.invokevirtual 63, 3) := by decide +kernel
theorem dX5_stall_108 : decode cX5_stall 108 = .ok (.ireturn, 1) := by decide +kernel
theorem dX5_plug_0 : decode cX5_plug 0 = .ok (.aload_n 0, 1) := by decide +kernel
theorem dX5_plug_1 : decode cX5_plug 1 = .ok (.iload_n 1, 1) := by decide +kernel
theorem dX5_plug_2 : decode cX5_plug 2 = .ok (.invokevirtual 67, 3) := by decide +kernel
theorem dX5_plug_5 : decode cX5_plug 5 = .ok (.iload_n 2, 1) := by decide +kernel
theorem dX5_plug_6 : decode cX5_plug 6 = .ok (.iconst 0, 1) := by decide +kernel
theorem dX5_plug_7 : decode cX5_plug 7 = .ok (.bipush 11, 2) := by decide +kernel
theorem dX5_plug_9 : decode cX5_plug 9 = .ok (.invokestatic 71, 3) := by decide +kernel
theorem dX5_plug_12 : decode cX5_plug 12 = .ok (.aload_n 0, 1) := by decide +kernel
theorem dX5_plug_13 : decode cX5_plug 13 = .ok (.getfield 10, 3) := by decide +kernel
theorem dX5_plug_16 : decode cX5_plug 16 = .ok (.iload_n 2, 1) := by decide +kernel
theorem dX5_plug_17 : decode cX5_plug 17 = .ok (.invokevirtual 75, 3) := by decide +kernel
theorem dX5_plug_20 : decode cX5_plug 20 = .ok (.iconst (-1), 1) := by decide +kernel
theorem dX5_plug_21 : decode cX5_plug 21 = .ok (.if_icmp .eq 13, 3) := by decide +kernel
theorem dX5_plug_24 : decode cX5_plug 24 = .ok (.new 54, 3) := by decide +kernel
theorem dX5_plug_27 : decode cX5_plug 27 = .ok (.dup, 1) := by decide +kernel
theorem dX5_plug_28 : decode cX5_plug 28 = .ok (.ldc 79, 2) := by decide +kernel
theorem dX5_plug_30 : decode cX5_plug 30 = .ok (.invokespecial 58, 3) := by decide +kernel
theorem dX5_plug_33 : decode cX5_plug 33 = .ok (.athrow, 1) := by decide +kernel
theorem dX5_plug_34 : decode cX5_plug 34 = .ok (.aload_n 0, 1) := by decide +kernel
theorem dX5_plug_35 : decode cX5_plug 35 = .ok (.getfield 30, 3) := by decide +kernel
theorem dX5_plug_38 : decode cX5_plug 38 = .ok (.aload_n 0, 1) := by decide +kernel
theorem dX5_plug_39 : decode cX5_plug 39 = .ok (.getfield 10, 3) := by decide +kernel
theorem dX5_plug_42 : decode cX5_plug 42 = .ok (.invokevirtual 59, 3) := by decide +kernel
theorem dX5_plug_45 : decode cX5_plug 45 = .ok (.aload_n 0, 1) := by decide +kernel
theorem dX5_plug_46 : decode cX5_plug 46 = .ok (.getfield 10, 3) := by decide +kernel
theorem dX5_plug_49 : decode cX5_plug 49 = .ok (.iload_n 1, 1) := by decide +kernel
theorem dX5_plug_50 : decode cX5_plug 50 = .ok (.iload_n 2, 1) := by decide +kernel
theorem dX5_plug_51 : decode cX5_plug 51 = .ok (.invokevirtual 81, 3) := by decide +kernel
theorem dX5_plug_54 : decode cX5_plug 54 = .ok (.ireturn, 1) := by decide +kernel
theorem dX5_pull_0 : decode cX5_pull 0 = .ok (.aload_n 0, 1) := by decide +kernel
theorem dX5_pull_1 : decode cX5_pull 1 = .ok (.iload_n 1, 1) := by decide +kernel
theorem dX5_pull_2 : decode cX5_pull 2 = .ok (.invokevirtual 67, 3) := by decide +kernel
theorem dX5_pull_5 : decode cX5_pull 5 = .ok (.aload_n 0, 1) := by decide +kernel
theorem dX5_pull_6 : decode cX5_pull 6 = .ok (.getfield 10, 3) := by decide +kernel
theorem dX5_pull_9 : decode cX5_pull 9 = .ok (.getfield 85, 3) := by decide +kernel
theorem dX5_pull_12 : decode cX5_pull 12 = .ok (.iload_n 1, 1) := by decide +kernel
theorem dX5_pull_13 : decode cX5_pull 13 = .ok (.aaload, 1) := by decide +kernel
theorem dX5_pull_14 : decode cX5_pull 14 = .ok (.getfield 89, 3) := by decide +kernel
theorem dX5_pull_17 : decode cX5_pull 17 = .ok (.iconst (-1), 1) := by decide +kernel
theorem dX5_pull_18 : decode cX5_pull 18 = .ok (.if_icmp .ne 13, 3) := by decide +kernel
theorem dX5_pull_21 : decode cX5_pull 21 = .ok (.new 54, 3) := by decide +kernel
theorem dX5_pull_24 : decode cX5_pull 24 = .ok (.dup, 1) := by decide +kernel
theorem dX5_pull_25 : decode cX5_pull 25 = .ok (.ldc 95, 2) := by decide +kernel
theorem dX5_pull_27 : decode cX5_pull 27 = .ok (.invokespecial 58, 3) := by decide +kernel
theorem dX5_pull_30 : decode cX5_pull 30 = .ok (.athrow, 1) := by decide +kernel
theorem dX5_pull_31 : decode cX5_pull 31 = .ok (.aload_n 0, 1) := by decide +kernel
theorem dX5_pull_32 : decode cX5_pull 32 = .ok (.getfield 30, 3) := by decide +kernel
theorem dX5_pull_35 : decode cX5_pull 35 = .ok (.aload_n 0, 1) := by decide +kernel
theorem dX5_pull_36 : decode cX5_pull 36 = .ok (.getfield 10, 3) := by decide +kernel
theorem dX5_pull_39 : decode cX5_pull 39 = .ok (.invokevirtual 59, 3) := by decide +kernel
theorem dX5_pull_42 : decode cX5_pull 42 = .ok (.aload_n 0, 1) := by decide +kernel
theorem dX5_pull_43 : decode cX5_pull 43 = .ok (.getfield 10, 3) := by decide +kernel
theorem dX5_pull_46 : decode cX5_pull 46 = .ok (.iload_n 1, 1) := by decide +kernel
theorem dX5_pull_47 : decode cX5_pull 47 = .ok (.iconst (-1), 1) := by decide +kernel
theorem dX5_pull_48 : decode cX5_pull 48 = .ok (.invokevirtual 81, 3) := by decide +kernel
theorem dX5_pull_51 : decode cX5_pull 51 = .ok (.ireturn, 1) := by decide +kernel
theorem dX5_shed_0 : decode cX5_shed 0 = .ok (.aload_n 0, 1) := by decide +kernel
theorem dX5_shed_1 : decode cX5_shed 1 = .ok (.iload_n 1, 1) := by decide +kernel
theorem dX5_shed_2 : decode cX5_shed 2 = .ok (.invokevirtual 67, 3) := by decide +kernel
theorem dX5_shed_5 : decode cX5_shed 5 = .ok (.aload_n 0, 1) := by decide +kernel
theorem dX5_shed_6 : decode cX5_shed 6 = .ok (.getfield 30, 3) := by decide +kernel
theorem dX5_shed_9 : decode cX5_shed 9 = .ok (.aload_n 0, 1) := by decide +kernel
theorem dX5_shed_10 : decode cX5_shed 10 = .ok (.getfield 10, 3) := by decide +kernel
theorem dX5_shed_13 : decode cX5_shed 13 = .ok (.invokevirtual 59, 3) := by decide +kernel
theorem dX5_shed_16 : decode cX5_shed 16 = .ok (.aload_n 0, 1) := by decide +kernel
theorem dX5_shed_17 : decode cX5_shed 17 = .ok (.getfield 10, 3) := by decide +kernel
theorem dX5_shed_20 : decode cX5_shed 20 = .ok (.getfield 85, 3) := by decide +kernel
theorem dX5_shed_23 : decode cX5_shed 23 = .ok (.iload_n 1, 1) := by decide +kernel
theorem dX5_shed_24 : decode cX5_shed 24 = .ok (.aaload, 1) := by decide +kernel
theorem dX5_shed_25 : decode cX5_shed 25 = .ok (.astore_n 2, 1) := by decide +kernel
theorem dX5_shed_26 : decode cX5_shed 26 = .ok (.aload_n 2, 1) := by decide +kernel
theorem dX5_shed_27 : decode cX5_shed 27 = .ok (.aload_n 2, 1) := by decide +kernel
theorem dX5_shed_28 : decode cX5_shed 28 = .ok (.getfield 97, 3) := by decide +kernel
theorem dX5_shed_31 : decode cX5_shed 31 = .ok (.ifCond .ne 7, 3) := by decide +kernel
theorem dX5_shed_34 : decode cX5_shed 34 = .ok (.iconst 1, 1) := by decide +kernel
theorem dX5_shed_35 : decode cX5_shed 35 = .ok (.goto 4, 3) := by decide +kernel
theorem dX5_shed_38 : decode cX5_shed 38 = .ok (.iconst 0, 1) := by decide +kernel
theorem dX5_shed_39 : decode cX5_shed 39 = .ok (.putfield 97, 3) := by decide +kernel
theorem dX5_shed_42 : decode cX5_shed 42 = .ok (.aload_n 2, 1) := by decide +kernel
theorem dX5_shed_43 : decode cX5_shed 43 = .ok (.getfield 97, 3) := by decide +kernel
theorem dX5_shed_46 : decode cX5_shed 46 = .ok (.ifCond .eq 7, 3) := by decide +kernel
theorem dX5_shed_49 : decode cX5_shed 49 = .ok (.iconst 1, 1) := by decide +kernel
theorem dX5_shed_50 : decode cX5_shed 50 = .ok (.goto 4, 3) := by decide +kernel
theorem dX5_shed_53 : decode cX5_shed 53 = .ok (.iconst 0, 1) := by decide +kernel
theorem dX5_shed_54 : decode cX5_shed 54 = .ok (.ireturn, 1) := by decide +kernel
theorem dX5_bound_0 : decode cX5_bound 0 = .ok (.iload_n 1, 1) := by decide +kernel
theorem dX5_bound_1 : decode cX5_bound 1 = .ok (.iconst 0, 1) := by decide +kernel
theorem dX5_bound_2 : decode cX5_bound 2 = .ok (.iconst 3, 1) := by decide +kernel
theorem dX5_bound_3 : decode cX5_bound 3 = .ok (.invokestatic 71, 3) := by decide +kernel
theorem dX5_bound_6 : decode cX5_bound 6 = .ok (.iload_n 2, 1) := by decide +kernel
theorem dX5_bound_7 : decode cX5_bound 7 = .ok (.bipush 10, 2) := by decide +kernel
theorem dX5_bound_9 : decode cX5_bound 9 = .ok (.sipush 999, 3) := by decide +kernel
theorem dX5_bound_12 : decode cX5_bound 12 = .ok (.invokestatic 71, 3) := by decide +kernel
theorem dX5_bound_15 : decode cX5_bound 15 = .ok (.aload_n 0, 1) := by decide +kernel
theorem dX5_bound_16 : decode cX5_bound 16 = .ok (.getfield 30, 3) := by decide +kernel
theorem dX5_bound_19 : decode cX5_bound 19 = .ok (.aload_n 0, 1) := by decide +kernel
theorem dX5_bound_20 : decode cX5_bound 20 = .ok (.getfield 10, 3) := by decide +kernel
theorem dX5_bound_23 : decode cX5_bound 23 = .ok (.invokevirtual 59, 3) := by decide +kernel
theorem dX5_bound_26 : decode cX5_bound 26 = .ok (.aload_n 0, 1) := by decide +kernel
theorem dX5_bound_27 : decode cX5_bound 27 = .ok (.getfield 10, 3) := by decide +kernel
theorem dX5_bound_30 : decode cX5_bound 30 = .ok (.getfield 101, 3) := by decide +kernel
theorem dX5_bound_33 : decode cX5_bound 33 = .ok (.iload_n 1, 1) := by decide +kernel
theorem dX5_bound_34 : decode cX5_bound 34 = .ok (.aaload, 1) := by decide +kernel
theorem dX5_bound_35 : decode cX5_bound 35 = .ok (.astore_n 3, 1) := by decide +kernel
theorem dX5_bound_36 : decode cX5_bound 36 = .ok (.aload_n 3, 1) := by decide +kernel
theorem dX5_bound_37 : decode cX5_bound 37 = .ok (.getfield 105, 3) := by decide +kernel
theorem dX5_bound_40 : decode cX5_bound 40 = .ok (.istore 4, 2) := by decide +kernel
theorem dX5_bound_42 : decode cX5_bound 42 = .ok (.aload_n 3, 1) := by decide +kernel
theorem dX5_bound_43 : decode cX5_bound 43 = .ok (.iload_n 2, 1) := by decide +kernel
theorem dX5_bound_44 : decode cX5_bound 44 = .ok (.putfield 105, 3) := by decide +kernel
theorem dX5_bound_47 : decode cX5_bound 47 = .ok (.iload 4, 2) := by decide +kernel
theorem dX5_bound_49 : decode cX5_bound 49 = .ok (.ireturn, 1) := by decide +kernel
theorem dX5_reset_0 : decode cX5_reset 0 = .ok (.iload_n 1, 1) := by decide +kernel
theorem dX5_reset_1 : decode cX5_reset 1 = .ok (.iconst 0, 1) := by decide +kernel
theorem dX5_reset_2 : decode cX5_reset 2 = .ok (.iconst 3, 1) := by decide +kernel
theorem dX5_reset_3 : decode cX5_reset 3 = .ok (.invokestatic 71, 3) := by decide +kernel
theorem dX5_reset_6 : decode cX5_reset 6 = .ok (.aload_n 0, 1) := by decide +kernel
theorem dX5_reset_7 : decode cX5_reset 7 = .ok (.getfield 10, 3) := by decide +kernel
theorem dX5_reset_10 : decode cX5_reset 10 = .ok (.getfield 101, 3) := by decide +kernel
theorem dX5_reset_13 : decode cX5_reset 13 = .ok (.iload_n 1, 1) := by decide +kernel
theorem dX5_reset_14 : decode cX5_reset 14 = .ok (.aaload, 1) := by decide +kernel
theorem dX5_reset_15 : decode cX5_reset 15 = .ok (.getfield 110, 3) := by decide +kernel
theorem dX5_reset_18 : decode cX5_reset 18 = .ok (.ifCond .eq 13, 3) := by decide +kernel
theorem dX5_reset_21 : decode cX5_reset 21 = .ok (.new 54, 3) := by decide +kernel
theorem dX5_reset_24 : decode cX5_reset 24 = .ok (.dup, 1) := by decide +kernel
theorem dX5_reset_25 : decode cX5_reset 25 = .ok (.ldc 113, 2) := by decide +kernel
theorem dX5_reset_27 : decode cX5_reset 27 = .ok (.invokespecial 58, 3) := by decide +kernel
theorem dX5_reset_30 : decode cX5_reset 30 = .ok (.athrow, 1) := by decide +kernel
theorem dX5_reset_31 : decode cX5_reset 31 = .ok (.aload_n 0, 1) := by decide +kernel
theorem dX5_reset_32 : decode cX5_reset 32 = .ok (.getfield 30, 3) := by decide +kernel
theorem dX5_reset_35 : decode cX5_reset 35 = .ok (.aload_n 0, 1) := by decide +kernel
theorem dX5_reset_36 : decode cX5_reset 36 = .ok (.getfield 10, 3) := by decide +kernel
theorem dX5_reset_39 : decode cX5_reset 39 = .ok (.invokevirtual 59, 3) := by decide +kernel
theorem dX5_reset_42 : decode cX5_reset 42 = .ok (.aload_n 0, 1) := by decide +kernel
theorem dX5_reset_43 : decode cX5_reset 43 = .ok (.getfield 10, 3) := by decide +kernel
theorem dX5_reset_46 : decode cX5_reset 46 = .ok (.getfield 101, 3) := by decide +kernel
theorem dX5_reset_49 : decode cX5_reset 49 = .ok (.iload_n 1, 1) := by decide +kernel
theorem dX5_reset_50 : decode cX5_reset 50 = .ok (.aaload, 1) := by decide +kernel
theorem dX5_reset_51 : decode cX5_reset 51 = .ok (.invokevirtual 115, 3) := by decide +kernel
theorem dX5_reset_54 : decode cX5_reset 54 = .ok (.aload_n 0, 1) := by decide +kernel
theorem dX5_reset_55 : decode cX5_reset 55 = .ok (.getfield 10, 3) := by decide +kernel
theorem dX5_reset_58 : decode cX5_reset 58 = .ok (.iload_n 1, 1) := by decide +kernel
theorem dX5_reset_59 : decode cX5_reset 59 = .ok (.invokevirtual 118, 3) := by decide +kernel
theorem dX5_reset_62 : decode cX5_reset 62 = .ok (.ireturn, 1) := by decide +kernel
theorem dX5_over_0 : decode cX5_over 0 = .ok (.iload_n 1, 1) := by decide +kernel
theorem dX5_over_1 : decode cX5_over 1 = .ok (.iconst 0, 1) := by decide +kernel
theorem dX5_over_2 : decode cX5_over 2 = .ok (.bipush 8, 2) := by decide +kernel
theorem dX5_over_4 : decode cX5_over 4 = .ok (.invokestatic 71, 3) := by decide +kernel
theorem dX5_over_7 : decode cX5_over 7 = .ok (.aload_n 0, 1) := by decide +kernel
theorem dX5_over_8 : decode cX5_over 8 = .ok (.getfield 30, 3) := by decide +kernel
theorem dX5_over_11 : decode cX5_over 11 = .ok (.aload_n 0, 1) := by decide +kernel
theorem dX5_over_12 : decode cX5_over 12 = .ok (.getfield 10, 3) := by decide +kernel
theorem dX5_over_15 : decode cX5_over 15 = .ok (.invokevirtual 59, 3) := by decide +kernel
theorem dX5_over_18 : decode cX5_over 18 = .ok (.aload_n 0, 1) := by decide +kernel
theorem dX5_over_19 : decode cX5_over 19 = .ok (.getfield 10, 3) := by decide +kernel
theorem dX5_over_22 : decode cX5_over 22 = .ok (.getfield 121, 3) := by decide +kernel
theorem dX5_over_25 : decode cX5_over 25 = .ok (.iload_n 1, 1) := by decide +kernel
theorem dX5_over_26 : decode cX5_over 26 = .ok (.aload_n 0, 1) := by decide +kernel
theorem dX5_over_27 : decode cX5_over 27 = .ok (.getfield 10, 3) := by decide +kernel
theorem dX5_over_30 : decode cX5_over 30 = .ok (.getfield 121, 3) := by decide +kernel
theorem dX5_over_33 : decode cX5_over 33 = .ok (.iload_n 1, 1) := by decide +kernel
theorem dX5_over_34 : decode cX5_over 34 = .ok (.baload, 1) := by decide +kernel
theorem dX5_over_35 : decode cX5_over 35 = .ok (.ifCond .ne 7, 3) := by decide +kernel
theorem dX5_over_38 : decode cX5_over 38 = .ok (.iconst 1, 1) := by decide +kernel
theorem dX5_over_39 : decode cX5_over 39 = .ok (.goto 4, 3) := by decide +kernel
theorem dX5_over_42 : decode cX5_over 42 = .ok (.iconst 0, 1) := by decide +kernel
theorem dX5_over_43 : decode cX5_over 43 = .ok (.bastore, 1) := by decide +kernel
theorem dX5_over_44 : decode cX5_over 44 = .ok (.aload_n 0, 1) := by decide +kernel
theorem dX5_over_45 : decode cX5_over 45 = .ok (.getfield 10, 3) := by decide +kernel
theorem dX5_over_48 : decode cX5_over 48 = .ok (.iload_n 1, 1) := by decide +kernel
theorem dX5_over_49 : decode cX5_over 49 = .ok (.invokevirtual 124, 3) := by decide +kernel
theorem dX5_over_52 : decode cX5_over 52 = .ok (.ireturn, 1) := by decide +kernel
theorem dX5_pass_0 : decode cX5_pass 0 = .ok (.iload_n 1, 1) := by decide +kernel
theorem dX5_pass_1 : decode cX5_pass 1 = .ok (.iconst 1, 1) := by decide +kernel
theorem dX5_pass_2 : decode cX5_pass 2 = .ok (.bipush 48, 2) := by decide +kernel
theorem dX5_pass_4 : decode cX5_pass 4 = .ok (.invokestatic 71, 3) := by decide +kernel
theorem dX5_pass_7 : decode cX5_pass 7 = .ok (.aload_n 0, 1) := by decide +kernel
theorem dX5_pass_8 : decode cX5_pass 8 = .ok (.getfield 10, 3) := by decide +kernel
theorem dX5_pass_11 : decode cX5_pass 11 = .ok (.iload_n 1, 1) := by decide +kernel
theorem dX5_pass_12 : decode cX5_pass 12 = .ok (.invokevirtual 127, 3) := by decide +kernel
theorem dX5_pass_15 : decode cX5_pass 15 = .ok (.ifCond .ne 13, 3) := by decide +kernel
theorem dX5_pass_18 : decode cX5_pass 18 = .ok (.new 54, 3) := by decide +kernel
theorem dX5_pass_21 : decode cX5_pass 21 = .ok (.dup, 1) := by decide +kernel
theorem dX5_pass_22 : decode cX5_pass 22 = .ok (.ldc 131, 2) := by decide +kernel
theorem dX5_pass_24 : decode cX5_pass 24 = .ok (.invokespecial 58, 3) := by decide +kernel
theorem dX5_pass_27 : decode cX5_pass 27 = .ok (.athrow, 1) := by decide +kernel
theorem dX5_pass_28 : decode cX5_pass 28 = .ok (.aload_n 0, 1) := by decide +kernel
theorem dX5_pass_29 : decode cX5_pass 29 = .ok (.getfield 30, 3) := by decide +kernel
theorem dX5_pass_32 : decode cX5_pass 32 = .ok (.aload_n 0, 1) := by decide +kernel
theorem dX5_pass_33 : decode cX5_pass 33 = .ok (.getfield 10, 3) := by decide +kernel
theorem dX5_pass_36 : decode cX5_pass 36 = .ok (.invokevirtual 59, 3) := by decide +kernel
theorem dX5_pass_39 : decode cX5_pass 39 = .ok (.aload_n 0, 1) := by decide +kernel
theorem dX5_pass_40 : decode cX5_pass 40 = .ok (.getfield 10, 3) := by decide +kernel
theorem dX5_pass_43 : decode cX5_pass 43 = .ok (.invokevirtual 133, 3) := by decide +kernel
theorem dX5_pass_46 : decode cX5_pass 46 = .ok (.istore_n 2, 1) := by decide +kernel
theorem dX5_pass_47 : decode cX5_pass 47 = .ok (.aload_n 0, 1) := by decide +kernel
theorem dX5_pass_48 : decode cX5_pass 48 = .ok (.getfield 10, 3) := by decide +kernel
theorem dX5_pass_51 : decode cX5_pass 51 = .ok (.iload_n 1, 1) := by decide +kernel
theorem dX5_pass_52 : decode cX5_pass 52 = .ok (.invokevirtual 137, 3) := by decide +kernel
theorem dX5_pass_55 : decode cX5_pass 55 = .ok (.aload_n 0, 1) := by decide +kernel
theorem dX5_pass_56 : decode cX5_pass 56 = .ok (.getfield 10, 3) := by decide +kernel
theorem dX5_pass_59 : decode cX5_pass 59 = .ok (.invokevirtual 133, 3) := by decide +kernel
theorem dX5_pass_62 : decode cX5_pass 62 = .ok (.iload_n 2, 1) := by decide +kernel
theorem dX5_pass_63 : decode cX5_pass 63 = .ok (.isub, 1) := by decide +kernel
theorem dX5_pass_64 : decode cX5_pass 64 = .ok (.ireturn, 1) := by decide +kernel
theorem dX5_set_0 : decode cX5_set 0 = .ok (.iload_n 1, 1) := by decide +kernel
theorem dX5_set_1 : decode cX5_set 1 = .ok (.invokestatic 140, 3) := by decide +kernel
theorem dX5_set_4 : decode cX5_set 4 = .ok (.iload_n 2, 1) := by decide +kernel
theorem dX5_set_5 : decode cX5_set 5 = .ok (.getstatic 143, 3) := by decide +kernel
theorem dX5_set_8 : decode cX5_set 8 = .ok (.iload_n 1, 1) := by decide +kernel
theorem dX5_set_9 : decode cX5_set 9 = .ok (.iaload, 1) := by decide +kernel
theorem dX5_set_10 : decode cX5_set 10 = .ok (.getstatic 147, 3) := by decide +kernel
theorem dX5_set_13 : decode cX5_set 13 = .ok (.iload_n 1, 1) := by decide +kernel
theorem dX5_set_14 : decode cX5_set 14 = .ok (.iaload, 1) := by decide +kernel
theorem dX5_set_15 : decode cX5_set 15 = .ok (.invokestatic 71, 3) := by decide +kernel
theorem dX5_set_18 : decode cX5_set 18 = .ok (.aload_n 0, 1) := by decide +kernel
theorem dX5_set_19 : decode cX5_set 19 = .ok (.getfield 30, 3) := by decide +kernel
theorem dX5_set_22 : decode cX5_set 22 = .ok (.aload_n 0, 1) := by decide +kernel
theorem dX5_set_23 : decode cX5_set 23 = .ok (.getfield 10, 3) := by decide +kernel
theorem dX5_set_26 : decode cX5_set 26 = .ok (.invokevirtual 59, 3) := by decide +kernel
theorem dX5_set_29 : decode cX5_set 29 = .ok (.aload_n 0, 1) := by decide +kernel
theorem dX5_set_30 : decode cX5_set 30 = .ok (.getfield 10, 3) := by decide +kernel
theorem dX5_set_33 : decode cX5_set 33 = .ok (.getfield 150, 3) := by decide +kernel
theorem dX5_set_36 : decode cX5_set 36 = .ok (.iload_n 1, 1) := by decide +kernel
theorem dX5_set_37 : decode cX5_set 37 = .ok (.iaload, 1) := by decide +kernel
theorem dX5_set_38 : decode cX5_set 38 = .ok (.istore_n 3, 1) := by decide +kernel
theorem dX5_set_39 : decode cX5_set 39 = .ok (.aload_n 0, 1) := by decide +kernel
theorem dX5_set_40 : decode cX5_set 40 = .ok (.getfield 10, 3) := by decide +kernel
theorem dX5_set_43 : decode cX5_set 43 = .ok (.getfield 150, 3) := by decide +kernel
theorem dX5_set_46 : decode cX5_set 46 = .ok (.iload_n 1, 1) := by decide +kernel
theorem dX5_set_47 : decode cX5_set 47 = .ok (.iload_n 2, 1) := by decide +kernel
theorem dX5_set_48 : decode cX5_set 48 = .ok (.iastore, 1) := by decide +kernel
theorem dX5_set_49 : decode cX5_set 49 = .ok (.iload_n 3, 1) := by decide +kernel
theorem dX5_set_50 : decode cX5_set 50 = .ok (.ireturn, 1) := by decide +kernel
theorem dX5_append_0 : decode cX5_append 0 = .ok (.iload_n 1, 1) := by decide +kernel
theorem dX5_append_1 : decode cX5_append 1 = .ok (.bipush 33, 2) := by decide +kernel
theorem dX5_append_3 : decode cX5_append 3 = .ok (.bipush 126, 2) := by decide +kernel
theorem dX5_append_5 : decode cX5_append 5 = .ok (.invokestatic 71, 3) := by decide +kernel
theorem dX5_append_8 : decode cX5_append 8 = .ok (.aload_n 0, 1) := by decide +kernel
theorem dX5_append_9 : decode cX5_append 9 = .ok (.getfield 37, 3) := by decide +kernel
theorem dX5_append_12 : decode cX5_append 12 = .ok (.getfield 153, 3) := by decide +kernel
theorem dX5_append_15 : decode cX5_append 15 = .ok (.bipush 60, 2) := by decide +kernel
theorem dX5_append_17 : decode cX5_append 17 = .ok (.if_icmp .lt 13, 3) := by decide +kernel
theorem dX5_append_20 : decode cX5_append 20 = .ok (.new 54, 3) := by decide +kernel
theorem dX5_append_23 : decode cX5_append 23 = .ok (.dup, 1) := by decide +kernel
theorem dX5_append_24 : decode cX5_append 24 = .ok (.ldc 156, 2) := by decide +kernel
theorem dX5_append_26 : decode cX5_append 26 = .ok (.invokespecial 58, 3) := by decide +kernel
theorem dX5_append_29 : decode cX5_append 29 = .ok (.athrow, 1) := by decide +kernel
theorem dX5_append_30 : decode cX5_append 30 = .ok (.aload_n 0, 1) := by decide +kernel
theorem dX5_append_31 : decode cX5_append 31 = .ok (.getfield 37, 3) := by decide +kernel
theorem dX5_append_34 : decode cX5_append 34 = .ok (.getfield 158, 3) := by decide +kernel
theorem dX5_append_37 : decode cX5_append 37 = .ok (.aload_n 0, 1) := by decide +kernel
theorem dX5_append_38 : decode cX5_append 38 = .ok (.getfield 37, 3) := by decide +kernel
theorem dX5_append_41 : decode cX5_append 41 = .ok (.getfield 153, 3) := by decide +kernel
theorem dX5_append_44 : decode cX5_append 44 = .ok (.iload_n 1, 1) := by decide +kernel
theorem dX5_append_45 : decode cX5_append 45 = .ok (.i2c, 1) := by decide +kernel
theorem dX5_append_46 : decode cX5_append 46 = .ok (.castore, 1) := by decide +kernel
theorem dX5_append_47 : decode cX5_append 47 = .ok (.aload_n 0, 1) := by decide +kernel
theorem dX5_append_48 : decode cX5_append 48 = .ok (.getfield 37, 3) := by decide +kernel
theorem dX5_append_51 : decode cX5_append 51 = .ok (.dup, 1) := by decide +kernel
theorem dX5_append_52 : decode cX5_append 52 = .ok (.getfield 153, 3) := by decide +kernel
theorem dX5_append_55 : decode cX5_append 55 = .ok (.iconst 1, 1) := by decide +kernel
theorem dX5_append_56 : decode cX5_append 56 = .ok (.iadd, 1) := by decide +kernel
theorem dX5_append_57 : decode cX5_append 57 = .ok (.putfield 153, 3) := by decide +kernel
theorem dX5_append_60 : decode cX5_append 60 = .ok (.aload_n 0, 1) := by decide +kernel
theorem dX5_append_61 : decode cX5_append 61 = .ok (.getfield 37, 3) := by decide +kernel
theorem dX5_append_64 : decode cX5_append 64 = .ok (.getfield 153, 3) := by decide +kernel
theorem dX5_append_67 : decode cX5_append 67 = .ok (.ireturn, 1) := by decide +kernel
theorem dX5_clearBuffer_0 : decode cX5_clearBuffer 0 = .ok (.aload_n 0, 1) := by decide +kernel
theorem dX5_clearBuffer_1 : decode cX5_clearBuffer 1 = .ok (.getfield 37, 3) := by decide +kernel
theorem dX5_clearBuffer_4 : decode cX5_clearBuffer 4 = .ok (.getfield 153, 3) := by decide +kernel
theorem dX5_clearBuffer_7 : decode cX5_clearBuffer 7 = .ok (.istore_n 1, 1) := by decide +kernel
theorem dX5_clearBuffer_8 : decode cX5_clearBuffer 8 = .ok (.aload_n 0, 1) := by decide +kernel
theorem dX5_clearBuffer_9 : decode cX5_clearBuffer 9 = .ok (.getfield 37, 3) := by decide +kernel
theorem dX5_clearBuffer_12 : decode cX5_clearBuffer 12 = .ok (.iconst 0, 1) := by decide +kernel
theorem dX5_clearBuffer_13 : decode cX5_clearBuffer 13 = .ok (.putfield 153, 3) := by decide +kernel
theorem dX5_clearBuffer_16 : decode cX5_clearBuffer 16 = .ok (.iload_n 1, 1) := by decide +kernel
theorem dX5_clearBuffer_17 : decode cX5_clearBuffer 17 = .ok (.ireturn, 1) := by decide +kernel
theorem dX5_firstError_0 : decode cX5_firstError 0 = .ok (.aload_n 0, 1) := by decide +kernel
theorem dX5_firstError_1 : decode cX5_firstError 1 = .ok (.getfield 37, 3) := by decide +kernel
theorem dX5_firstError_4 : decode cX5_firstError 4 = .ok (.invokevirtual 162, 3) := by decide +kernel
theorem dX5_firstError_7 : decode cX5_firstError 7 = .ok (.pop, 1) := by decide +kernel
theorem dX5_firstError_8 : decode cX5_firstError 8 = .ok (.aload_n 0, 1) := by decide +kernel
theorem dX5_firstError_9 : decode cX5_firstError 9 = .ok (.getfield 37, 3) := by decide +kernel
theorem dX5_firstError_12 : decode cX5_firstError 12 = .ok (.getfield 165, 3) := by decide +kernel
theorem dX5_firstError_15 : decode cX5_firstError 15 = .ok (.ireturn, 1) := by decide +kernel
theorem dX5_open_0 : decode cX5_open 0 = .ok (.aload_n 0, 1) := by decide +kernel
theorem dX5_open_1 : decode cX5_open 1 = .ok (.getfield 37, 3) := by decide +kernel
theorem dX5_open_4 : decode cX5_open 4 = .ok (.invokevirtual 162, 3) := by decide +kernel
theorem dX5_open_7 : decode cX5_open 7 = .ok (.ifCond .ne 13, 3) := by decide +kernel
theorem dX5_open_10 : decode cX5_open 10 = .ok (.new 41, 3) := by decide +kernel
theorem dX5_open_13 : decode cX5_open 13 = .ok (.dup, 1) := by decide +kernel
theorem dX5_open_14 : decode cX5_open 14 = .ok (.ldc 168, 2) := by decide +kernel
theorem dX5_open_16 : decode cX5_open 16 = .ok (.invokespecial 45, 3) := by decide +kernel
theorem dX5_open_19 : decode cX5_open 19 = .ok (.athrow, 1) := by decide +kernel
theorem dX5_open_20 : decode cX5_open 20 = .ok (.aload_n 0, 1) := by decide +kernel
theorem dX5_open_21 : decode cX5_open 21 = .ok (.getfield 30, 3) := by decide +kernel
theorem dX5_open_24 : decode cX5_open 24 = .ok (.aload_n 0, 1) := by decide +kernel
theorem dX5_open_25 : decode cX5_open 25 = .ok (.getfield 10, 3) := by decide +kernel
theorem dX5_open_28 : decode cX5_open 28 = .ok (.invokevirtual 59, 3) := by decide +kernel
theorem dX5_open_31 : decode cX5_open 31 = .ok (.aload_n 0, 1) := by decide +kernel
theorem dX5_open_32 : decode cX5_open 32 = .ok (.invokevirtual 170, 3) := by decide +kernel
theorem dX5_open_35 : decode cX5_open 35 = .ok (.istore_n 1, 1) := by decide +kernel
theorem dX5_open_36 : decode cX5_open 36 = .ok (.aload_n 0, 1) := by decide +kernel
theorem dX5_open_37 : decode cX5_open 37 = .ok (.getfield 37, 3) := by decide +kernel
theorem dX5_open_40 : decode cX5_open 40 = .ok (.iconst 0, 1) := by decide +kernel
theorem dX5_open_41 : decode cX5_open 41 = .ok (.putfield 153, 3) := by decide +kernel
theorem dX5_open_44 : decode cX5_open 44 = .ok (.iload_n 1, 1) := by decide +kernel
theorem dX5_open_45 : decode cX5_open 45 = .ok (.ireturn, 1) := by decide +kernel
theorem dX5_keep_0 : decode cX5_keep 0 = .ok (.iload_n 1, 1) := by decide +kernel
theorem dX5_keep_1 : decode cX5_keep 1 = .ok (.iconst 0, 1) := by decide +kernel
theorem dX5_keep_2 : decode cX5_keep 2 = .ok (.iconst 1, 1) := by decide +kernel
theorem dX5_keep_3 : decode cX5_keep 3 = .ok (.invokestatic 71, 3) := by decide +kernel
theorem dX5_keep_6 : decode cX5_keep 6 = .ok (.aload_n 0, 1) := by decide +kernel
theorem dX5_keep_7 : decode cX5_keep 7 = .ok (.getfield 19, 3) := by decide +kernel
theorem dX5_keep_10 : decode cX5_keep 10 = .ok (.iload_n 1, 1) := by decide +kernel
theorem dX5_keep_11 : decode cX5_keep 11 = .ok (.aaload, 1) := by decide +kernel
theorem dX5_keep_12 : decode cX5_keep 12 = .ok (.aload_n 0, 1) := by decide +kernel
theorem dX5_keep_13 : decode cX5_keep 13 = .ok (.getfield 10, 3) := by decide +kernel
theorem dX5_keep_16 : decode cX5_keep 16 = .ok (.invokevirtual 173, 3) := by decide +kernel
theorem dX5_keep_19 : decode cX5_keep 19 = .ok (.aload_n 0, 1) := by decide +kernel
theorem dX5_keep_20 : decode cX5_keep 20 = .ok (.getfield 23, 3) := by decide +kernel
theorem dX5_keep_23 : decode cX5_keep 23 = .ok (.iload_n 1, 1) := by decide +kernel
theorem dX5_keep_24 : decode cX5_keep 24 = .ok (.iconst 1, 1) := by decide +kernel
theorem dX5_keep_25 : decode cX5_keep 25 = .ok (.bastore, 1) := by decide +kernel
theorem dX5_keep_26 : decode cX5_keep 26 = .ok (.aload_n 0, 1) := by decide +kernel
theorem dX5_keep_27 : decode cX5_keep 27 = .ok (.getfield 10, 3) := by decide +kernel
theorem dX5_keep_30 : decode cX5_keep 30 = .ok (.getfield 176, 3) := by decide +kernel
theorem dX5_keep_33 : decode cX5_keep 33 = .ok (.ireturn, 1) := by decide +kernel
theorem dX5_goBack_0 : decode cX5_goBack 0 = .ok (.iload_n 1, 1) := by decide +kernel
theorem dX5_goBack_1 : decode cX5_goBack 1 = .ok (.iconst 0, 1) := by decide +kernel
theorem dX5_goBack_2 : decode cX5_goBack 2 = .ok (.iconst 1, 1) := by decide +kernel
theorem dX5_goBack_3 : decode cX5_goBack 3 = .ok (.invokestatic 71, 3) := by decide +kernel
theorem dX5_goBack_6 : decode cX5_goBack 6 = .ok (.aload_n 0, 1) := by decide +kernel
theorem dX5_goBack_7 : decode cX5_goBack 7 = .ok (.getfield 23, 3) := by decide +kernel
theorem dX5_goBack_10 : decode cX5_goBack 10 = .ok (.iload_n 1, 1) := by decide +kernel
theorem dX5_goBack_11 : decode cX5_goBack 11 = .ok (.baload, 1) := by decide +kernel
theorem dX5_goBack_12 : decode cX5_goBack 12 = .ok (.ifCond .ne 13, 3) := by decide +kernel
theorem dX5_goBack_15 : decode cX5_goBack 15 = .ok (.new 54, 3) := by decide +kernel
theorem dX5_goBack_18 : decode cX5_goBack 18 = .ok (.dup, 1) := by decide +kernel
theorem dX5_goBack_19 : decode cX5_goBack 19 = .ok (.ldc 179, 2) := by decide +kernel
theorem dX5_goBack_21 : decode cX5_goBack 21 = .ok (.invokespecial 58, 3) := by decide +kernel
theorem dX5_goBack_24 : decode cX5_goBack 24 = .ok (.athrow, 1) := by decide +kernel
theorem dX5_goBack_25 : decode cX5_goBack 25 = .ok (.aload_n 0, 1) := by decide +kernel
theorem dX5_goBack_26 : decode cX5_goBack 26 = .ok (.getfield 30, 3) := by decide +kernel
theorem dX5_goBack_29 : decode cX5_goBack 29 = .ok (.aload_n 0, 1) := by decide +kernel
theorem dX5_goBack_30 : decode cX5_goBack 30 = .ok (.getfield 10, 3) := by decide +kernel
theorem dX5_goBack_33 : decode cX5_goBack 33 = .ok (.invokevirtual 59, 3) := by decide +kernel
theorem dX5_goBack_36 : decode cX5_goBack 36 = .ok (.aload_n 0, 1) := by decide +kernel
theorem dX5_goBack_37 : decode cX5_goBack 37 = .ok (.getfield 10, 3) := by decide +kernel
theorem dX5_goBack_40 : decode cX5_goBack 40 = .ok (.aload_n 0, 1) := by decide +kernel
theorem dX5_goBack_41 : decode cX5_goBack 41 = .ok (.getfield 19, 3) := by decide +kernel
theorem dX5_goBack_44 : decode cX5_goBack 44 = .ok (.iload_n 1, 1) := by decide +kernel
theorem dX5_goBack_45 : decode cX5_goBack 45 = .ok (.aaload, 1) := by decide +kernel
theorem dX5_goBack_46 : decode cX5_goBack 46 = .ok (.invokevirtual 173, 3) := by decide +kernel
theorem dX5_goBack_49 : decode cX5_goBack 49 = .ok (.aload_n 0, 1) := by decide +kernel
theorem dX5_goBack_50 : decode cX5_goBack 50 = .ok (.getfield 10, 3) := by decide +kernel
theorem dX5_goBack_53 : decode cX5_goBack 53 = .ok (.getfield 176, 3) := by decide +kernel
theorem dX5_goBack_56 : decode cX5_goBack 56 = .ok (.ireturn, 1) := by decide +kernel
theorem dX5_undo_0 : decode cX5_undo 0 = .ok (.aload_n 0, 1) := by decide +kernel
theorem dX5_undo_1 : decode cX5_undo 1 = .ok (.getfield 30, 3) := by decide +kernel
theorem dX5_undo_4 : decode cX5_undo 4 = .ok (.getfield 181, 3) := by decide +kernel
theorem dX5_undo_7 : decode cX5_undo 7 = .ok (.ifCond .ne 13, 3) := by decide +kernel
theorem dX5_undo_10 : decode cX5_undo 10 = .ok (.new 54, 3) := by decide +kernel
theorem dX5_undo_13 : decode cX5_undo 13 = .ok (.dup, 1) := by decide +kernel
theorem dX5_undo_14 : decode cX5_undo 14 = .ok (.ldc 184, 2) := by decide +kernel
theorem dX5_undo_16 : decode cX5_undo 16 = .ok (.invokespecial 58, 3) := by decide +kernel
theorem dX5_undo_19 : decode cX5_undo 19 = .ok (.athrow, 1) := by decide +kernel
theorem dX5_undo_20 : decode cX5_undo 20 = .ok (.aload_n 0, 1) := by decide +kernel
theorem dX5_undo_21 : decode cX5_undo 21 = .ok (.getfield 30, 3) := by decide +kernel
theorem dX5_undo_24 : decode cX5_undo 24 = .ok (.aload_n 0, 1) := by decide +kernel
theorem dX5_undo_25 : decode cX5_undo 25 = .ok (.getfield 10, 3) := by decide +kernel
theorem dX5_undo_28 : decode cX5_undo 28 = .ok (.invokevirtual 186, 3) := by decide +kernel
theorem dX5_undo_31 : decode cX5_undo 31 = .ok (.aload_n 0, 1) := by decide +kernel
theorem dX5_undo_32 : decode cX5_undo 32 = .ok (.getfield 30, 3) := by decide +kernel
theorem dX5_undo_35 : decode cX5_undo 35 = .ok (.getfield 181, 3) := by decide +kernel
theorem dX5_undo_38 : decode cX5_undo 38 = .ok (.ireturn, 1) := by decide +kernel
theorem dX5_stallOf_0 : decode cX5_stallOf 0 = .ok (.aload_n 0, 1) := by decide +kernel
theorem dX5_stallOf_1 : decode cX5_stallOf 1 = .ok (.iload_n 1, 1) := by decide +kernel
theorem dX5_stallOf_2 : decode cX5_stallOf 2 = .ok (.invokevirtual 67, 3) := by decide +kernel
theorem dX5_stallOf_5 : decode cX5_stallOf 5 = .ok (.iload_n 2, 1) := by decide +kernel
theorem dX5_stallOf_6 : decode cX5_stallOf 6 = .ok (.iconst 0, 1) := by decide +kernel
theorem dX5_stallOf_7 : decode cX5_stallOf 7 = .ok (.bipush 9, 2) := by decide +kernel
theorem dX5_stallOf_9 : decode cX5_stallOf 9 = .ok (.invokestatic 71, 3) := by decide +kernel
theorem dX5_stallOf_12 : decode cX5_stallOf 12 = .ok (.aload_n 0, 1) := by decide +kernel
theorem dX5_stallOf_13 : decode cX5_stallOf 13 = .ok (.getfield 10, 3) := by decide +kernel
theorem dX5_stallOf_16 : decode cX5_stallOf 16 = .ok (.getfield 85, 3) := by decide +kernel
theorem dX5_stallOf_19 : decode cX5_stallOf 19 = .ok (.iload_n 1, 1) := by decide +kernel
theorem dX5_stallOf_20 : decode cX5_stallOf 20 = .ok (.aaload, 1) := by decide +kernel
theorem dX5_stallOf_21 : decode cX5_stallOf 21 = .ok (.astore_n 3, 1) := by decide +kernel
theorem dX5_stallOf_22 : decode cX5_stallOf 22 = .ok (.iload_n 2, 1) := by decide +kernel
theorem dX5_stallOf_23 : decode cX5_stallOf 23 = .ok (.tableswitch 106 0 8 #[49, 54, 59, 64, 69, 74, 87, 92, 97], 49) := by decide +kernel
theorem dX5_stallOf_72 : decode cX5_stallOf 72 = .ok (.aload_n 3, 1) := by decide +kernel
theorem dX5_stallOf_73 : decode cX5_stallOf 73 = .ok (.getfield 189, 3) := by decide +kernel
theorem dX5_stallOf_76 : decode cX5_stallOf 76 = .ok (.ireturn, 1) := by decide +kernel
theorem dX5_stallOf_77 : decode cX5_stallOf 77 = .ok (.aload_n 3, 1) := by decide +kernel
theorem dX5_stallOf_78 : decode cX5_stallOf 78 = .ok (.getfield 192, 3) := by decide +kernel
theorem dX5_stallOf_81 : decode cX5_stallOf 81 = .ok (.ireturn, 1) := by decide +kernel
theorem dX5_stallOf_82 : decode cX5_stallOf 82 = .ok (.aload_n 3, 1) := by decide +kernel
theorem dX5_stallOf_83 : decode cX5_stallOf 83 = .ok (.getfield 195, 3) := by decide +kernel
theorem dX5_stallOf_86 : decode cX5_stallOf 86 = .ok (.ireturn, 1) := by decide +kernel
theorem dX5_stallOf_87 : decode cX5_stallOf 87 = .ok (.aload_n 3, 1) := by decide +kernel
theorem dX5_stallOf_88 : decode cX5_stallOf 88 = .ok (.getfield 198, 3) := by decide +kernel
theorem dX5_stallOf_91 : decode cX5_stallOf 91 = .ok (.ireturn, 1) := by decide +kernel
theorem dX5_stallOf_92 : decode cX5_stallOf 92 = .ok (.aload_n 3, 1) := by decide +kernel
theorem dX5_stallOf_93 : decode cX5_stallOf 93 = .ok (.getfield 89, 3) := by decide +kernel
theorem dX5_stallOf_96 : decode cX5_stallOf 96 = .ok (.ireturn, 1) := by decide +kernel
theorem dX5_stallOf_97 : decode cX5_stallOf 97 = .ok (.aload_n 3, 1) := by decide +kernel
theorem dX5_stallOf_98 : decode cX5_stallOf 98 = .ok (.getfield 97, 3) := by decide +kernel
theorem dX5_stallOf_101 : decode cX5_stallOf 101 = .ok (.ifCond .eq 7, 3) := by decide +kernel
theorem dX5_stallOf_104 : decode cX5_stallOf 104 = .ok (.iconst 1, 1) := by decide +kernel
theorem dX5_stallOf_105 : decode cX5_stallOf 105 = .ok (.goto 4, 3) := by decide +kernel
theorem dX5_stallOf_108 : decode cX5_stallOf 108 = .ok (.iconst 0, 1) := by decide +kernel
theorem dX5_stallOf_109 : decode cX5_stallOf 109 = .ok (.ireturn, 1) := by decide +kernel
theorem dX5_stallOf_110 : decode cX5_stallOf 110 = .ok (.aload_n 3, 1) := by decide +kernel
theorem dX5_stallOf_111 : decode cX5_stallOf 111 = .ok (.getfield 201, 3) := by decide +kernel
theorem dX5_stallOf_114 : decode cX5_stallOf 114 = .ok (.ireturn, 1) := by decide +kernel
theorem dX5_stallOf_115 : decode cX5_stallOf 115 = .ok (.aload_n 3, 1) := by decide +kernel
theorem dX5_stallOf_116 : decode cX5_stallOf 116 = .ok (.getfield 204, 3) := by decide +kernel
theorem dX5_stallOf_119 : decode cX5_stallOf 119 = .ok (.ireturn, 1) := by decide +kernel
theorem dX5_stallOf_120 : decode cX5_stallOf 120 = .ok (.aload_n 0, 1) := by decide +kernel
theorem dX5_stallOf_121 : decode cX5_stallOf 121 = .ok (.getfield 10, 3) := by decide +kernel
theorem dX5_stallOf_124 : decode cX5_stallOf 124 = .ok (.aload_n 3, 1) := by decide +kernel
theorem dX5_stallOf_125 : decode cX5_stallOf 125 = .ok (.invokevirtual 207, 3) := by decide +kernel
theorem dX5_stallOf_128 : decode cX5_stallOf 128 = .ok (.ireturn, 1) := by decide +kernel
theorem dX5_stallOf_129 : decode cX5_stallOf 129 = .ok (.aload_n 0, 1) := by decide +kernel
theorem dX5_stallOf_130 : decode cX5_stallOf 130 = .ok (.getfield 10, 3) := by decide +kernel
theorem dX5_stallOf_133 : decode cX5_stallOf 133 = .ok (.aload_n 3, 1) := by decide +kernel
theorem dX5_stallOf_134 : decode cX5_stallOf 134 = .ok (.invokevirtual 211, 3) := by decide +kernel
theorem dX5_stallOf_137 : decode cX5_stallOf 137 = .ok (.ireturn, 1) := by decide +kernel
theorem dX5_breaker_0 : decode cX5_breaker 0 = .ok (.iload_n 1, 1) := by decide +kernel
theorem dX5_breaker_1 : decode cX5_breaker 1 = .ok (.iconst 0, 1) := by decide +kernel
theorem dX5_breaker_2 : decode cX5_breaker 2 = .ok (.iconst 3, 1) := by decide +kernel
theorem dX5_breaker_3 : decode cX5_breaker 3 = .ok (.invokestatic 71, 3) := by decide +kernel
theorem dX5_breaker_6 : decode cX5_breaker 6 = .ok (.iload_n 2, 1) := by decide +kernel
theorem dX5_breaker_7 : decode cX5_breaker 7 = .ok (.iconst 0, 1) := by decide +kernel
theorem dX5_breaker_8 : decode cX5_breaker 8 = .ok (.bipush 6, 2) := by decide +kernel
theorem dX5_breaker_10 : decode cX5_breaker 10 = .ok (.invokestatic 71, 3) := by decide +kernel
theorem dX5_breaker_13 : decode cX5_breaker 13 = .ok (.aload_n 0, 1) := by decide +kernel
theorem dX5_breaker_14 : decode cX5_breaker 14 = .ok (.getfield 10, 3) := by decide +kernel
theorem dX5_breaker_17 : decode cX5_breaker 17 = .ok (.getfield 101, 3) := by decide +kernel
theorem dX5_breaker_20 : decode cX5_breaker 20 = .ok (.iload_n 1, 1) := by decide +kernel
theorem dX5_breaker_21 : decode cX5_breaker 21 = .ok (.aaload, 1) := by decide +kernel
theorem dX5_breaker_22 : decode cX5_breaker 22 = .ok (.astore_n 3, 1) := by decide +kernel
theorem dX5_breaker_23 : decode cX5_breaker 23 = .ok (.iload_n 2, 1) := by decide +kernel
theorem dX5_breaker_24 : decode cX5_breaker 24 = .ok (.tableswitch 86 0 5 #[40, 45, 58, 63, 72, 81], 40) := by decide +kernel
theorem dX5_breaker_64 : decode cX5_breaker 64 = .ok (.aload_n 3, 1) := by decide +kernel
theorem dX5_breaker_65 : decode cX5_breaker 65 = .ok (.getfield 105, 3) := by decide +kernel
theorem dX5_breaker_68 : decode cX5_breaker 68 = .ok (.ireturn, 1) := by decide +kernel
theorem dX5_breaker_69 : decode cX5_breaker 69 = .ok (.aload_n 3, 1) := by decide +kernel
theorem dX5_breaker_70 : decode cX5_breaker 70 = .ok (.getfield 110, 3) := by decide +kernel
theorem dX5_breaker_73 : decode cX5_breaker 73 = .ok (.ifCond .eq 7, 3) := by decide +kernel
theorem dX5_breaker_76 : decode cX5_breaker 76 = .ok (.iconst 1, 1) := by decide +kernel
theorem dX5_breaker_77 : decode cX5_breaker 77 = .ok (.goto 4, 3) := by decide +kernel
theorem dX5_breaker_80 : decode cX5_breaker 80 = .ok (.iconst 0, 1) := by decide +kernel
theorem dX5_breaker_81 : decode cX5_breaker 81 = .ok (.ireturn, 1) := by decide +kernel
theorem dX5_breaker_82 : decode cX5_breaker 82 = .ok (.aload_n 3, 1) := by decide +kernel
theorem dX5_breaker_83 : decode cX5_breaker 83 = .ok (.getfield 214, 3) := by decide +kernel
theorem dX5_breaker_86 : decode cX5_breaker 86 = .ok (.ireturn, 1) := by decide +kernel
theorem dX5_breaker_87 : decode cX5_breaker 87 = .ok (.aload_n 0, 1) := by decide +kernel
theorem dX5_breaker_88 : decode cX5_breaker 88 = .ok (.getfield 10, 3) := by decide +kernel
theorem dX5_breaker_91 : decode cX5_breaker 91 = .ok (.iload_n 1, 1) := by decide +kernel
theorem dX5_breaker_92 : decode cX5_breaker 92 = .ok (.invokevirtual 217, 3) := by decide +kernel
theorem dX5_breaker_95 : decode cX5_breaker 95 = .ok (.ireturn, 1) := by decide +kernel
theorem dX5_breaker_96 : decode cX5_breaker 96 = .ok (.aload_n 0, 1) := by decide +kernel
theorem dX5_breaker_97 : decode cX5_breaker 97 = .ok (.getfield 10, 3) := by decide +kernel
theorem dX5_breaker_100 : decode cX5_breaker 100 = .ok (.iload_n 1, 1) := by decide +kernel
theorem dX5_breaker_101 : decode cX5_breaker 101 = .ok (.invokevirtual 220, 3) := by decide +kernel
theorem dX5_breaker_104 : decode cX5_breaker 104 = .ok (.ireturn, 1) := by decide +kernel
theorem dX5_breaker_105 : decode cX5_breaker 105 = .ok (.aload_n 3, 1) := by decide +kernel
theorem dX5_breaker_106 : decode cX5_breaker 106 = .ok (.getfield 223, 3) := by decide +kernel
theorem dX5_breaker_109 : decode cX5_breaker 109 = .ok (.ireturn, 1) := by decide +kernel
theorem dX5_breaker_110 : decode cX5_breaker 110 = .ok (.aload_n 3, 1) := by decide +kernel
theorem dX5_breaker_111 : decode cX5_breaker 111 = .ok (.getfield 225, 3) := by decide +kernel
theorem dX5_breaker_114 : decode cX5_breaker 114 = .ok (.ireturn, 1) := by decide +kernel
theorem dX5_socket_0 : decode cX5_socket 0 = .ok (.iload_n 1, 1) := by decide +kernel
theorem dX5_socket_1 : decode cX5_socket 1 = .ok (.iconst 0, 1) := by decide +kernel
theorem dX5_socket_2 : decode cX5_socket 2 = .ok (.bipush 11, 2) := by decide +kernel
theorem dX5_socket_4 : decode cX5_socket 4 = .ok (.invokestatic 71, 3) := by decide +kernel
theorem dX5_socket_7 : decode cX5_socket 7 = .ok (.iload_n 2, 1) := by decide +kernel
theorem dX5_socket_8 : decode cX5_socket 8 = .ok (.iconst 0, 1) := by decide +kernel
theorem dX5_socket_9 : decode cX5_socket 9 = .ok (.iconst 1, 1) := by decide +kernel
theorem dX5_socket_10 : decode cX5_socket 10 = .ok (.invokestatic 71, 3) := by decide +kernel
theorem dX5_socket_13 : decode cX5_socket 13 = .ok (.iload_n 2, 1) := by decide +kernel
theorem dX5_socket_14 : decode cX5_socket 14 = .ok (.ifCond .ne 14, 3) := by decide +kernel
theorem dX5_socket_17 : decode cX5_socket 17 = .ok (.aload_n 0, 1) := by decide +kernel
theorem dX5_socket_18 : decode cX5_socket 18 = .ok (.getfield 10, 3) := by decide +kernel
theorem dX5_socket_21 : decode cX5_socket 21 = .ok (.iload_n 1, 1) := by decide +kernel
theorem dX5_socket_22 : decode cX5_socket 22 = .ok (.invokevirtual 124, 3) := by decide +kernel
theorem dX5_socket_25 : decode cX5_socket 25 = .ok (.goto 11, 3) := by decide +kernel
theorem dX5_socket_28 : decode cX5_socket 28 = .ok (.aload_n 0, 1) := by decide +kernel
theorem dX5_socket_29 : decode cX5_socket 29 = .ok (.getfield 10, 3) := by decide +kernel
theorem dX5_socket_32 : decode cX5_socket 32 = .ok (.iload_n 1, 1) := by decide +kernel
theorem dX5_socket_33 : decode cX5_socket 33 = .ok (.invokevirtual 75, 3) := by decide +kernel
theorem dX5_socket_36 : decode cX5_socket 36 = .ok (.ireturn, 1) := by decide +kernel
theorem dX5_count_0 : decode cX5_count 0 = .ok (.iload_n 1, 1) := by decide +kernel
theorem dX5_count_1 : decode cX5_count 1 = .ok (.iconst 0, 1) := by decide +kernel
theorem dX5_count_2 : decode cX5_count 2 = .ok (.bipush 11, 2) := by decide +kernel
theorem dX5_count_4 : decode cX5_count 4 = .ok (.invokestatic 71, 3) := by decide +kernel
theorem dX5_count_7 : decode cX5_count 7 = .ok (.iload_n 1, 1) := by decide +kernel
theorem dX5_count_8 : decode cX5_count 8 = .ok (.tableswitch 148 0 10 #[60, 68, 76, 84, 92, 100, 108, 116, 124, 132, 140], 60) := by decide +kernel
theorem dX5_count_68 : decode cX5_count 68 = .ok (.aload_n 0, 1) := by decide +kernel
theorem dX5_count_69 : decode cX5_count 69 = .ok (.getfield 10, 3) := by decide +kernel
theorem dX5_count_72 : decode cX5_count 72 = .ok (.getfield 176, 3) := by decide +kernel
theorem dX5_count_75 : decode cX5_count 75 = .ok (.ireturn, 1) := by decide +kernel
theorem dX5_count_76 : decode cX5_count 76 = .ok (.aload_n 0, 1) := by decide +kernel
theorem dX5_count_77 : decode cX5_count 77 = .ok (.getfield 10, 3) := by decide +kernel
theorem dX5_count_80 : decode cX5_count 80 = .ok (.getfield 228, 3) := by decide +kernel
theorem dX5_count_83 : decode cX5_count 83 = .ok (.ireturn, 1) := by decide +kernel
theorem dX5_count_84 : decode cX5_count 84 = .ok (.aload_n 0, 1) := by decide +kernel
theorem dX5_count_85 : decode cX5_count 85 = .ok (.getfield 10, 3) := by decide +kernel
theorem dX5_count_88 : decode cX5_count 88 = .ok (.invokevirtual 231, 3) := by decide +kernel
theorem dX5_count_91 : decode cX5_count 91 = .ok (.ireturn, 1) := by decide +kernel
theorem dX5_count_92 : decode cX5_count 92 = .ok (.aload_n 0, 1) := by decide +kernel
theorem dX5_count_93 : decode cX5_count 93 = .ok (.getfield 10, 3) := by decide +kernel
theorem dX5_count_96 : decode cX5_count 96 = .ok (.invokevirtual 234, 3) := by decide +kernel
theorem dX5_count_99 : decode cX5_count 99 = .ok (.ireturn, 1) := by decide +kernel
theorem dX5_count_100 : decode cX5_count 100 = .ok (.aload_n 0, 1) := by decide +kernel
theorem dX5_count_101 : decode cX5_count 101 = .ok (.getfield 10, 3) := by decide +kernel
theorem dX5_count_104 : decode cX5_count 104 = .ok (.invokevirtual 237, 3) := by decide +kernel
theorem dX5_count_107 : decode cX5_count 107 = .ok (.ireturn, 1) := by decide +kernel
theorem dX5_count_108 : decode cX5_count 108 = .ok (.aload_n 0, 1) := by decide +kernel
theorem dX5_count_109 : decode cX5_count 109 = .ok (.getfield 10, 3) := by decide +kernel
theorem dX5_count_112 : decode cX5_count 112 = .ok (.invokevirtual 240, 3) := by decide +kernel
theorem dX5_count_115 : decode cX5_count 115 = .ok (.ireturn, 1) := by decide +kernel
theorem dX5_count_116 : decode cX5_count 116 = .ok (.aload_n 0, 1) := by decide +kernel
theorem dX5_count_117 : decode cX5_count 117 = .ok (.getfield 10, 3) := by decide +kernel
theorem dX5_count_120 : decode cX5_count 120 = .ok (.invokevirtual 243, 3) := by decide +kernel
theorem dX5_count_123 : decode cX5_count 123 = .ok (.ireturn, 1) := by decide +kernel
theorem dX5_count_124 : decode cX5_count 124 = .ok (.aload_n 0, 1) := by decide +kernel
theorem dX5_count_125 : decode cX5_count 125 = .ok (.getfield 10, 3) := by decide +kernel
theorem dX5_count_128 : decode cX5_count 128 = .ok (.invokevirtual 133, 3) := by decide +kernel
theorem dX5_count_131 : decode cX5_count 131 = .ok (.ireturn, 1) := by decide +kernel
theorem dX5_count_132 : decode cX5_count 132 = .ok (.aload_n 0, 1) := by decide +kernel
theorem dX5_count_133 : decode cX5_count 133 = .ok (.getfield 10, 3) := by decide +kernel
theorem dX5_count_136 : decode cX5_count 136 = .ok (.invokevirtual 245, 3) := by decide +kernel
theorem dX5_count_139 : decode cX5_count 139 = .ok (.ireturn, 1) := by decide +kernel
theorem dX5_count_140 : decode cX5_count 140 = .ok (.aload_n 0, 1) := by decide +kernel
theorem dX5_count_141 : decode cX5_count 141 = .ok (.getfield 10, 3) := by decide +kernel
theorem dX5_count_144 : decode cX5_count 144 = .ok (.invokevirtual 247, 3) := by decide +kernel
theorem dX5_count_147 : decode cX5_count 147 = .ok (.ireturn, 1) := by decide +kernel
theorem dX5_count_148 : decode cX5_count 148 = .ok (.aload_n 0, 1) := by decide +kernel
theorem dX5_count_149 : decode cX5_count 149 = .ok (.getfield 10, 3) := by decide +kernel
theorem dX5_count_152 : decode cX5_count 152 = .ok (.getfield 250, 3) := by decide +kernel
theorem dX5_count_155 : decode cX5_count 155 = .ok (.ireturn, 1) := by decide +kernel
theorem dX5_count_156 : decode cX5_count 156 = .ok (.aload_n 0, 1) := by decide +kernel
theorem dX5_count_157 : decode cX5_count 157 = .ok (.getfield 30, 3) := by decide +kernel
theorem dX5_count_160 : decode cX5_count 160 = .ok (.getfield 181, 3) := by decide +kernel
theorem dX5_count_163 : decode cX5_count 163 = .ok (.ireturn, 1) := by decide +kernel
theorem dX5_setting_0 : decode cX5_setting 0 = .ok (.iload_n 1, 1) := by decide +kernel
theorem dX5_setting_1 : decode cX5_setting 1 = .ok (.invokestatic 140, 3) := by decide +kernel
theorem dX5_setting_4 : decode cX5_setting 4 = .ok (.aload_n 0, 1) := by decide +kernel
theorem dX5_setting_5 : decode cX5_setting 5 = .ok (.getfield 10, 3) := by decide +kernel
theorem dX5_setting_8 : decode cX5_setting 8 = .ok (.getfield 150, 3) := by decide +kernel
theorem dX5_setting_11 : decode cX5_setting 11 = .ok (.iload_n 1, 1) := by decide +kernel
theorem dX5_setting_12 : decode cX5_setting 12 = .ok (.iaload, 1) := by decide +kernel
theorem dX5_setting_13 : decode cX5_setting 13 = .ok (.ireturn, 1) := by decide +kernel
theorem dX5_ifPlugged_0 : decode cX5_ifPlugged 0 = .ok (.aload_n 0, 1) := by decide +kernel
theorem dX5_ifPlugged_1 : decode cX5_ifPlugged 1 = .ok (.iload_n 1, 1) := by decide +kernel
theorem dX5_ifPlugged_2 : decode cX5_ifPlugged 2 = .ok (.invokevirtual 67, 3) := by decide +kernel
theorem dX5_ifPlugged_5 : decode cX5_ifPlugged 5 = .ok (.iload_n 2, 1) := by decide +kernel
theorem dX5_ifPlugged_6 : decode cX5_ifPlugged 6 = .ok (.iconst 0, 1) := by decide +kernel
theorem dX5_ifPlugged_7 : decode cX5_ifPlugged 7 = .ok (.bipush 11, 2) := by decide +kernel
theorem dX5_ifPlugged_9 : decode cX5_ifPlugged 9 = .ok (.invokestatic 71, 3) := by decide +kernel
theorem dX5_ifPlugged_12 : decode cX5_ifPlugged 12 = .ok (.iload_n 3, 1) := by decide +kernel
theorem dX5_ifPlugged_13 : decode cX5_ifPlugged 13 = .ok (.iconst 1, 1) := by decide +kernel
theorem dX5_ifPlugged_14 : decode cX5_ifPlugged 14 = .ok (.bipush 48, 2) := by decide +kernel
theorem dX5_ifPlugged_16 : decode cX5_ifPlugged 16 = .ok (.invokestatic 71, 3) := by decide +kernel
theorem dX5_ifPlugged_19 : decode cX5_ifPlugged 19 = .ok (.iload 4, 2) := by decide +kernel
theorem dX5_ifPlugged_21 : decode cX5_ifPlugged 21 = .ok (.iconst 0, 1) := by decide +kernel
theorem dX5_ifPlugged_22 : decode cX5_ifPlugged 22 = .ok (.iconst 2, 1) := by decide +kernel
theorem dX5_ifPlugged_23 : decode cX5_ifPlugged 23 = .ok (.invokestatic 71, 3) := by decide +kernel
theorem dX5_ifPlugged_26 : decode cX5_ifPlugged 26 = .ok (.aload_n 0, 1) := by decide +kernel
theorem dX5_ifPlugged_27 : decode cX5_ifPlugged 27 = .ok (.iload_n 1, 1) := by decide +kernel
theorem dX5_ifPlugged_28 : decode cX5_ifPlugged 28 = .ok (.iload_n 2, 1) := by decide +kernel
theorem dX5_ifPlugged_29 : decode cX5_ifPlugged 29 = .ok (.invokevirtual 253, 3) := by decide +kernel
theorem dX5_ifPlugged_32 : decode cX5_ifPlugged 32 = .ok (.ifCond .eq 5, 3) := by decide +kernel
theorem dX5_ifPlugged_35 : decode cX5_ifPlugged 35 = .ok (.iconst (-1), 1) := by decide +kernel
theorem dX5_ifPlugged_36 : decode cX5_ifPlugged 36 = .ok (.ireturn, 1) := by decide +kernel
theorem dX5_ifPlugged_37 : decode cX5_ifPlugged 37 = .ok (.aload_n 0, 1) := by decide +kernel
theorem dX5_ifPlugged_38 : decode cX5_ifPlugged 38 = .ok (.iload_n 1, 1) := by decide +kernel
theorem dX5_ifPlugged_39 : decode cX5_ifPlugged 39 = .ok (.iload_n 2, 1) := by decide +kernel
theorem dX5_ifPlugged_40 : decode cX5_ifPlugged 40 = .ok (.iload_n 3, 1) := by decide +kernel
theorem dX5_ifPlugged_41 : decode cX5_ifPlugged 41 = .ok (.invokevirtual 257, 3) := by decide +kernel
theorem dX5_ifPlugged_44 : decode cX5_ifPlugged 44 = .ok (.iload 4, 2) := by decide +kernel
theorem dX5_ifPlugged_46 : decode cX5_ifPlugged 46 = .ok (.lookupswitch 58 #[(0, 26), (1, 42)], 26) := by decide +kernel
theorem dX5_ifPlugged_72 : decode cX5_ifPlugged 72 = .ok (.aload_n 0, 1) := by decide +kernel
theorem dX5_ifPlugged_73 : decode cX5_ifPlugged 73 = .ok (.getfield 16, 3) := by decide +kernel
theorem dX5_ifPlugged_76 : decode cX5_ifPlugged 76 = .ok (.invokevirtual 133, 3) := by decide +kernel
theorem dX5_ifPlugged_79 : decode cX5_ifPlugged 79 = .ok (.aload_n 0, 1) := by decide +kernel
theorem dX5_ifPlugged_80 : decode cX5_ifPlugged 80 = .ok (.getfield 10, 3) := by decide +kernel
theorem dX5_ifPlugged_83 : decode cX5_ifPlugged 83 = .ok (.invokevirtual 133, 3) := by decide +kernel
theorem dX5_ifPlugged_86 : decode cX5_ifPlugged 86 = .ok (.isub, 1) := by decide +kernel
theorem dX5_ifPlugged_87 : decode cX5_ifPlugged 87 = .ok (.ireturn, 1) := by decide +kernel
theorem dX5_ifPlugged_88 : decode cX5_ifPlugged 88 = .ok (.aload_n 0, 1) := by decide +kernel
theorem dX5_ifPlugged_89 : decode cX5_ifPlugged 89 = .ok (.getfield 16, 3) := by decide +kernel
theorem dX5_ifPlugged_92 : decode cX5_ifPlugged 92 = .ok (.invokevirtual 245, 3) := by decide +kernel
theorem dX5_ifPlugged_95 : decode cX5_ifPlugged 95 = .ok (.aload_n 0, 1) := by decide +kernel
theorem dX5_ifPlugged_96 : decode cX5_ifPlugged 96 = .ok (.getfield 10, 3) := by decide +kernel
theorem dX5_ifPlugged_99 : decode cX5_ifPlugged 99 = .ok (.invokevirtual 245, 3) := by decide +kernel
theorem dX5_ifPlugged_102 : decode cX5_ifPlugged 102 = .ok (.isub, 1) := by decide +kernel
theorem dX5_ifPlugged_103 : decode cX5_ifPlugged 103 = .ok (.ireturn, 1) := by decide +kernel
theorem dX5_ifPlugged_104 : decode cX5_ifPlugged 104 = .ok (.aload_n 0, 1) := by decide +kernel
theorem dX5_ifPlugged_105 : decode cX5_ifPlugged 105 = .ok (.getfield 16, 3) := by decide +kernel
theorem dX5_ifPlugged_108 : decode cX5_ifPlugged 108 = .ok (.getfield 85, 3) := by decide +kernel
theorem dX5_ifPlugged_111 : decode cX5_ifPlugged 111 = .ok (.iload_n 1, 1) := by decide +kernel
theorem dX5_ifPlugged_112 : decode cX5_ifPlugged 112 = .ok (.aaload, 1) := by decide +kernel
theorem dX5_ifPlugged_113 : decode cX5_ifPlugged 113 = .ok (.getfield 201, 3) := by decide +kernel
theorem dX5_ifPlugged_116 : decode cX5_ifPlugged 116 = .ok (.aload_n 0, 1) := by decide +kernel
theorem dX5_ifPlugged_117 : decode cX5_ifPlugged 117 = .ok (.getfield 10, 3) := by decide +kernel
theorem dX5_ifPlugged_120 : decode cX5_ifPlugged 120 = .ok (.getfield 85, 3) := by decide +kernel
theorem dX5_ifPlugged_123 : decode cX5_ifPlugged 123 = .ok (.iload_n 1, 1) := by decide +kernel
theorem dX5_ifPlugged_124 : decode cX5_ifPlugged 124 = .ok (.aaload, 1) := by decide +kernel
theorem dX5_ifPlugged_125 : decode cX5_ifPlugged 125 = .ok (.getfield 201, 3) := by decide +kernel
theorem dX5_ifPlugged_128 : decode cX5_ifPlugged 128 = .ok (.isub, 1) := by decide +kernel
theorem dX5_ifPlugged_129 : decode cX5_ifPlugged 129 = .ok (.ireturn, 1) := by decide +kernel
theorem dX5_tripsIn_0 : decode cX5_tripsIn 0 = .ok (.iload_n 1, 1) := by decide +kernel
theorem dX5_tripsIn_1 : decode cX5_tripsIn 1 = .ok (.iconst 0, 1) := by decide +kernel
theorem dX5_tripsIn_2 : decode cX5_tripsIn 2 = .ok (.iconst 3, 1) := by decide +kernel
theorem dX5_tripsIn_3 : decode cX5_tripsIn 3 = .ok (.invokestatic 71, 3) := by decide +kernel
theorem dX5_tripsIn_6 : decode cX5_tripsIn 6 = .ok (.aload_n 0, 1) := by decide +kernel
theorem dX5_tripsIn_7 : decode cX5_tripsIn 7 = .ok (.getfield 16, 3) := by decide +kernel
theorem dX5_tripsIn_10 : decode cX5_tripsIn 10 = .ok (.aload_n 0, 1) := by decide +kernel
theorem dX5_tripsIn_11 : decode cX5_tripsIn 11 = .ok (.getfield 10, 3) := by decide +kernel
theorem dX5_tripsIn_14 : decode cX5_tripsIn 14 = .ok (.invokevirtual 173, 3) := by decide +kernel
theorem dX5_tripsIn_17 : decode cX5_tripsIn 17 = .ok (.iconst 0, 1) := by decide +kernel
theorem dX5_tripsIn_18 : decode cX5_tripsIn 18 = .ok (.istore_n 2, 1) := by decide +kernel
theorem dX5_tripsIn_19 : decode cX5_tripsIn 19 = .ok (.iload_n 2, 1) := by decide +kernel
theorem dX5_tripsIn_20 : decode cX5_tripsIn 20 = .ok (.bipush 96, 2) := by decide +kernel
theorem dX5_tripsIn_22 : decode cX5_tripsIn 22 = .ok (.if_icmp .gt 33, 3) := by decide +kernel
theorem dX5_tripsIn_25 : decode cX5_tripsIn 25 = .ok (.aload_n 0, 1) := by decide +kernel
theorem dX5_tripsIn_26 : decode cX5_tripsIn 26 = .ok (.getfield 16, 3) := by decide +kernel
theorem dX5_tripsIn_29 : decode cX5_tripsIn 29 = .ok (.getfield 101, 3) := by decide +kernel
theorem dX5_tripsIn_32 : decode cX5_tripsIn 32 = .ok (.iload_n 1, 1) := by decide +kernel
theorem dX5_tripsIn_33 : decode cX5_tripsIn 33 = .ok (.aaload, 1) := by decide +kernel
theorem dX5_tripsIn_34 : decode cX5_tripsIn 34 = .ok (.getfield 110, 3) := by decide +kernel
theorem dX5_tripsIn_37 : decode cX5_tripsIn 37 = .ok (.ifCond .ne 5, 3) := by decide +kernel
theorem dX5_tripsIn_40 : decode cX5_tripsIn 40 = .ok (.iload_n 2, 1) := by decide +kernel
theorem dX5_tripsIn_41 : decode cX5_tripsIn 41 = .ok (.ireturn, 1) := by decide +kernel
theorem dX5_tripsIn_42 : decode cX5_tripsIn 42 = .ok (.aload_n 0, 1) := by decide +kernel
theorem dX5_tripsIn_43 : decode cX5_tripsIn 43 = .ok (.getfield 16, 3) := by decide +kernel
theorem dX5_tripsIn_46 : decode cX5_tripsIn 46 = .ok (.invokevirtual 260, 3) := by decide +kernel
theorem dX5_tripsIn_49 : decode cX5_tripsIn 49 = .ok (.iinc 2 1, 3) := by decide +kernel
theorem dX5_tripsIn_52 : decode cX5_tripsIn 52 = .ok (.goto (-33), 3) := by decide +kernel
theorem dX5_tripsIn_55 : decode cX5_tripsIn 55 = .ok (.iconst (-1), 1) := by decide +kernel
theorem dX5_tripsIn_56 : decode cX5_tripsIn 56 = .ok (.ireturn, 1) := by decide +kernel
theorem dX5_bestSocket_0 : decode cX5_bestSocket 0 = .ok (.aload_n 0, 1) := by decide +kernel
theorem dX5_bestSocket_1 : decode cX5_bestSocket 1 = .ok (.iload_n 1, 1) := by decide +kernel
theorem dX5_bestSocket_2 : decode cX5_bestSocket 2 = .ok (.invokevirtual 67, 3) := by decide +kernel
theorem dX5_bestSocket_5 : decode cX5_bestSocket 5 = .ok (.iconst (-1), 1) := by decide +kernel
theorem dX5_bestSocket_6 : decode cX5_bestSocket 6 = .ok (.istore_n 2, 1) := by decide +kernel
theorem dX5_bestSocket_7 : decode cX5_bestSocket 7 = .ok (.iconst 0, 1) := by decide +kernel
theorem dX5_bestSocket_8 : decode cX5_bestSocket 8 = .ok (.istore_n 3, 1) := by decide +kernel
theorem dX5_bestSocket_9 : decode cX5_bestSocket 9 = .ok (.iconst 0, 1) := by decide +kernel
theorem dX5_bestSocket_10 : decode cX5_bestSocket 10 = .ok (.istore 4, 2) := by decide +kernel
theorem dX5_bestSocket_12 : decode cX5_bestSocket 12 = .ok (.iconst 0, 1) := by decide +kernel
theorem dX5_bestSocket_13 : decode cX5_bestSocket 13 = .ok (.istore 5, 2) := by decide +kernel
theorem dX5_bestSocket_15 : decode cX5_bestSocket 15 = .ok (.iconst 0, 1) := by decide +kernel
theorem dX5_bestSocket_16 : decode cX5_bestSocket 16 = .ok (.istore 6, 2) := by decide +kernel
theorem dX5_bestSocket_18 : decode cX5_bestSocket 18 = .ok (.iload 6, 2) := by decide +kernel
theorem dX5_bestSocket_20 : decode cX5_bestSocket 20 = .ok (.bipush 12, 2) := by decide +kernel
theorem dX5_bestSocket_22 : decode cX5_bestSocket 22 = .ok (.if_icmp .ge 111, 3) := by decide +kernel
theorem dX5_bestSocket_25 : decode cX5_bestSocket 25 = .ok (.iconst 1, 1) := by decide +kernel
theorem dX5_bestSocket_26 : decode cX5_bestSocket 26 = .ok (.aload_n 0, 1) := by decide +kernel
theorem dX5_bestSocket_27 : decode cX5_bestSocket 27 = .ok (.getfield 10, 3) := by decide +kernel
theorem dX5_bestSocket_30 : decode cX5_bestSocket 30 = .ok (.iload 6, 2) := by decide +kernel
theorem dX5_bestSocket_32 : decode cX5_bestSocket 32 = .ok (.invokevirtual 124, 3) := by decide +kernel
theorem dX5_bestSocket_35 : decode cX5_bestSocket 35 = .ok (.ishl, 1) := by decide +kernel
theorem dX5_bestSocket_36 : decode cX5_bestSocket 36 = .ok (.istore 7, 2) := by decide +kernel
theorem dX5_bestSocket_38 : decode cX5_bestSocket 38 = .ok (.aload_n 0, 1) := by decide +kernel
theorem dX5_bestSocket_39 : decode cX5_bestSocket 39 = .ok (.iload_n 1, 1) := by decide +kernel
theorem dX5_bestSocket_40 : decode cX5_bestSocket 40 = .ok (.iload 6, 2) := by decide +kernel
theorem dX5_bestSocket_42 : decode cX5_bestSocket 42 = .ok (.invokevirtual 253, 3) := by decide +kernel
theorem dX5_bestSocket_45 : decode cX5_bestSocket 45 = .ok (.ifCond .ne 82, 3) := by decide +kernel
theorem dX5_bestSocket_48 : decode cX5_bestSocket 48 = .ok (.iload 5, 2) := by decide +kernel
theorem dX5_bestSocket_50 : decode cX5_bestSocket 50 = .ok (.iload 7, 2) := by decide +kernel
theorem dX5_bestSocket_52 : decode cX5_bestSocket 52 = .ok (.iand, 1) := by decide +kernel
theorem dX5_bestSocket_53 : decode cX5_bestSocket 53 = .ok (.ifCond .eq 6, 3) := by decide +kernel
theorem dX5_bestSocket_56 : decode cX5_bestSocket 56 = .ok (.goto 71, 3) := by decide +kernel
theorem dX5_bestSocket_59 : decode cX5_bestSocket 59 = .ok (.iload 5, 2) := by decide +kernel
theorem dX5_bestSocket_61 : decode cX5_bestSocket 61 = .ok (.iload 7, 2) := by decide +kernel
theorem dX5_bestSocket_63 : decode cX5_bestSocket 63 = .ok (.ior, 1) := by decide +kernel
theorem dX5_bestSocket_64 : decode cX5_bestSocket 64 = .ok (.istore 5, 2) := by decide +kernel
theorem dX5_bestSocket_66 : decode cX5_bestSocket 66 = .ok (.aload_n 0, 1) := by decide +kernel
theorem dX5_bestSocket_67 : decode cX5_bestSocket 67 = .ok (.iload_n 1, 1) := by decide +kernel
theorem dX5_bestSocket_68 : decode cX5_bestSocket 68 = .ok (.iload 6, 2) := by decide +kernel
theorem dX5_bestSocket_70 : decode cX5_bestSocket 70 = .ok (.bipush 24, 2) := by decide +kernel
theorem dX5_bestSocket_72 : decode cX5_bestSocket 72 = .ok (.invokevirtual 257, 3) := by decide +kernel
theorem dX5_bestSocket_75 : decode cX5_bestSocket 75 = .ok (.aload_n 0, 1) := by decide +kernel
theorem dX5_bestSocket_76 : decode cX5_bestSocket 76 = .ok (.getfield 16, 3) := by decide +kernel
theorem dX5_bestSocket_79 : decode cX5_bestSocket 79 = .ok (.invokevirtual 245, 3) := by decide +kernel
theorem dX5_bestSocket_82 : decode cX5_bestSocket 82 = .ok (.istore 8, 2) := by decide +kernel
theorem dX5_bestSocket_84 : decode cX5_bestSocket 84 = .ok (.aload_n 0, 1) := by decide +kernel
theorem dX5_bestSocket_85 : decode cX5_bestSocket 85 = .ok (.getfield 16, 3) := by decide +kernel
theorem dX5_bestSocket_88 : decode cX5_bestSocket 88 = .ok (.invokevirtual 133, 3) := by decide +kernel
theorem dX5_bestSocket_91 : decode cX5_bestSocket 91 = .ok (.istore 9, 2) := by decide +kernel
theorem dX5_bestSocket_93 : decode cX5_bestSocket 93 = .ok (.iload_n 2, 1) := by decide +kernel
theorem dX5_bestSocket_94 : decode cX5_bestSocket 94 = .ok (.iconst (-1), 1) := by decide +kernel
theorem dX5_bestSocket_95 : decode cX5_bestSocket 95 = .ok (.if_icmp .eq 22, 3) := by decide +kernel
theorem dX5_bestSocket_98 : decode cX5_bestSocket 98 = .ok (.iload 8, 2) := by decide +kernel
theorem dX5_bestSocket_100 : decode cX5_bestSocket 100 = .ok (.iload_n 3, 1) := by decide +kernel
theorem dX5_bestSocket_101 : decode cX5_bestSocket 101 = .ok (.if_icmp .lt 16, 3) := by decide +kernel
theorem dX5_bestSocket_104 : decode cX5_bestSocket 104 = .ok (.iload 8, 2) := by decide +kernel
theorem dX5_bestSocket_106 : decode cX5_bestSocket 106 = .ok (.iload_n 3, 1) := by decide +kernel
theorem dX5_bestSocket_107 : decode cX5_bestSocket 107 = .ok (.if_icmp .ne 20, 3) := by decide +kernel
theorem dX5_bestSocket_110 : decode cX5_bestSocket 110 = .ok (.iload 9, 2) := by decide +kernel
theorem dX5_bestSocket_112 : decode cX5_bestSocket 112 = .ok (.iload 4, 2) := by decide +kernel
theorem dX5_bestSocket_114 : decode cX5_bestSocket 114 = .ok (.if_icmp .ge 13, 3) := by decide +kernel
theorem dX5_bestSocket_117 : decode cX5_bestSocket 117 = .ok (.iload 6, 2) := by decide +kernel
theorem dX5_bestSocket_119 : decode cX5_bestSocket 119 = .ok (.istore_n 2, 1) := by decide +kernel
theorem dX5_bestSocket_120 : decode cX5_bestSocket 120 = .ok (.iload 8, 2) := by decide +kernel
theorem dX5_bestSocket_122 : decode cX5_bestSocket 122 = .ok (.istore_n 3, 1) := by decide +kernel
theorem dX5_bestSocket_123 : decode cX5_bestSocket 123 = .ok (.iload 9, 2) := by decide +kernel
theorem dX5_bestSocket_125 : decode cX5_bestSocket 125 = .ok (.istore 4, 2) := by decide +kernel
theorem dX5_bestSocket_127 : decode cX5_bestSocket 127 = .ok (.iinc 6 1, 3) := by decide +kernel
theorem dX5_bestSocket_130 : decode cX5_bestSocket 130 = .ok (.goto (-112), 3) := by decide +kernel
theorem dX5_bestSocket_133 : decode cX5_bestSocket 133 = .ok (.iload_n 2, 1) := by decide +kernel
theorem dX5_bestSocket_134 : decode cX5_bestSocket 134 = .ok (.ireturn, 1) := by decide +kernel
theorem dX5_leastBound_0 : decode cX5_leastBound 0 = .ok (.iload_n 1, 1) := by decide +kernel
theorem dX5_leastBound_1 : decode cX5_leastBound 1 = .ok (.iconst 0, 1) := by decide +kernel
theorem dX5_leastBound_2 : decode cX5_leastBound 2 = .ok (.iconst 3, 1) := by decide +kernel
theorem dX5_leastBound_3 : decode cX5_leastBound 3 = .ok (.invokestatic 71, 3) := by decide +kernel
theorem dX5_leastBound_6 : decode cX5_leastBound 6 = .ok (.bipush 9, 2) := by decide +kernel
theorem dX5_leastBound_8 : decode cX5_leastBound 8 = .ok (.istore_n 2, 1) := by decide +kernel
theorem dX5_leastBound_9 : decode cX5_leastBound 9 = .ok (.sipush 512, 3) := by decide +kernel
theorem dX5_leastBound_12 : decode cX5_leastBound 12 = .ok (.istore_n 3, 1) := by decide +kernel
theorem dX5_leastBound_13 : decode cX5_leastBound 13 = .ok (.iload_n 3, 1) := by decide +kernel
theorem dX5_leastBound_14 : decode cX5_leastBound 14 = .ok (.ifCond .le 34, 3) := by decide +kernel
theorem dX5_leastBound_17 : decode cX5_leastBound 17 = .ok (.iload_n 2, 1) := by decide +kernel
theorem dX5_leastBound_18 : decode cX5_leastBound 18 = .ok (.iload_n 3, 1) := by decide +kernel
theorem dX5_leastBound_19 : decode cX5_leastBound 19 = .ok (.iadd, 1) := by decide +kernel
theorem dX5_leastBound_20 : decode cX5_leastBound 20 = .ok (.sipush 999, 3) := by decide +kernel
theorem dX5_leastBound_23 : decode cX5_leastBound 23 = .ok (.if_icmp .gt 18, 3) := by decide +kernel
theorem dX5_leastBound_26 : decode cX5_leastBound 26 = .ok (.aload_n 0, 1) := by decide +kernel
theorem dX5_leastBound_27 : decode cX5_leastBound 27 = .ok (.iload_n 1, 1) := by decide +kernel
theorem dX5_leastBound_28 : decode cX5_leastBound 28 = .ok (.iload_n 2, 1) := by decide +kernel
theorem dX5_leastBound_29 : decode cX5_leastBound 29 = .ok (.iload_n 3, 1) := by decide +kernel
theorem dX5_leastBound_30 : decode cX5_leastBound 30 = .ok (.iadd, 1) := by decide +kernel
theorem dX5_leastBound_31 : decode cX5_leastBound 31 = .ok (.invokevirtual 263, 3) := by decide +kernel
theorem dX5_leastBound_34 : decode cX5_leastBound 34 = .ok (.ifCond .eq 7, 3) := by decide +kernel
theorem dX5_leastBound_37 : decode cX5_leastBound 37 = .ok (.iload_n 2, 1) := by decide +kernel
theorem dX5_leastBound_38 : decode cX5_leastBound 38 = .ok (.iload_n 3, 1) := by decide +kernel
theorem dX5_leastBound_39 : decode cX5_leastBound 39 = .ok (.iadd, 1) := by decide +kernel
theorem dX5_leastBound_40 : decode cX5_leastBound 40 = .ok (.istore_n 2, 1) := by decide +kernel
theorem dX5_leastBound_41 : decode cX5_leastBound 41 = .ok (.iload_n 3, 1) := by decide +kernel
theorem dX5_leastBound_42 : decode cX5_leastBound 42 = .ok (.iconst 2, 1) := by decide +kernel
theorem dX5_leastBound_43 : decode cX5_leastBound 43 = .ok (.idiv, 1) := by decide +kernel
theorem dX5_leastBound_44 : decode cX5_leastBound 44 = .ok (.istore_n 3, 1) := by decide +kernel
theorem dX5_leastBound_45 : decode cX5_leastBound 45 = .ok (.goto (-32), 3) := by decide +kernel
theorem dX5_leastBound_48 : decode cX5_leastBound 48 = .ok (.iload_n 2, 1) := by decide +kernel
theorem dX5_leastBound_49 : decode cX5_leastBound 49 = .ok (.sipush 999, 3) := by decide +kernel
theorem dX5_leastBound_52 : decode cX5_leastBound 52 = .ok (.if_icmp .ne 7, 3) := by decide +kernel
theorem dX5_leastBound_55 : decode cX5_leastBound 55 = .ok (.iconst (-1), 1) := by decide +kernel
theorem dX5_leastBound_56 : decode cX5_leastBound 56 = .ok (.goto 6, 3) := by decide +kernel
theorem dX5_leastBound_59 : decode cX5_leastBound 59 = .ok (.iload_n 2, 1) := by decide +kernel
theorem dX5_leastBound_60 : decode cX5_leastBound 60 = .ok (.iconst 1, 1) := by decide +kernel
theorem dX5_leastBound_61 : decode cX5_leastBound 61 = .ok (.iadd, 1) := by decide +kernel
theorem dX5_leastBound_62 : decode cX5_leastBound 62 = .ok (.ireturn, 1) := by decide +kernel
theorem dX5_servedShare_0 : decode cX5_servedShare 0 = .ok (.aload_n 0, 1) := by decide +kernel
theorem dX5_servedShare_1 : decode cX5_servedShare 1 = .ok (.getfield 10, 3) := by decide +kernel
theorem dX5_servedShare_4 : decode cX5_servedShare 4 = .ok (.getfield 266, 3) := by decide +kernel
theorem dX5_servedShare_7 : decode cX5_servedShare 7 = .ok (.aload_n 0, 1) := by decide +kernel
theorem dX5_servedShare_8 : decode cX5_servedShare 8 = .ok (.getfield 10, 3) := by decide +kernel
theorem dX5_servedShare_11 : decode cX5_servedShare 11 = .ok (.invokevirtual 245, 3) := by decide +kernel
theorem dX5_servedShare_14 : decode cX5_servedShare 14 = .ok (.iadd, 1) := by decide +kernel
theorem dX5_servedShare_15 : decode cX5_servedShare 15 = .ok (.istore_n 1, 1) := by decide +kernel
theorem dX5_servedShare_16 : decode cX5_servedShare 16 = .ok (.iload_n 1, 1) := by decide +kernel
theorem dX5_servedShare_17 : decode cX5_servedShare 17 = .ok (.ifCond .ne 7, 3) := by decide +kernel
theorem dX5_servedShare_20 : decode cX5_servedShare 20 = .ok (.dconst 1, 1) := by decide +kernel
theorem dX5_servedShare_21 : decode cX5_servedShare 21 = .ok (.goto 14, 3) := by decide +kernel
theorem dX5_servedShare_24 : decode cX5_servedShare 24 = .ok (.aload_n 0, 1) := by decide +kernel
theorem dX5_servedShare_25 : decode cX5_servedShare 25 = .ok (.getfield 10, 3) := by decide +kernel
theorem dX5_servedShare_28 : decode cX5_servedShare 28 = .ok (.getfield 266, 3) := by decide +kernel
theorem dX5_servedShare_31 : decode cX5_servedShare 31 = .ok (.i2d, 1) := by decide +kernel
theorem dX5_servedShare_32 : decode cX5_servedShare 32 = .ok (.iload_n 1, 1) := by decide +kernel
theorem dX5_servedShare_33 : decode cX5_servedShare 33 = .ok (.i2d, 1) := by decide +kernel
theorem dX5_servedShare_34 : decode cX5_servedShare 34 = .ok (.ddiv, 1) := by decide +kernel
theorem dX5_servedShare_35 : decode cX5_servedShare 35 = .ok (.dreturn, 1) := by decide +kernel
theorem dX5_digest_0 : decode cX5_digest 0 = .ok (.ldc2_w 269, 3) := by decide +kernel
theorem dX5_digest_3 : decode cX5_digest 3 = .ok (.lstore_n 1, 1) := by decide +kernel
theorem dX5_digest_4 : decode cX5_digest 4 = .ok (.iconst 0, 1) := by decide +kernel
theorem dX5_digest_5 : decode cX5_digest 5 = .ok (.istore_n 3, 1) := by decide +kernel
theorem dX5_digest_6 : decode cX5_digest 6 = .ok (.iload_n 3, 1) := by decide +kernel
theorem dX5_digest_7 : decode cX5_digest 7 = .ok (.bipush 12, 2) := by decide +kernel
theorem dX5_digest_9 : decode cX5_digest 9 = .ok (.if_icmp .ge 20, 3) := by decide +kernel
theorem dX5_digest_12 : decode cX5_digest 12 = .ok (.lload_n 1, 1) := by decide +kernel
theorem dX5_digest_13 : decode cX5_digest 13 = .ok (.aload_n 0, 1) := by decide +kernel
theorem dX5_digest_14 : decode cX5_digest 14 = .ok (.iload_n 3, 1) := by decide +kernel
theorem dX5_digest_15 : decode cX5_digest 15 = .ok (.invokevirtual 271, 3) := by decide +kernel
theorem dX5_digest_18 : decode cX5_digest 18 = .ok (.i2l, 1) := by decide +kernel
theorem dX5_digest_19 : decode cX5_digest 19 = .ok (.invokestatic 274, 3) := by decide +kernel
theorem dX5_digest_22 : decode cX5_digest 22 = .ok (.lstore_n 1, 1) := by decide +kernel
theorem dX5_digest_23 : decode cX5_digest 23 = .ok (.iinc 3 1, 3) := by decide +kernel
theorem dX5_digest_26 : decode cX5_digest 26 = .ok (.goto (-20), 3) := by decide +kernel
theorem dX5_digest_29 : decode cX5_digest 29 = .ok (.iconst 0, 1) := by decide +kernel
theorem dX5_digest_30 : decode cX5_digest 30 = .ok (.istore_n 3, 1) := by decide +kernel
theorem dX5_digest_31 : decode cX5_digest 31 = .ok (.iload_n 3, 1) := by decide +kernel
theorem dX5_digest_32 : decode cX5_digest 32 = .ok (.iconst 3, 1) := by decide +kernel
theorem dX5_digest_33 : decode cX5_digest 33 = .ok (.if_icmp .ge 20, 3) := by decide +kernel
theorem dX5_digest_36 : decode cX5_digest 36 = .ok (.lload_n 1, 1) := by decide +kernel
theorem dX5_digest_37 : decode cX5_digest 37 = .ok (.aload_n 0, 1) := by decide +kernel
theorem dX5_digest_38 : decode cX5_digest 38 = .ok (.iload_n 3, 1) := by decide +kernel
theorem dX5_digest_39 : decode cX5_digest 39 = .ok (.invokevirtual 278, 3) := by decide +kernel
theorem dX5_digest_42 : decode cX5_digest 42 = .ok (.i2l, 1) := by decide +kernel
theorem dX5_digest_43 : decode cX5_digest 43 = .ok (.invokestatic 274, 3) := by decide +kernel
theorem dX5_digest_46 : decode cX5_digest 46 = .ok (.lstore_n 1, 1) := by decide +kernel
theorem dX5_digest_47 : decode cX5_digest 47 = .ok (.iinc 3 1, 3) := by decide +kernel
theorem dX5_digest_50 : decode cX5_digest 50 = .ok (.goto (-19), 3) := by decide +kernel
theorem dX5_digest_53 : decode cX5_digest 53 = .ok (.iconst 0, 1) := by decide +kernel
theorem dX5_digest_54 : decode cX5_digest 54 = .ok (.istore_n 3, 1) := by decide +kernel
theorem dX5_digest_55 : decode cX5_digest 55 = .ok (.iload_n 3, 1) := by decide +kernel
theorem dX5_digest_56 : decode cX5_digest 56 = .ok (.aload_n 0, 1) := by decide +kernel
theorem dX5_digest_57 : decode cX5_digest 57 = .ok (.getfield 10, 3) := by decide +kernel
theorem dX5_digest_60 : decode cX5_digest 60 = .ok (.getfield 228, 3) := by decide +kernel
theorem dX5_digest_63 : decode cX5_digest 63 = .ok (.if_icmp .ge 81, 3) := by decide +kernel
theorem dX5_digest_66 : decode cX5_digest 66 = .ok (.iconst 0, 1) := by decide +kernel
theorem dX5_digest_67 : decode cX5_digest 67 = .ok (.istore 4, 2) := by decide +kernel
theorem dX5_digest_69 : decode cX5_digest 69 = .ok (.iload 4, 2) := by decide +kernel
theorem dX5_digest_71 : decode cX5_digest 71 = .ok (.bipush 10, 2) := by decide +kernel
theorem dX5_digest_73 : decode cX5_digest 73 = .ok (.if_icmp .ge 22, 3) := by decide +kernel
theorem dX5_digest_76 : decode cX5_digest 76 = .ok (.lload_n 1, 1) := by decide +kernel
theorem dX5_digest_77 : decode cX5_digest 77 = .ok (.aload_n 0, 1) := by decide +kernel
theorem dX5_digest_78 : decode cX5_digest 78 = .ok (.iload_n 3, 1) := by decide +kernel
theorem dX5_digest_79 : decode cX5_digest 79 = .ok (.iload 4, 2) := by decide +kernel
theorem dX5_digest_81 : decode cX5_digest 81 = .ok (.invokevirtual 281, 3) := by decide +kernel
theorem dX5_digest_84 : decode cX5_digest 84 = .ok (.i2l, 1) := by decide +kernel
theorem dX5_digest_85 : decode cX5_digest 85 = .ok (.invokestatic 274, 3) := by decide +kernel
theorem dX5_digest_88 : decode cX5_digest 88 = .ok (.lstore_n 1, 1) := by decide +kernel
theorem dX5_digest_89 : decode cX5_digest 89 = .ok (.iinc 4 1, 3) := by decide +kernel
theorem dX5_digest_92 : decode cX5_digest 92 = .ok (.goto (-23), 3) := by decide +kernel
theorem dX5_digest_95 : decode cX5_digest 95 = .ok (.iconst 0, 1) := by decide +kernel
theorem dX5_digest_96 : decode cX5_digest 96 = .ok (.istore 4, 2) := by decide +kernel
theorem dX5_digest_98 : decode cX5_digest 98 = .ok (.iload 4, 2) := by decide +kernel
theorem dX5_digest_100 : decode cX5_digest 100 = .ok (.iconst 3, 1) := by decide +kernel
theorem dX5_digest_101 : decode cX5_digest 101 = .ok (.if_icmp .ge 26, 3) := by decide +kernel
theorem dX5_digest_104 : decode cX5_digest 104 = .ok (.lload_n 1, 1) := by decide +kernel
theorem dX5_digest_105 : decode cX5_digest 105 = .ok (.aload_n 0, 1) := by decide +kernel
theorem dX5_digest_106 : decode cX5_digest 106 = .ok (.iload_n 3, 1) := by decide +kernel
theorem dX5_digest_107 : decode cX5_digest 107 = .ok (.bipush 10, 2) := by decide +kernel
theorem dX5_digest_109 : decode cX5_digest 109 = .ok (.bipush 12, 2) := by decide +kernel
theorem dX5_digest_111 : decode cX5_digest 111 = .ok (.iload 4, 2) := by decide +kernel
theorem dX5_digest_113 : decode cX5_digest 113 = .ok (.invokevirtual 284, 3) := by decide +kernel
theorem dX5_digest_116 : decode cX5_digest 116 = .ok (.i2l, 1) := by decide +kernel
theorem dX5_digest_117 : decode cX5_digest 117 = .ok (.invokestatic 274, 3) := by decide +kernel
theorem dX5_digest_120 : decode cX5_digest 120 = .ok (.lstore_n 1, 1) := by decide +kernel
theorem dX5_digest_121 : decode cX5_digest 121 = .ok (.iinc 4 1, 3) := by decide +kernel
theorem dX5_digest_124 : decode cX5_digest 124 = .ok (.goto (-26), 3) := by decide +kernel
theorem dX5_digest_127 : decode cX5_digest 127 = .ok (.lload_n 1, 1) := by decide +kernel
theorem dX5_digest_128 : decode cX5_digest 128 = .ok (.aload_n 0, 1) := by decide +kernel
theorem dX5_digest_129 : decode cX5_digest 129 = .ok (.iload_n 3, 1) := by decide +kernel
theorem dX5_digest_130 : decode cX5_digest 130 = .ok (.invokevirtual 287, 3) := by decide +kernel
theorem dX5_digest_133 : decode cX5_digest 133 = .ok (.i2l, 1) := by decide +kernel
theorem dX5_digest_134 : decode cX5_digest 134 = .ok (.invokestatic 274, 3) := by decide +kernel
theorem dX5_digest_137 : decode cX5_digest 137 = .ok (.lstore_n 1, 1) := by decide +kernel
theorem dX5_digest_138 : decode cX5_digest 138 = .ok (.iinc 3 1, 3) := by decide +kernel
theorem dX5_digest_141 : decode cX5_digest 141 = .ok (.goto (-86), 3) := by decide +kernel
theorem dX5_digest_144 : decode cX5_digest 144 = .ok (.iconst 0, 1) := by decide +kernel
theorem dX5_digest_145 : decode cX5_digest 145 = .ok (.istore_n 3, 1) := by decide +kernel
theorem dX5_digest_146 : decode cX5_digest 146 = .ok (.iload_n 3, 1) := by decide +kernel
theorem dX5_digest_147 : decode cX5_digest 147 = .ok (.iconst 4, 1) := by decide +kernel
theorem dX5_digest_148 : decode cX5_digest 148 = .ok (.if_icmp .ge 49, 3) := by decide +kernel
theorem dX5_digest_151 : decode cX5_digest 151 = .ok (.iconst 0, 1) := by decide +kernel
theorem dX5_digest_152 : decode cX5_digest 152 = .ok (.istore 4, 2) := by decide +kernel
theorem dX5_digest_154 : decode cX5_digest 154 = .ok (.iload 4, 2) := by decide +kernel
theorem dX5_digest_156 : decode cX5_digest 156 = .ok (.bipush 7, 2) := by decide +kernel
theorem dX5_digest_158 : decode cX5_digest 158 = .ok (.if_icmp .ge 22, 3) := by decide +kernel
theorem dX5_digest_161 : decode cX5_digest 161 = .ok (.lload_n 1, 1) := by decide +kernel
theorem dX5_digest_162 : decode cX5_digest 162 = .ok (.aload_n 0, 1) := by decide +kernel
theorem dX5_digest_163 : decode cX5_digest 163 = .ok (.iload_n 3, 1) := by decide +kernel
theorem dX5_digest_164 : decode cX5_digest 164 = .ok (.iload 4, 2) := by decide +kernel
theorem dX5_digest_166 : decode cX5_digest 166 = .ok (.invokevirtual 290, 3) := by decide +kernel
theorem dX5_digest_169 : decode cX5_digest 169 = .ok (.i2l, 1) := by decide +kernel
theorem dX5_digest_170 : decode cX5_digest 170 = .ok (.invokestatic 274, 3) := by decide +kernel
theorem dX5_digest_173 : decode cX5_digest 173 = .ok (.lstore_n 1, 1) := by decide +kernel
theorem dX5_digest_174 : decode cX5_digest 174 = .ok (.iinc 4 1, 3) := by decide +kernel
theorem dX5_digest_177 : decode cX5_digest 177 = .ok (.goto (-23), 3) := by decide +kernel
theorem dX5_digest_180 : decode cX5_digest 180 = .ok (.lload_n 1, 1) := by decide +kernel
theorem dX5_digest_181 : decode cX5_digest 181 = .ok (.aload_n 0, 1) := by decide +kernel
theorem dX5_digest_182 : decode cX5_digest 182 = .ok (.iload_n 3, 1) := by decide +kernel
theorem dX5_digest_183 : decode cX5_digest 183 = .ok (.invokevirtual 293, 3) := by decide +kernel
theorem dX5_digest_186 : decode cX5_digest 186 = .ok (.i2l, 1) := by decide +kernel
theorem dX5_digest_187 : decode cX5_digest 187 = .ok (.invokestatic 274, 3) := by decide +kernel
theorem dX5_digest_190 : decode cX5_digest 190 = .ok (.lstore_n 1, 1) := by decide +kernel
theorem dX5_digest_191 : decode cX5_digest 191 = .ok (.iinc 3 1, 3) := by decide +kernel
theorem dX5_digest_194 : decode cX5_digest 194 = .ok (.goto (-48), 3) := by decide +kernel
theorem dX5_digest_197 : decode cX5_digest 197 = .ok (.iconst 0, 1) := by decide +kernel
theorem dX5_digest_198 : decode cX5_digest 198 = .ok (.istore_n 3, 1) := by decide +kernel
theorem dX5_digest_199 : decode cX5_digest 199 = .ok (.iload_n 3, 1) := by decide +kernel
theorem dX5_digest_200 : decode cX5_digest 200 = .ok (.bipush 12, 2) := by decide +kernel
theorem dX5_digest_202 : decode cX5_digest 202 = .ok (.if_icmp .ge 37, 3) := by decide +kernel
theorem dX5_digest_205 : decode cX5_digest 205 = .ok (.iconst 0, 1) := by decide +kernel
theorem dX5_digest_206 : decode cX5_digest 206 = .ok (.istore 4, 2) := by decide +kernel
theorem dX5_digest_208 : decode cX5_digest 208 = .ok (.iload 4, 2) := by decide +kernel
theorem dX5_digest_210 : decode cX5_digest 210 = .ok (.iconst 2, 1) := by decide +kernel
theorem dX5_digest_211 : decode cX5_digest 211 = .ok (.if_icmp .ge 22, 3) := by decide +kernel
theorem dX5_digest_214 : decode cX5_digest 214 = .ok (.lload_n 1, 1) := by decide +kernel
theorem dX5_digest_215 : decode cX5_digest 215 = .ok (.aload_n 0, 1) := by decide +kernel
theorem dX5_digest_216 : decode cX5_digest 216 = .ok (.iload_n 3, 1) := by decide +kernel
theorem dX5_digest_217 : decode cX5_digest 217 = .ok (.iload 4, 2) := by decide +kernel
theorem dX5_digest_219 : decode cX5_digest 219 = .ok (.invokevirtual 296, 3) := by decide +kernel
theorem dX5_digest_222 : decode cX5_digest 222 = .ok (.i2l, 1) := by decide +kernel
theorem dX5_digest_223 : decode cX5_digest 223 = .ok (.invokestatic 274, 3) := by decide +kernel
theorem dX5_digest_226 : decode cX5_digest 226 = .ok (.lstore_n 1, 1) := by decide +kernel
theorem dX5_digest_227 : decode cX5_digest 227 = .ok (.iinc 4 1, 3) := by decide +kernel
theorem dX5_digest_230 : decode cX5_digest 230 = .ok (.goto (-22), 3) := by decide +kernel
theorem dX5_digest_233 : decode cX5_digest 233 = .ok (.iinc 3 1, 3) := by decide +kernel
theorem dX5_digest_236 : decode cX5_digest 236 = .ok (.goto (-37), 3) := by decide +kernel
theorem dX5_digest_239 : decode cX5_digest 239 = .ok (.lload_n 1, 1) := by decide +kernel
theorem dX5_digest_240 : decode cX5_digest 240 = .ok (.aload_n 0, 1) := by decide +kernel
theorem dX5_digest_241 : decode cX5_digest 241 = .ok (.iconst 0, 1) := by decide +kernel
theorem dX5_digest_242 : decode cX5_digest 242 = .ok (.invokevirtual 298, 3) := by decide +kernel
theorem dX5_digest_245 : decode cX5_digest 245 = .ok (.i2l, 1) := by decide +kernel
theorem dX5_digest_246 : decode cX5_digest 246 = .ok (.invokestatic 274, 3) := by decide +kernel
theorem dX5_digest_249 : decode cX5_digest 249 = .ok (.lstore_n 1, 1) := by decide +kernel
theorem dX5_digest_250 : decode cX5_digest 250 = .ok (.lload_n 1, 1) := by decide +kernel
theorem dX5_digest_251 : decode cX5_digest 251 = .ok (.aload_n 0, 1) := by decide +kernel
theorem dX5_digest_252 : decode cX5_digest 252 = .ok (.invokevirtual 301, 3) := by decide +kernel
theorem dX5_digest_255 : decode cX5_digest 255 = .ok (.invokestatic 305, 3) := by decide +kernel
theorem dX5_digest_258 : decode cX5_digest 258 = .ok (.invokestatic 274, 3) := by decide +kernel
theorem dX5_digest_261 : decode cX5_digest 261 = .ok (.lstore_n 1, 1) := by decide +kernel
theorem dX5_digest_262 : decode cX5_digest 262 = .ok (.iconst 0, 1) := by decide +kernel
theorem dX5_digest_263 : decode cX5_digest 263 = .ok (.istore_n 3, 1) := by decide +kernel
theorem dX5_digest_264 : decode cX5_digest 264 = .ok (.iload_n 3, 1) := by decide +kernel
theorem dX5_digest_265 : decode cX5_digest 265 = .ok (.iconst 2, 1) := by decide +kernel
theorem dX5_digest_266 : decode cX5_digest 266 = .ok (.if_icmp .ge 28, 3) := by decide +kernel
theorem dX5_digest_269 : decode cX5_digest 269 = .ok (.lload_n 1, 1) := by decide +kernel
theorem dX5_digest_270 : decode cX5_digest 270 = .ok (.aload_n 0, 1) := by decide +kernel
theorem dX5_digest_271 : decode cX5_digest 271 = .ok (.getfield 23, 3) := by decide +kernel
theorem dX5_digest_274 : decode cX5_digest 274 = .ok (.iload_n 3, 1) := by decide +kernel
theorem dX5_digest_275 : decode cX5_digest 275 = .ok (.baload, 1) := by decide +kernel
theorem dX5_digest_276 : decode cX5_digest 276 = .ok (.ifCond .eq 7, 3) := by decide +kernel
theorem dX5_digest_279 : decode cX5_digest 279 = .ok (.lconst 1, 1) := by decide +kernel
theorem dX5_digest_280 : decode cX5_digest 280 = .ok (.goto 4, 3) := by decide +kernel
theorem dX5_digest_283 : decode cX5_digest 283 = .ok (.lconst 0, 1) := by decide +kernel
theorem dX5_digest_284 : decode cX5_digest 284 = .ok (.invokestatic 274, 3) := by decide +kernel
theorem dX5_digest_287 : decode cX5_digest 287 = .ok (.lstore_n 1, 1) := by decide +kernel
theorem dX5_digest_288 : decode cX5_digest 288 = .ok (.iinc 3 1, 3) := by decide +kernel
theorem dX5_digest_291 : decode cX5_digest 291 = .ok (.goto (-27), 3) := by decide +kernel
theorem dX5_digest_294 : decode cX5_digest 294 = .ok (.aload_n 0, 1) := by decide +kernel
theorem dX5_digest_295 : decode cX5_digest 295 = .ok (.lload_n 1, 1) := by decide +kernel
theorem dX5_digest_296 : decode cX5_digest 296 = .ok (.invokevirtual 309, 3) := by decide +kernel
theorem dX5_digest_299 : decode cX5_digest 299 = .ok (.lreturn, 1) := by decide +kernel
theorem dX5_checkStall_0 : decode cX5_checkStall 0 = .ok (.iload_n 1, 1) := by decide +kernel
theorem dX5_checkStall_1 : decode cX5_checkStall 1 = .ok (.ifCond .lt 14, 3) := by decide +kernel
theorem dX5_checkStall_4 : decode cX5_checkStall 4 = .ok (.iload_n 1, 1) := by decide +kernel
theorem dX5_checkStall_5 : decode cX5_checkStall 5 = .ok (.aload_n 0, 1) := by decide +kernel
theorem dX5_checkStall_6 : decode cX5_checkStall 6 = .ok (.getfield 10, 3) := by decide +kernel
theorem dX5_checkStall_9 : decode cX5_checkStall 9 = .ok (.getfield 228, 3) := by decide +kernel
theorem dX5_checkStall_12 : decode cX5_checkStall 12 = .ok (.if_icmp .lt 14, 3) := by decide +kernel
theorem dX5_checkStall_15 : decode cX5_checkStall 15 = .ok (.new 313, 3) := by decide +kernel
theorem dX5_checkStall_18 : decode cX5_checkStall 18 = .ok (.dup, 1) := by decide +kernel
theorem dX5_checkStall_19 : decode cX5_checkStall 19 = .ok (.ldc_w 315, 3) := by decide +kernel
theorem dX5_checkStall_22 : decode cX5_checkStall 22 = .ok (.invokespecial 317, 3) := by decide +kernel
theorem dX5_checkStall_25 : decode cX5_checkStall 25 = .ok (.athrow, 1) := by decide +kernel
theorem dX5_checkStall_26 : decode cX5_checkStall 26 = .ok (.return_, 1) := by decide +kernel
theorem dX5_checkSetting_0 : decode cX5_checkSetting 0 = .ok (.iload_n 0, 1) := by decide +kernel
theorem dX5_checkSetting_1 : decode cX5_checkSetting 1 = .ok (.ifCond .lt 8, 3) := by decide +kernel
theorem dX5_checkSetting_4 : decode cX5_checkSetting 4 = .ok (.iload_n 0, 1) := by decide +kernel
theorem dX5_checkSetting_5 : decode cX5_checkSetting 5 = .ok (.iconst 3, 1) := by decide +kernel
theorem dX5_checkSetting_6 : decode cX5_checkSetting 6 = .ok (.if_icmp .lt 14, 3) := by decide +kernel
theorem dX5_checkSetting_9 : decode cX5_checkSetting 9 = .ok (.new 313, 3) := by decide +kernel
theorem dX5_checkSetting_12 : decode cX5_checkSetting 12 = .ok (.dup, 1) := by decide +kernel
theorem dX5_checkSetting_13 : decode cX5_checkSetting 13 = .ok (.ldc_w 318, 3) := by decide +kernel
theorem dX5_checkSetting_16 : decode cX5_checkSetting 16 = .ok (.invokespecial 317, 3) := by decide +kernel
theorem dX5_checkSetting_19 : decode cX5_checkSetting 19 = .ok (.athrow, 1) := by decide +kernel
theorem dX5_checkSetting_20 : decode cX5_checkSetting 20 = .ok (.return_, 1) := by decide +kernel
theorem dX5_checkArgument_0 : decode cX5_checkArgument 0 = .ok (.iload_n 0, 1) := by decide +kernel
theorem dX5_checkArgument_1 : decode cX5_checkArgument 1 = .ok (.iload_n 1, 1) := by decide +kernel
theorem dX5_checkArgument_2 : decode cX5_checkArgument 2 = .ok (.if_icmp .lt 8, 3) := by decide +kernel
theorem dX5_checkArgument_5 : decode cX5_checkArgument 5 = .ok (.iload_n 0, 1) := by decide +kernel
theorem dX5_checkArgument_6 : decode cX5_checkArgument 6 = .ok (.iload_n 2, 1) := by decide +kernel
theorem dX5_checkArgument_7 : decode cX5_checkArgument 7 = .ok (.if_icmp .le 14, 3) := by decide +kernel
theorem dX5_checkArgument_10 : decode cX5_checkArgument 10 = .ok (.new 41, 3) := by decide +kernel
theorem dX5_checkArgument_13 : decode cX5_checkArgument 13 = .ok (.dup, 1) := by decide +kernel
theorem dX5_checkArgument_14 : decode cX5_checkArgument 14 = .ok (.ldc_w 320, 3) := by decide +kernel
theorem dX5_checkArgument_17 : decode cX5_checkArgument 17 = .ok (.invokespecial 45, 3) := by decide +kernel
theorem dX5_checkArgument_20 : decode cX5_checkArgument 20 = .ok (.athrow, 1) := by decide +kernel
theorem dX5_checkArgument_21 : decode cX5_checkArgument 21 = .ok (.return_, 1) := by decide +kernel
theorem dX5_doOrders_0 : decode cX5_doOrders 0 = .ok (.aload_n 0, 1) := by decide +kernel
theorem dX5_doOrders_1 : decode cX5_doOrders 1 = .ok (.getfield 37, 3) := by decide +kernel
theorem dX5_doOrders_4 : decode cX5_doOrders 4 = .ok (.iconst 0, 1) := by decide +kernel
theorem dX5_doOrders_5 : decode cX5_doOrders 5 = .ok (.putfield 165, 3) := by decide +kernel
theorem dX5_doOrders_8 : decode cX5_doOrders 8 = .ok (.iconst 0, 1) := by decide +kernel
theorem dX5_doOrders_9 : decode cX5_doOrders 9 = .ok (.istore_n 1, 1) := by decide +kernel
theorem dX5_doOrders_10 : decode cX5_doOrders 10 = .ok (.iload_n 1, 1) := by decide +kernel
theorem dX5_doOrders_11 : decode cX5_doOrders 11 = .ok (.bipush 60, 2) := by decide +kernel
theorem dX5_doOrders_13 : decode cX5_doOrders 13 = .ok (.if_icmp .ge 38, 3) := by decide +kernel
theorem dX5_doOrders_16 : decode cX5_doOrders 16 = .ok (.aload_n 0, 1) := by decide +kernel
theorem dX5_doOrders_17 : decode cX5_doOrders 17 = .ok (.getfield 37, 3) := by decide +kernel
theorem dX5_doOrders_20 : decode cX5_doOrders 20 = .ok (.invokevirtual 322, 3) := by decide +kernel
theorem dX5_doOrders_23 : decode cX5_doOrders 23 = .ok (.ifCond .eq 10, 3) := by decide +kernel
theorem dX5_doOrders_26 : decode cX5_doOrders 26 = .ok (.aload_n 0, 1) := by decide +kernel
theorem dX5_doOrders_27 : decode cX5_doOrders 27 = .ok (.invokevirtual 325, 3) := by decide +kernel
theorem dX5_doOrders_30 : decode cX5_doOrders 30 = .ok (.ifCond .ne 5, 3) := by decide +kernel
theorem dX5_doOrders_33 : decode cX5_doOrders 33 = .ok (.iload_n 1, 1) := by decide +kernel
theorem dX5_doOrders_34 : decode cX5_doOrders 34 = .ok (.ireturn, 1) := by decide +kernel
theorem dX5_doOrders_35 : decode cX5_doOrders 35 = .ok (.aload_n 0, 1) := by decide +kernel
theorem dX5_doOrders_36 : decode cX5_doOrders 36 = .ok (.getfield 37, 3) := by decide +kernel
theorem dX5_doOrders_39 : decode cX5_doOrders 39 = .ok (.bipush 59, 2) := by decide +kernel
theorem dX5_doOrders_41 : decode cX5_doOrders 41 = .ok (.invokevirtual 328, 3) := by decide +kernel
theorem dX5_doOrders_44 : decode cX5_doOrders 44 = .ok (.pop, 1) := by decide +kernel
theorem dX5_doOrders_45 : decode cX5_doOrders 45 = .ok (.iinc 1 1, 3) := by decide +kernel
theorem dX5_doOrders_48 : decode cX5_doOrders 48 = .ok (.goto (-38), 3) := by decide +kernel
theorem dX5_doOrders_51 : decode cX5_doOrders 51 = .ok (.bipush 60, 2) := by decide +kernel
theorem dX5_doOrders_53 : decode cX5_doOrders 53 = .ok (.ireturn, 1) := by decide +kernel
theorem dX5_doOrder_0 : decode cX5_doOrder 0 = .ok (.aload_n 0, 1) := by decide +kernel
theorem dX5_doOrder_1 : decode cX5_doOrder 1 = .ok (.getfield 37, 3) := by decide +kernel
theorem dX5_doOrder_4 : decode cX5_doOrder 4 = .ok (.getfield 332, 3) := by decide +kernel
theorem dX5_doOrder_7 : decode cX5_doOrder 7 = .ok (.iconst 0, 1) := by decide +kernel
theorem dX5_doOrder_8 : decode cX5_doOrder 8 = .ok (.iaload, 1) := by decide +kernel
theorem dX5_doOrder_9 : decode cX5_doOrder 9 = .ok (.istore_n 1, 1) := by decide +kernel
theorem dX5_doOrder_10 : decode cX5_doOrder 10 = .ok (.aload_n 0, 1) := by decide +kernel
theorem dX5_doOrder_11 : decode cX5_doOrder 11 = .ok (.getfield 37, 3) := by decide +kernel
theorem dX5_doOrder_14 : decode cX5_doOrder 14 = .ok (.getfield 332, 3) := by decide +kernel
theorem dX5_doOrder_17 : decode cX5_doOrder 17 = .ok (.iconst 1, 1) := by decide +kernel
theorem dX5_doOrder_18 : decode cX5_doOrder 18 = .ok (.iaload, 1) := by decide +kernel
theorem dX5_doOrder_19 : decode cX5_doOrder 19 = .ok (.istore_n 2, 1) := by decide +kernel
theorem dX5_doOrder_20 : decode cX5_doOrder 20 = .ok (.aload_n 0, 1) := by decide +kernel
theorem dX5_doOrder_21 : decode cX5_doOrder 21 = .ok (.getfield 37, 3) := by decide +kernel
theorem dX5_doOrder_24 : decode cX5_doOrder 24 = .ok (.getfield 335, 3) := by decide +kernel
theorem dX5_doOrder_27 : decode cX5_doOrder 27 = .ok (.bipush 115, 2) := by decide +kernel
theorem dX5_doOrder_29 : decode cX5_doOrder 29 = .ok (.if_icmp .ne 46, 3) := by decide +kernel
theorem dX5_doOrder_32 : decode cX5_doOrder 32 = .ok (.aload_n 0, 1) := by decide +kernel
theorem dX5_doOrder_33 : decode cX5_doOrder 33 = .ok (.getfield 10, 3) := by decide +kernel
theorem dX5_doOrder_36 : decode cX5_doOrder 36 = .ok (.invokevirtual 50, 3) := by decide +kernel
theorem dX5_doOrder_39 : decode cX5_doOrder 39 = .ok (.ifCond .eq 5, 3) := by decide +kernel
theorem dX5_doOrder_42 : decode cX5_doOrder 42 = .ok (.iconst 0, 1) := by decide +kernel
theorem dX5_doOrder_43 : decode cX5_doOrder 43 = .ok (.ireturn, 1) := by decide +kernel
theorem dX5_doOrder_44 : decode cX5_doOrder 44 = .ok (.aload_n 0, 1) := by decide +kernel
theorem dX5_doOrder_45 : decode cX5_doOrder 45 = .ok (.getfield 10, 3) := by decide +kernel
theorem dX5_doOrder_48 : decode cX5_doOrder 48 = .ok (.iload_n 1, 1) := by decide +kernel
theorem dX5_doOrder_49 : decode cX5_doOrder 49 = .ok (.iload_n 2, 1) := by decide +kernel
theorem dX5_doOrder_50 : decode cX5_doOrder 50 = .ok (.aload_n 0, 1) := by decide +kernel
theorem dX5_doOrder_51 : decode cX5_doOrder 51 = .ok (.getfield 37, 3) := by decide +kernel
theorem dX5_doOrder_54 : decode cX5_doOrder 54 = .ok (.getfield 332, 3) := by decide +kernel
theorem dX5_doOrder_57 : decode cX5_doOrder 57 = .ok (.iconst 2, 1) := by decide +kernel
theorem dX5_doOrder_58 : decode cX5_doOrder 58 = .ok (.iaload, 1) := by decide +kernel
theorem dX5_doOrder_59 : decode cX5_doOrder 59 = .ok (.aload_n 0, 1) := by decide +kernel
theorem dX5_doOrder_60 : decode cX5_doOrder 60 = .ok (.getfield 37, 3) := by decide +kernel
theorem dX5_doOrder_63 : decode cX5_doOrder 63 = .ok (.getfield 332, 3) := by decide +kernel
theorem dX5_doOrder_66 : decode cX5_doOrder 66 = .ok (.iconst 3, 1) := by decide +kernel
theorem dX5_doOrder_67 : decode cX5_doOrder 67 = .ok (.iaload, 1) := by decide +kernel
theorem dX5_doOrder_68 : decode cX5_doOrder 68 = .ok (.invokevirtual 63, 3) := by decide +kernel
theorem dX5_doOrder_71 : decode cX5_doOrder 71 = .ok (.pop, 1) := by decide +kernel
theorem dX5_doOrder_72 : decode cX5_doOrder 72 = .ok (.goto 74, 3) := by decide +kernel
theorem dX5_doOrder_75 : decode cX5_doOrder 75 = .ok (.aload_n 0, 1) := by decide +kernel
theorem dX5_doOrder_76 : decode cX5_doOrder 76 = .ok (.getfield 37, 3) := by decide +kernel
theorem dX5_doOrder_79 : decode cX5_doOrder 79 = .ok (.getfield 335, 3) := by decide +kernel
theorem dX5_doOrder_82 : decode cX5_doOrder 82 = .ok (.bipush 112, 2) := by decide +kernel
theorem dX5_doOrder_84 : decode cX5_doOrder 84 = .ok (.if_icmp .ne 41, 3) := by decide +kernel
theorem dX5_doOrder_87 : decode cX5_doOrder 87 = .ok (.iload_n 1, 1) := by decide +kernel
theorem dX5_doOrder_88 : decode cX5_doOrder 88 = .ok (.aload_n 0, 1) := by decide +kernel
theorem dX5_doOrder_89 : decode cX5_doOrder 89 = .ok (.getfield 10, 3) := by decide +kernel
theorem dX5_doOrder_92 : decode cX5_doOrder 92 = .ok (.getfield 228, 3) := by decide +kernel
theorem dX5_doOrder_95 : decode cX5_doOrder 95 = .ok (.if_icmp .ge 15, 3) := by decide +kernel
theorem dX5_doOrder_98 : decode cX5_doOrder 98 = .ok (.aload_n 0, 1) := by decide +kernel
theorem dX5_doOrder_99 : decode cX5_doOrder 99 = .ok (.getfield 10, 3) := by decide +kernel
theorem dX5_doOrder_102 : decode cX5_doOrder 102 = .ok (.iload_n 2, 1) := by decide +kernel
theorem dX5_doOrder_103 : decode cX5_doOrder 103 = .ok (.invokevirtual 75, 3) := by decide +kernel
theorem dX5_doOrder_106 : decode cX5_doOrder 106 = .ok (.iconst (-1), 1) := by decide +kernel
theorem dX5_doOrder_107 : decode cX5_doOrder 107 = .ok (.if_icmp .eq 5, 3) := by decide +kernel
theorem dX5_doOrder_110 : decode cX5_doOrder 110 = .ok (.iconst 0, 1) := by decide +kernel
theorem dX5_doOrder_111 : decode cX5_doOrder 111 = .ok (.ireturn, 1) := by decide +kernel
theorem dX5_doOrder_112 : decode cX5_doOrder 112 = .ok (.aload_n 0, 1) := by decide +kernel
theorem dX5_doOrder_113 : decode cX5_doOrder 113 = .ok (.getfield 10, 3) := by decide +kernel
theorem dX5_doOrder_116 : decode cX5_doOrder 116 = .ok (.iload_n 1, 1) := by decide +kernel
theorem dX5_doOrder_117 : decode cX5_doOrder 117 = .ok (.iload_n 2, 1) := by decide +kernel
theorem dX5_doOrder_118 : decode cX5_doOrder 118 = .ok (.invokevirtual 81, 3) := by decide +kernel
theorem dX5_doOrder_121 : decode cX5_doOrder 121 = .ok (.pop, 1) := by decide +kernel
theorem dX5_doOrder_122 : decode cX5_doOrder 122 = .ok (.goto 24, 3) := by decide +kernel
theorem dX5_doOrder_125 : decode cX5_doOrder 125 = .ok (.aload_n 0, 1) := by decide +kernel
theorem dX5_doOrder_126 : decode cX5_doOrder 126 = .ok (.getfield 10, 3) := by decide +kernel
theorem dX5_doOrder_129 : decode cX5_doOrder 129 = .ok (.iload_n 1, 1) := by decide +kernel
theorem dX5_doOrder_130 : decode cX5_doOrder 130 = .ok (.invokevirtual 127, 3) := by decide +kernel
theorem dX5_doOrder_133 : decode cX5_doOrder 133 = .ok (.ifCond .ne 5, 3) := by decide +kernel
theorem dX5_doOrder_136 : decode cX5_doOrder 136 = .ok (.iconst 0, 1) := by decide +kernel
theorem dX5_doOrder_137 : decode cX5_doOrder 137 = .ok (.ireturn, 1) := by decide +kernel
theorem dX5_doOrder_138 : decode cX5_doOrder 138 = .ok (.aload_n 0, 1) := by decide +kernel
theorem dX5_doOrder_139 : decode cX5_doOrder 139 = .ok (.getfield 10, 3) := by decide +kernel
theorem dX5_doOrder_142 : decode cX5_doOrder 142 = .ok (.iload_n 1, 1) := by decide +kernel
theorem dX5_doOrder_143 : decode cX5_doOrder 143 = .ok (.invokevirtual 137, 3) := by decide +kernel
theorem dX5_doOrder_146 : decode cX5_doOrder 146 = .ok (.iconst 1, 1) := by decide +kernel
theorem dX5_doOrder_147 : decode cX5_doOrder 147 = .ok (.ireturn, 1) := by decide +kernel
theorem dX5_isTakenFor_0 : decode cX5_isTakenFor 0 = .ok (.aload_n 0, 1) := by decide +kernel
theorem dX5_isTakenFor_1 : decode cX5_isTakenFor 1 = .ok (.getfield 10, 3) := by decide +kernel
theorem dX5_isTakenFor_4 : decode cX5_isTakenFor 4 = .ok (.iload_n 2, 1) := by decide +kernel
theorem dX5_isTakenFor_5 : decode cX5_isTakenFor 5 = .ok (.invokevirtual 75, 3) := by decide +kernel
theorem dX5_isTakenFor_8 : decode cX5_isTakenFor 8 = .ok (.istore_n 3, 1) := by decide +kernel
theorem dX5_isTakenFor_9 : decode cX5_isTakenFor 9 = .ok (.iload_n 3, 1) := by decide +kernel
theorem dX5_isTakenFor_10 : decode cX5_isTakenFor 10 = .ok (.iconst (-1), 1) := by decide +kernel
theorem dX5_isTakenFor_11 : decode cX5_isTakenFor 11 = .ok (.if_icmp .eq 12, 3) := by decide +kernel
theorem dX5_isTakenFor_14 : decode cX5_isTakenFor 14 = .ok (.iload_n 3, 1) := by decide +kernel
theorem dX5_isTakenFor_15 : decode cX5_isTakenFor 15 = .ok (.iload_n 1, 1) := by decide +kernel
theorem dX5_isTakenFor_16 : decode cX5_isTakenFor 16 = .ok (.if_icmp .eq 7, 3) := by decide +kernel
theorem dX5_isTakenFor_19 : decode cX5_isTakenFor 19 = .ok (.iconst 1, 1) := by decide +kernel
theorem dX5_isTakenFor_20 : decode cX5_isTakenFor 20 = .ok (.goto 4, 3) := by decide +kernel
theorem dX5_isTakenFor_23 : decode cX5_isTakenFor 23 = .ok (.iconst 0, 1) := by decide +kernel
theorem dX5_isTakenFor_24 : decode cX5_isTakenFor 24 = .ok (.ireturn, 1) := by decide +kernel
theorem dX5_tryAt_0 : decode cX5_tryAt 0 = .ok (.aload_n 0, 1) := by decide +kernel
theorem dX5_tryAt_1 : decode cX5_tryAt 1 = .ok (.getfield 16, 3) := by decide +kernel
theorem dX5_tryAt_4 : decode cX5_tryAt 4 = .ok (.aload_n 0, 1) := by decide +kernel
theorem dX5_tryAt_5 : decode cX5_tryAt 5 = .ok (.getfield 10, 3) := by decide +kernel
theorem dX5_tryAt_8 : decode cX5_tryAt 8 = .ok (.invokevirtual 173, 3) := by decide +kernel
theorem dX5_tryAt_11 : decode cX5_tryAt 11 = .ok (.aload_n 0, 1) := by decide +kernel
theorem dX5_tryAt_12 : decode cX5_tryAt 12 = .ok (.getfield 16, 3) := by decide +kernel
theorem dX5_tryAt_15 : decode cX5_tryAt 15 = .ok (.iload_n 1, 1) := by decide +kernel
theorem dX5_tryAt_16 : decode cX5_tryAt 16 = .ok (.iload_n 2, 1) := by decide +kernel
theorem dX5_tryAt_17 : decode cX5_tryAt 17 = .ok (.invokevirtual 81, 3) := by decide +kernel
theorem dX5_tryAt_20 : decode cX5_tryAt 20 = .ok (.pop, 1) := by decide +kernel
theorem dX5_tryAt_21 : decode cX5_tryAt 21 = .ok (.aload_n 0, 1) := by decide +kernel
theorem dX5_tryAt_22 : decode cX5_tryAt 22 = .ok (.getfield 16, 3) := by decide +kernel
theorem dX5_tryAt_25 : decode cX5_tryAt 25 = .ok (.iload_n 3, 1) := by decide +kernel
theorem dX5_tryAt_26 : decode cX5_tryAt 26 = .ok (.invokevirtual 137, 3) := by decide +kernel
theorem dX5_tryAt_29 : decode cX5_tryAt 29 = .ok (.return_, 1) := by decide +kernel
theorem dX5_wouldTripWith_0 : decode cX5_wouldTripWith 0 = .ok (.aload_n 0, 1) := by decide +kernel
theorem dX5_wouldTripWith_1 : decode cX5_wouldTripWith 1 = .ok (.getfield 16, 3) := by decide +kernel
theorem dX5_wouldTripWith_4 : decode cX5_wouldTripWith 4 = .ok (.aload_n 0, 1) := by decide +kernel
theorem dX5_wouldTripWith_5 : decode cX5_wouldTripWith 5 = .ok (.getfield 10, 3) := by decide +kernel
theorem dX5_wouldTripWith_8 : decode cX5_wouldTripWith 8 = .ok (.invokevirtual 173, 3) := by decide +kernel
theorem dX5_wouldTripWith_11 : decode cX5_wouldTripWith 11 = .ok (.aload_n 0, 1) := by decide +kernel
theorem dX5_wouldTripWith_12 : decode cX5_wouldTripWith 12 = .ok (.getfield 16, 3) := by decide +kernel
theorem dX5_wouldTripWith_15 : decode cX5_wouldTripWith 15 = .ok (.getfield 101, 3) := by decide +kernel
theorem dX5_wouldTripWith_18 : decode cX5_wouldTripWith 18 = .ok (.iload_n 1, 1) := by decide +kernel
theorem dX5_wouldTripWith_19 : decode cX5_wouldTripWith 19 = .ok (.aaload, 1) := by decide +kernel
theorem dX5_wouldTripWith_20 : decode cX5_wouldTripWith 20 = .ok (.astore_n 3, 1) := by decide +kernel
theorem dX5_wouldTripWith_21 : decode cX5_wouldTripWith 21 = .ok (.aload_n 3, 1) := by decide +kernel
theorem dX5_wouldTripWith_22 : decode cX5_wouldTripWith 22 = .ok (.invokevirtual 115, 3) := by decide +kernel
theorem dX5_wouldTripWith_25 : decode cX5_wouldTripWith 25 = .ok (.aload_n 3, 1) := by decide +kernel
theorem dX5_wouldTripWith_26 : decode cX5_wouldTripWith 26 = .ok (.iload_n 2, 1) := by decide +kernel
theorem dX5_wouldTripWith_27 : decode cX5_wouldTripWith 27 = .ok (.putfield 105, 3) := by decide +kernel
theorem dX5_wouldTripWith_30 : decode cX5_wouldTripWith 30 = .ok (.iconst 0, 1) := by decide +kernel
theorem dX5_wouldTripWith_31 : decode cX5_wouldTripWith 31 = .ok (.istore 4, 2) := by decide +kernel
theorem dX5_wouldTripWith_33 : decode cX5_wouldTripWith 33 = .ok (.iload 4, 2) := by decide +kernel
theorem dX5_wouldTripWith_35 : decode cX5_wouldTripWith 35 = .ok (.bipush 48, 2) := by decide +kernel
theorem dX5_wouldTripWith_37 : decode cX5_wouldTripWith 37 = .ok (.if_icmp .ge 23, 3) := by decide +kernel
theorem dX5_wouldTripWith_40 : decode cX5_wouldTripWith 40 = .ok (.aload_n 3, 1) := by decide +kernel
theorem dX5_wouldTripWith_41 : decode cX5_wouldTripWith 41 = .ok (.getfield 110, 3) := by decide +kernel
theorem dX5_wouldTripWith_44 : decode cX5_wouldTripWith 44 = .ok (.ifCond .eq 16, 3) := by decide +kernel
theorem dX5_wouldTripWith_47 : decode cX5_wouldTripWith 47 = .ok (.aload_n 0, 1) := by decide +kernel
theorem dX5_wouldTripWith_48 : decode cX5_wouldTripWith 48 = .ok (.getfield 16, 3) := by decide +kernel
theorem dX5_wouldTripWith_51 : decode cX5_wouldTripWith 51 = .ok (.invokevirtual 260, 3) := by decide +kernel
theorem dX5_wouldTripWith_54 : decode cX5_wouldTripWith 54 = .ok (.iinc 4 1, 3) := by decide +kernel
theorem dX5_wouldTripWith_57 : decode cX5_wouldTripWith 57 = .ok (.goto (-24), 3) := by decide +kernel
theorem dX5_wouldTripWith_60 : decode cX5_wouldTripWith 60 = .ok (.aload_n 3, 1) := by decide +kernel
theorem dX5_wouldTripWith_61 : decode cX5_wouldTripWith 61 = .ok (.getfield 110, 3) := by decide +kernel
theorem dX5_wouldTripWith_64 : decode cX5_wouldTripWith 64 = .ok (.ifCond .ne 7, 3) := by decide +kernel
theorem dX5_wouldTripWith_67 : decode cX5_wouldTripWith 67 = .ok (.iconst 1, 1) := by decide +kernel
theorem dX5_wouldTripWith_68 : decode cX5_wouldTripWith 68 = .ok (.goto 4, 3) := by decide +kernel
theorem dX5_wouldTripWith_71 : decode cX5_wouldTripWith 71 = .ok (.iconst 0, 1) := by decide +kernel
theorem dX5_wouldTripWith_72 : decode cX5_wouldTripWith 72 = .ok (.ireturn, 1) := by decide +kernel
theorem dX5_mix_0 : decode cX5_mix 0 = .ok (.ldc2_w 339, 3) := by decide +kernel
theorem dX5_mix_3 : decode cX5_mix 3 = .ok (.lload_n 0, 1) := by decide +kernel
theorem dX5_mix_4 : decode cX5_mix 4 = .ok (.lmul, 1) := by decide +kernel
theorem dX5_mix_5 : decode cX5_mix 5 = .ok (.lload_n 2, 1) := by decide +kernel
theorem dX5_mix_6 : decode cX5_mix 6 = .ok (.ladd, 1) := by decide +kernel
theorem dX5_mix_7 : decode cX5_mix 7 = .ok (.lreturn, 1) := by decide +kernel
theorem dX5_mixBuffer_0 : decode cX5_mixBuffer 0 = .ok (.lload_n 1, 1) := by decide +kernel
theorem dX5_mixBuffer_1 : decode cX5_mixBuffer 1 = .ok (.aload_n 0, 1) := by decide +kernel
theorem dX5_mixBuffer_2 : decode cX5_mixBuffer 2 = .ok (.getfield 37, 3) := by decide +kernel
theorem dX5_mixBuffer_5 : decode cX5_mixBuffer 5 = .ok (.getfield 153, 3) := by decide +kernel
theorem dX5_mixBuffer_8 : decode cX5_mixBuffer 8 = .ok (.i2l, 1) := by decide +kernel
theorem dX5_mixBuffer_9 : decode cX5_mixBuffer 9 = .ok (.invokestatic 274, 3) := by decide +kernel
theorem dX5_mixBuffer_12 : decode cX5_mixBuffer 12 = .ok (.lstore_n 3, 1) := by decide +kernel
theorem dX5_mixBuffer_13 : decode cX5_mixBuffer 13 = .ok (.iconst 0, 1) := by decide +kernel
theorem dX5_mixBuffer_14 : decode cX5_mixBuffer 14 = .ok (.istore 5, 2) := by decide +kernel
theorem dX5_mixBuffer_16 : decode cX5_mixBuffer 16 = .ok (.iload 5, 2) := by decide +kernel
theorem dX5_mixBuffer_18 : decode cX5_mixBuffer 18 = .ok (.aload_n 0, 1) := by decide +kernel
theorem dX5_mixBuffer_19 : decode cX5_mixBuffer 19 = .ok (.getfield 37, 3) := by decide +kernel
theorem dX5_mixBuffer_22 : decode cX5_mixBuffer 22 = .ok (.getfield 153, 3) := by decide +kernel
theorem dX5_mixBuffer_25 : decode cX5_mixBuffer 25 = .ok (.if_icmp .ge 25, 3) := by decide +kernel
theorem dX5_mixBuffer_28 : decode cX5_mixBuffer 28 = .ok (.lload_n 3, 1) := by decide +kernel
theorem dX5_mixBuffer_29 : decode cX5_mixBuffer 29 = .ok (.aload_n 0, 1) := by decide +kernel
theorem dX5_mixBuffer_30 : decode cX5_mixBuffer 30 = .ok (.getfield 37, 3) := by decide +kernel
theorem dX5_mixBuffer_33 : decode cX5_mixBuffer 33 = .ok (.getfield 158, 3) := by decide +kernel
theorem dX5_mixBuffer_36 : decode cX5_mixBuffer 36 = .ok (.iload 5, 2) := by decide +kernel
theorem dX5_mixBuffer_38 : decode cX5_mixBuffer 38 = .ok (.caload, 1) := by decide +kernel
theorem dX5_mixBuffer_39 : decode cX5_mixBuffer 39 = .ok (.i2l, 1) := by decide +kernel
theorem dX5_mixBuffer_40 : decode cX5_mixBuffer 40 = .ok (.invokestatic 274, 3) := by decide +kernel
theorem dX5_mixBuffer_43 : decode cX5_mixBuffer 43 = .ok (.lstore_n 3, 1) := by decide +kernel
theorem dX5_mixBuffer_44 : decode cX5_mixBuffer 44 = .ok (.iinc 5 1, 3) := by decide +kernel
theorem dX5_mixBuffer_47 : decode cX5_mixBuffer 47 = .ok (.goto (-31), 3) := by decide +kernel
theorem dX5_mixBuffer_50 : decode cX5_mixBuffer 50 = .ok (.lload_n 3, 1) := by decide +kernel
theorem dX5_mixBuffer_51 : decode cX5_mixBuffer 51 = .ok (.lreturn, 1) := by decide +kernel
theorem dX5_bitsOf_0 : decode cX5_bitsOf 0 = .ok (.dload_n 0, 1) := by decide +kernel
theorem dX5_bitsOf_1 : decode cX5_bitsOf 1 = .ok (.dconst 0, 1) := by decide +kernel
theorem dX5_bitsOf_2 : decode cX5_bitsOf 2 = .ok (.dcmp .g, 1) := by decide +kernel
theorem dX5_bitsOf_3 : decode cX5_bitsOf 3 = .ok (.ifCond .gt 5, 3) := by decide +kernel
theorem dX5_bitsOf_6 : decode cX5_bitsOf 6 = .ok (.lconst 0, 1) := by decide +kernel
theorem dX5_bitsOf_7 : decode cX5_bitsOf 7 = .ok (.lreturn, 1) := by decide +kernel
theorem dX5_bitsOf_8 : decode cX5_bitsOf 8 = .ok (.dload_n 0, 1) := by decide +kernel
theorem dX5_bitsOf_9 : decode cX5_bitsOf 9 = .ok (.dstore_n 2, 1) := by decide +kernel
theorem dX5_bitsOf_10 : decode cX5_bitsOf 10 = .ok (.ldc2_w 341, 3) := by decide +kernel
theorem dX5_bitsOf_13 : decode cX5_bitsOf 13 = .ok (.lstore 4, 2) := by decide +kernel
theorem dX5_bitsOf_15 : decode cX5_bitsOf 15 = .ok (.dload_n 2, 1) := by decide +kernel
theorem dX5_bitsOf_16 : decode cX5_bitsOf 16 = .ok (.dconst 1, 1) := by decide +kernel
theorem dX5_bitsOf_17 : decode cX5_bitsOf 17 = .ok (.dcmp .g, 1) := by decide +kernel
theorem dX5_bitsOf_18 : decode cX5_bitsOf 18 = .ok (.ifCond .ge 25, 3) := by decide +kernel
theorem dX5_bitsOf_21 : decode cX5_bitsOf 21 = .ok (.lload 4, 2) := by decide +kernel
theorem dX5_bitsOf_23 : decode cX5_bitsOf 23 = .ok (.lconst 1, 1) := by decide +kernel
theorem dX5_bitsOf_24 : decode cX5_bitsOf 24 = .ok (.lcmp, 1) := by decide +kernel
theorem dX5_bitsOf_25 : decode cX5_bitsOf 25 = .ok (.ifCond .le 18, 3) := by decide +kernel
theorem dX5_bitsOf_28 : decode cX5_bitsOf 28 = .ok (.dload_n 2, 1) := by decide +kernel
theorem dX5_bitsOf_29 : decode cX5_bitsOf 29 = .ok (.ldc2_w 343, 3) := by decide +kernel
theorem dX5_bitsOf_32 : decode cX5_bitsOf 32 = .ok (.dmul, 1) := by decide +kernel
theorem dX5_bitsOf_33 : decode cX5_bitsOf 33 = .ok (.dstore_n 2, 1) := by decide +kernel
theorem dX5_bitsOf_34 : decode cX5_bitsOf 34 = .ok (.lload 4, 2) := by decide +kernel
theorem dX5_bitsOf_36 : decode cX5_bitsOf 36 = .ok (.lconst 1, 1) := by decide +kernel
theorem dX5_bitsOf_37 : decode cX5_bitsOf 37 = .ok (.lsub, 1) := by decide +kernel
theorem dX5_bitsOf_38 : decode cX5_bitsOf 38 = .ok (.lstore 4, 2) := by decide +kernel
theorem dX5_bitsOf_40 : decode cX5_bitsOf 40 = .ok (.goto (-25), 3) := by decide +kernel
theorem dX5_bitsOf_43 : decode cX5_bitsOf 43 = .ok (.dload_n 2, 1) := by decide +kernel
theorem dX5_bitsOf_44 : decode cX5_bitsOf 44 = .ok (.dconst 1, 1) := by decide +kernel
theorem dX5_bitsOf_45 : decode cX5_bitsOf 45 = .ok (.dsub, 1) := by decide +kernel
theorem dX5_bitsOf_46 : decode cX5_bitsOf 46 = .ok (.ldc2_w 345, 3) := by decide +kernel
theorem dX5_bitsOf_49 : decode cX5_bitsOf 49 = .ok (.dmul, 1) := by decide +kernel
theorem dX5_bitsOf_50 : decode cX5_bitsOf 50 = .ok (.d2l, 1) := by decide +kernel
theorem dX5_bitsOf_51 : decode cX5_bitsOf 51 = .ok (.lstore 6, 2) := by decide +kernel
theorem dX5_bitsOf_53 : decode cX5_bitsOf 53 = .ok (.lload 4, 2) := by decide +kernel
theorem dX5_bitsOf_55 : decode cX5_bitsOf 55 = .ok (.bipush 52, 2) := by decide +kernel
theorem dX5_bitsOf_57 : decode cX5_bitsOf 57 = .ok (.lshl, 1) := by decide +kernel
theorem dX5_bitsOf_58 : decode cX5_bitsOf 58 = .ok (.lload 6, 2) := by decide +kernel
theorem dX5_bitsOf_60 : decode cX5_bitsOf 60 = .ok (.ladd, 1) := by decide +kernel
theorem dX5_bitsOf_61 : decode cX5_bitsOf 61 = .ok (.lreturn, 1) := by decide +kernel
end
section
theorem dX6_init_0 : decode cX6_init 0 = .ok (.aload_n 0, 1) := by decide +kernel
theorem dX6_init_1 : decode cX6_init 1 = .ok (.invokespecial 1, 3) := by decide +kernel
theorem dX6_init_4 : decode cX6_init 4 = .ok (.aload_n 0, 1) := by decide +kernel
theorem dX6_init_5 : decode cX6_init 5 = .ok (.bipush 119, 2) := by decide +kernel
theorem dX6_init_7 : decode cX6_init 7 = .ok (.newarray .int, 2) := by decide +kernel
theorem dX6_init_9 : decode cX6_init 9 = .ok (.putfield 7, 3) := by decide +kernel
theorem dX6_init_12 : decode cX6_init 12 = .ok (.aload_n 0, 1) := by decide +kernel
theorem dX6_init_13 : decode cX6_init 13 = .ok (.sipush 714, 3) := by decide +kernel
theorem dX6_init_16 : decode cX6_init 16 = .ok (.newarray .int, 2) := by decide +kernel
theorem dX6_init_18 : decode cX6_init 18 = .ok (.putfield 13, 3) := by decide +kernel
theorem dX6_init_21 : decode cX6_init 21 = .ok (.aload_n 0, 1) := by decide +kernel
theorem dX6_init_22 : decode cX6_init 22 = .ok (.sipush 238, 3) := by decide +kernel
theorem dX6_init_25 : decode cX6_init 25 = .ok (.newarray .int, 2) := by decide +kernel
theorem dX6_init_27 : decode cX6_init 27 = .ok (.putfield 16, 3) := by decide +kernel
theorem dX6_init_30 : decode cX6_init 30 = .ok (.aload_n 0, 1) := by decide +kernel
theorem dX6_init_31 : decode cX6_init 31 = .ok (.iconst 2, 1) := by decide +kernel
theorem dX6_init_32 : decode cX6_init 32 = .ok (.newarray .boolean, 2) := by decide +kernel
theorem dX6_init_34 : decode cX6_init 34 = .ok (.putfield 19, 3) := by decide +kernel
theorem dX6_init_37 : decode cX6_init 37 = .ok (.aload_n 0, 1) := by decide +kernel
theorem dX6_init_38 : decode cX6_init 38 = .ok (.bipush 119, 2) := by decide +kernel
theorem dX6_init_40 : decode cX6_init 40 = .ok (.newarray .int, 2) := by decide +kernel
theorem dX6_init_42 : decode cX6_init 42 = .ok (.putfield 23, 3) := by decide +kernel
theorem dX6_init_45 : decode cX6_init 45 = .ok (.aload_n 0, 1) := by decide +kernel
theorem dX6_init_46 : decode cX6_init 46 = .ok (.bipush 60, 2) := by decide +kernel
theorem dX6_init_48 : decode cX6_init 48 = .ok (.newarray .int, 2) := by decide +kernel
theorem dX6_init_50 : decode cX6_init 50 = .ok (.putfield 26, 3) := by decide +kernel
theorem dX6_init_53 : decode cX6_init 53 = .ok (.aload_n 0, 1) := by decide +kernel
theorem dX6_init_54 : decode cX6_init 54 = .ok (.bipush 110, 2) := by decide +kernel
theorem dX6_init_56 : decode cX6_init 56 = .ok (.newarray .int, 2) := by decide +kernel
theorem dX6_init_58 : decode cX6_init 58 = .ok (.putfield 29, 3) := by decide +kernel
theorem dX6_init_61 : decode cX6_init 61 = .ok (.aload_n 0, 1) := by decide +kernel
theorem dX6_init_62 : decode cX6_init 62 = .ok (.getfield 7, 3) := by decide +kernel
theorem dX6_init_65 : decode cX6_init 65 = .ok (.iconst 0, 1) := by decide +kernel
theorem dX6_init_66 : decode cX6_init 66 = .ok (.iconst 2, 1) := by decide +kernel
theorem dX6_init_67 : decode cX6_init 67 = .ok (.iastore, 1) := by decide +kernel
theorem dX6_init_68 : decode cX6_init 68 = .ok (.aload_n 0, 1) := by decide +kernel
theorem dX6_init_69 : decode cX6_init 69 = .ok (.getfield 7, 3) := by decide +kernel
theorem dX6_init_72 : decode cX6_init 72 = .ok (.iconst 2, 1) := by decide +kernel
theorem dX6_init_73 : decode cX6_init 73 = .ok (.iconst 3, 1) := by decide +kernel
theorem dX6_init_74 : decode cX6_init 74 = .ok (.iastore, 1) := by decide +kernel
theorem dX6_init_75 : decode cX6_init 75 = .ok (.iconst 0, 1) := by decide +kernel
theorem dX6_init_76 : decode cX6_init 76 = .ok (.istore_n 1, 1) := by decide +kernel
theorem dX6_init_77 : decode cX6_init 77 = .ok (.iload_n 1, 1) := by decide +kernel
theorem dX6_init_78 : decode cX6_init 78 = .ok (.iconst 4, 1) := by decide +kernel
theorem dX6_init_79 : decode cX6_init 79 = .ok (.if_icmp .ge 25, 3) := by decide +kernel
theorem dX6_init_82 : decode cX6_init 82 = .ok (.aload_n 0, 1) := by decide +kernel
theorem dX6_init_83 : decode cX6_init 83 = .ok (.iload_n 1, 1) := by decide +kernel
theorem dX6_init_84 : decode cX6_init 84 = .ok (.iconst 0, 1) := by decide +kernel
theorem dX6_init_85 : decode cX6_init 85 = .ok (.sipush 200, 3) := by decide +kernel
theorem dX6_init_88 : decode cX6_init 88 = .ok (.invokevirtual 32, 3) := by decide +kernel
theorem dX6_init_91 : decode cX6_init 91 = .ok (.aload_n 0, 1) := by decide +kernel
theorem dX6_init_92 : decode cX6_init 92 = .ok (.iload_n 1, 1) := by decide +kernel
theorem dX6_init_93 : decode cX6_init 93 = .ok (.iconst 1, 1) := by decide +kernel
theorem dX6_init_94 : decode cX6_init 94 = .ok (.iconst 1, 1) := by decide +kernel
theorem dX6_init_95 : decode cX6_init 95 = .ok (.invokevirtual 32, 3) := by decide +kernel
theorem dX6_init_98 : decode cX6_init 98 = .ok (.iinc 1 1, 3) := by decide +kernel
theorem dX6_init_101 : decode cX6_init 101 = .ok (.goto (-24), 3) := by decide +kernel
theorem dX6_init_104 : decode cX6_init 104 = .ok (.return_, 1) := by decide +kernel
theorem dX6_thrown_0 : decode cX6_thrown 0 = .ok (.aload_n 0, 1) := by decide +kernel
theorem dX6_thrown_1 : decode cX6_thrown 1 = .ok (.getfield 36, 3) := by decide +kernel
theorem dX6_thrown_4 : decode cX6_thrown 4 = .ok (.ireturn, 1) := by decide +kernel
theorem dX6_in_0 : decode cX6_in 0 = .ok (.iload_n 0, 1) := by decide +kernel
theorem dX6_in_1 : decode cX6_in 1 = .ok (.iload_n 1, 1) := by decide +kernel
theorem dX6_in_2 : decode cX6_in 2 = .ok (.if_icmp .lt 12, 3) := by decide +kernel
theorem dX6_in_5 : decode cX6_in 5 = .ok (.iload_n 0, 1) := by decide +kernel
theorem dX6_in_6 : decode cX6_in 6 = .ok (.iload_n 2, 1) := by decide +kernel
theorem dX6_in_7 : decode cX6_in 7 = .ok (.if_icmp .gt 7, 3) := by decide +kernel
theorem dX6_in_10 : decode cX6_in 10 = .ok (.iconst 1, 1) := by decide +kernel
theorem dX6_in_11 : decode cX6_in 11 = .ok (.goto 4, 3) := by decide +kernel
theorem dX6_in_14 : decode cX6_in 14 = .ok (.iconst 0, 1) := by decide +kernel
theorem dX6_in_15 : decode cX6_in 15 = .ok (.ireturn, 1) := by decide +kernel
theorem dX6_isBreaker_0 : decode cX6_isBreaker 0 = .ok (.iload_n 0, 1) := by decide +kernel
theorem dX6_isBreaker_1 : decode cX6_isBreaker 1 = .ok (.iconst 0, 1) := by decide +kernel
theorem dX6_isBreaker_2 : decode cX6_isBreaker 2 = .ok (.iconst 3, 1) := by decide +kernel
theorem dX6_isBreaker_3 : decode cX6_isBreaker 3 = .ok (.invokestatic 40, 3) := by decide +kernel
theorem dX6_isBreaker_6 : decode cX6_isBreaker 6 = .ok (.ireturn, 1) := by decide +kernel
theorem dX6_isSocket_0 : decode cX6_isSocket 0 = .ok (.iload_n 0, 1) := by decide +kernel
theorem dX6_isSocket_1 : decode cX6_isSocket 1 = .ok (.iconst 0, 1) := by decide +kernel
theorem dX6_isSocket_2 : decode cX6_isSocket 2 = .ok (.bipush 11, 2) := by decide +kernel
theorem dX6_isSocket_4 : decode cX6_isSocket 4 = .ok (.invokestatic 40, 3) := by decide +kernel
theorem dX6_isSocket_7 : decode cX6_isSocket 7 = .ok (.ireturn, 1) := by decide +kernel
theorem dX6_isStall_0 : decode cX6_isStall 0 = .ok (.iload_n 1, 1) := by decide +kernel
theorem dX6_isStall_1 : decode cX6_isStall 1 = .ok (.ifCond .lt 17, 3) := by decide +kernel
theorem dX6_isStall_4 : decode cX6_isStall 4 = .ok (.iload_n 1, 1) := by decide +kernel
theorem dX6_isStall_5 : decode cX6_isStall 5 = .ok (.aload_n 0, 1) := by decide +kernel
theorem dX6_isStall_6 : decode cX6_isStall 6 = .ok (.getfield 7, 3) := by decide +kernel
theorem dX6_isStall_9 : decode cX6_isStall 9 = .ok (.iconst 4, 1) := by decide +kernel
theorem dX6_isStall_10 : decode cX6_isStall 10 = .ok (.iaload, 1) := by decide +kernel
theorem dX6_isStall_11 : decode cX6_isStall 11 = .ok (.if_icmp .ge 7, 3) := by decide +kernel
theorem dX6_isStall_14 : decode cX6_isStall 14 = .ok (.iconst 1, 1) := by decide +kernel
theorem dX6_isStall_15 : decode cX6_isStall 15 = .ok (.goto 4, 3) := by decide +kernel
theorem dX6_isStall_18 : decode cX6_isStall 18 = .ok (.iconst 0, 1) := by decide +kernel
theorem dX6_isStall_19 : decode cX6_isStall 19 = .ok (.ireturn, 1) := by decide +kernel
theorem dX6_by_0 : decode cX6_by 0 = .ok (.aload_n 0, 1) := by decide +kernel
theorem dX6_by_1 : decode cX6_by 1 = .ok (.getfield 7, 3) := by decide +kernel
theorem dX6_by_4 : decode cX6_by 4 = .ok (.bipush 7, 2) := by decide +kernel
theorem dX6_by_6 : decode cX6_by 6 = .ok (.iconst 5, 1) := by decide +kernel
theorem dX6_by_7 : decode cX6_by 7 = .ok (.iload_n 1, 1) := by decide +kernel
theorem dX6_by_8 : decode cX6_by 8 = .ok (.imul, 1) := by decide +kernel
theorem dX6_by_9 : decode cX6_by 9 = .ok (.iadd, 1) := by decide +kernel
theorem dX6_by_10 : decode cX6_by 10 = .ok (.iload_n 2, 1) := by decide +kernel
theorem dX6_by_11 : decode cX6_by 11 = .ok (.iadd, 1) := by decide +kernel
theorem dX6_by_12 : decode cX6_by 12 = .ok (.iaload, 1) := by decide +kernel
theorem dX6_by_13 : decode cX6_by 13 = .ok (.ireturn, 1) := by decide +kernel
theorem dX6_put_0 : decode cX6_put 0 = .ok (.aload_n 0, 1) := by decide +kernel
theorem dX6_put_1 : decode cX6_put 1 = .ok (.getfield 7, 3) := by decide +kernel
theorem dX6_put_4 : decode cX6_put 4 = .ok (.bipush 7, 2) := by decide +kernel
theorem dX6_put_6 : decode cX6_put 6 = .ok (.iconst 5, 1) := by decide +kernel
theorem dX6_put_7 : decode cX6_put 7 = .ok (.iload_n 1, 1) := by decide +kernel
theorem dX6_put_8 : decode cX6_put 8 = .ok (.imul, 1) := by decide +kernel
theorem dX6_put_9 : decode cX6_put 9 = .ok (.iadd, 1) := by decide +kernel
theorem dX6_put_10 : decode cX6_put 10 = .ok (.iload_n 2, 1) := by decide +kernel
theorem dX6_put_11 : decode cX6_put 11 = .ok (.iadd, 1) := by decide +kernel
theorem dX6_put_12 : decode cX6_put 12 = .ok (.iload_n 3, 1) := by decide +kernel
theorem dX6_put_13 : decode cX6_put 13 = .ok (.iastore, 1) := by decide +kernel
theorem dX6_put_14 : decode cX6_put 14 = .ok (.return_, 1) := by decide +kernel
theorem dX6_of_0 : decode cX6_of 0 = .ok (.aload_n 0, 1) := by decide +kernel
theorem dX6_of_1 : decode cX6_of 1 = .ok (.getfield 7, 3) := by decide +kernel
theorem dX6_of_4 : decode cX6_of 4 = .ok (.bipush 39, 2) := by decide +kernel
theorem dX6_of_6 : decode cX6_of 6 = .ok (.bipush 8, 2) := by decide +kernel
theorem dX6_of_8 : decode cX6_of 8 = .ok (.iload_n 1, 1) := by decide +kernel
theorem dX6_of_9 : decode cX6_of 9 = .ok (.imul, 1) := by decide +kernel
theorem dX6_of_10 : decode cX6_of 10 = .ok (.iadd, 1) := by decide +kernel
theorem dX6_of_11 : decode cX6_of 11 = .ok (.iload_n 2, 1) := by decide +kernel
theorem dX6_of_12 : decode cX6_of 12 = .ok (.iadd, 1) := by decide +kernel
theorem dX6_of_13 : decode cX6_of 13 = .ok (.iaload, 1) := by decide +kernel
theorem dX6_of_14 : decode cX6_of 14 = .ok (.ireturn, 1) := by decide +kernel
theorem dX6_lay_0 : decode cX6_lay 0 = .ok (.aload_n 0, 1) := by decide +kernel
theorem dX6_lay_1 : decode cX6_lay 1 = .ok (.getfield 7, 3) := by decide +kernel
theorem dX6_lay_4 : decode cX6_lay 4 = .ok (.bipush 39, 2) := by decide +kernel
theorem dX6_lay_6 : decode cX6_lay 6 = .ok (.bipush 8, 2) := by decide +kernel
theorem dX6_lay_8 : decode cX6_lay 8 = .ok (.iload_n 1, 1) := by decide +kernel
theorem dX6_lay_9 : decode cX6_lay 9 = .ok (.imul, 1) := by decide +kernel
theorem dX6_lay_10 : decode cX6_lay 10 = .ok (.iadd, 1) := by decide +kernel
theorem dX6_lay_11 : decode cX6_lay 11 = .ok (.iload_n 2, 1) := by decide +kernel
theorem dX6_lay_12 : decode cX6_lay 12 = .ok (.iadd, 1) := by decide +kernel
theorem dX6_lay_13 : decode cX6_lay 13 = .ok (.iload_n 3, 1) := by decide +kernel
theorem dX6_lay_14 : decode cX6_lay 14 = .ok (.iastore, 1) := by decide +kernel
theorem dX6_lay_15 : decode cX6_lay 15 = .ok (.return_, 1) := by decide +kernel
theorem dX6_save_0 : decode cX6_save 0 = .ok (.aload_n 0, 1) := by decide +kernel
theorem dX6_save_1 : decode cX6_save 1 = .ok (.getfield 44, 3) := by decide +kernel
theorem dX6_save_4 : decode cX6_save 4 = .ok (.bipush 6, 2) := by decide +kernel
theorem dX6_save_6 : decode cX6_save 6 = .ok (.if_icmp .ne 43, 3) := by decide +kernel
theorem dX6_save_9 : decode cX6_save 9 = .ok (.iconst 0, 1) := by decide +kernel
theorem dX6_save_10 : decode cX6_save 10 = .ok (.istore_n 1, 1) := by decide +kernel
theorem dX6_save_11 : decode cX6_save 11 = .ok (.iload_n 1, 1) := by decide +kernel
theorem dX6_save_12 : decode cX6_save 12 = .ok (.sipush 595, 3) := by decide +kernel
theorem dX6_save_15 : decode cX6_save 15 = .ok (.if_icmp .ge 24, 3) := by decide +kernel
theorem dX6_save_18 : decode cX6_save 18 = .ok (.aload_n 0, 1) := by decide +kernel
theorem dX6_save_19 : decode cX6_save 19 = .ok (.getfield 13, 3) := by decide +kernel
theorem dX6_save_22 : decode cX6_save 22 = .ok (.iload_n 1, 1) := by decide +kernel
theorem dX6_save_23 : decode cX6_save 23 = .ok (.aload_n 0, 1) := by decide +kernel
theorem dX6_save_24 : decode cX6_save 24 = .ok (.getfield 13, 3) := by decide +kernel
theorem dX6_save_27 : decode cX6_save 27 = .ok (.iload_n 1, 1) := by decide +kernel
theorem dX6_save_28 : decode cX6_save 28 = .ok (.bipush 119, 2) := by decide +kernel
theorem dX6_save_30 : decode cX6_save 30 = .ok (.iadd, 1) := by decide +kernel
theorem dX6_save_31 : decode cX6_save 31 = .ok (.iaload, 1) := by decide +kernel
theorem dX6_save_32 : decode cX6_save 32 = .ok (.iastore, 1) := by decide +kernel
theorem dX6_save_33 : decode cX6_save 33 = .ok (.iinc 1 1, 3) := by decide +kernel
theorem dX6_save_36 : decode cX6_save 36 = .ok (.goto (-25), 3) := by decide +kernel
theorem dX6_save_39 : decode cX6_save 39 = .ok (.aload_n 0, 1) := by decide +kernel
theorem dX6_save_40 : decode cX6_save 40 = .ok (.dup, 1) := by decide +kernel
theorem dX6_save_41 : decode cX6_save 41 = .ok (.getfield 44, 3) := by decide +kernel
theorem dX6_save_44 : decode cX6_save 44 = .ok (.iconst 1, 1) := by decide +kernel
theorem dX6_save_45 : decode cX6_save 45 = .ok (.isub, 1) := by decide +kernel
theorem dX6_save_46 : decode cX6_save 46 = .ok (.putfield 44, 3) := by decide +kernel
theorem dX6_save_49 : decode cX6_save 49 = .ok (.iconst 0, 1) := by decide +kernel
theorem dX6_save_50 : decode cX6_save 50 = .ok (.istore_n 1, 1) := by decide +kernel
theorem dX6_save_51 : decode cX6_save 51 = .ok (.iload_n 1, 1) := by decide +kernel
theorem dX6_save_52 : decode cX6_save 52 = .ok (.bipush 119, 2) := by decide +kernel
theorem dX6_save_54 : decode cX6_save 54 = .ok (.if_icmp .ge 29, 3) := by decide +kernel
theorem dX6_save_57 : decode cX6_save 57 = .ok (.aload_n 0, 1) := by decide +kernel
theorem dX6_save_58 : decode cX6_save 58 = .ok (.getfield 13, 3) := by decide +kernel
theorem dX6_save_61 : decode cX6_save 61 = .ok (.aload_n 0, 1) := by decide +kernel
theorem dX6_save_62 : decode cX6_save 62 = .ok (.getfield 44, 3) := by decide +kernel
theorem dX6_save_65 : decode cX6_save 65 = .ok (.bipush 119, 2) := by decide +kernel
theorem dX6_save_67 : decode cX6_save 67 = .ok (.imul, 1) := by decide +kernel
theorem dX6_save_68 : decode cX6_save 68 = .ok (.iload_n 1, 1) := by decide +kernel
theorem dX6_save_69 : decode cX6_save 69 = .ok (.iadd, 1) := by decide +kernel
theorem dX6_save_70 : decode cX6_save 70 = .ok (.aload_n 0, 1) := by decide +kernel
theorem dX6_save_71 : decode cX6_save 71 = .ok (.getfield 7, 3) := by decide +kernel
theorem dX6_save_74 : decode cX6_save 74 = .ok (.iload_n 1, 1) := by decide +kernel
theorem dX6_save_75 : decode cX6_save 75 = .ok (.iaload, 1) := by decide +kernel
theorem dX6_save_76 : decode cX6_save 76 = .ok (.iastore, 1) := by decide +kernel
theorem dX6_save_77 : decode cX6_save 77 = .ok (.iinc 1 1, 3) := by decide +kernel
theorem dX6_save_80 : decode cX6_save 80 = .ok (.goto (-29), 3) := by decide +kernel
theorem dX6_save_83 : decode cX6_save 83 = .ok (.aload_n 0, 1) := by decide +kernel
theorem dX6_save_84 : decode cX6_save 84 = .ok (.dup, 1) := by decide +kernel
theorem dX6_save_85 : decode cX6_save 85 = .ok (.getfield 44, 3) := by decide +kernel
theorem dX6_save_88 : decode cX6_save 88 = .ok (.iconst 1, 1) := by decide +kernel
theorem dX6_save_89 : decode cX6_save 89 = .ok (.iadd, 1) := by decide +kernel
theorem dX6_save_90 : decode cX6_save 90 = .ok (.putfield 44, 3) := by decide +kernel
theorem dX6_save_93 : decode cX6_save 93 = .ok (.return_, 1) := by decide +kernel
theorem dX6_undo_0 : decode cX6_undo 0 = .ok (.aload_n 0, 1) := by decide +kernel
theorem dX6_undo_1 : decode cX6_undo 1 = .ok (.aload_n 0, 1) := by decide +kernel
theorem dX6_undo_2 : decode cX6_undo 2 = .ok (.getfield 44, 3) := by decide +kernel
theorem dX6_undo_5 : decode cX6_undo 5 = .ok (.ifCond .ne 7, 3) := by decide +kernel
theorem dX6_undo_8 : decode cX6_undo 8 = .ok (.iconst 1, 1) := by decide +kernel
theorem dX6_undo_9 : decode cX6_undo 9 = .ok (.goto 4, 3) := by decide +kernel
theorem dX6_undo_12 : decode cX6_undo 12 = .ok (.iconst 0, 1) := by decide +kernel
theorem dX6_undo_13 : decode cX6_undo 13 = .ok (.putfield 36, 3) := by decide +kernel
theorem dX6_undo_16 : decode cX6_undo 16 = .ok (.aload_n 0, 1) := by decide +kernel
theorem dX6_undo_17 : decode cX6_undo 17 = .ok (.getfield 36, 3) := by decide +kernel
theorem dX6_undo_20 : decode cX6_undo 20 = .ok (.ifCond .le 5, 3) := by decide +kernel
theorem dX6_undo_23 : decode cX6_undo 23 = .ok (.iconst 0, 1) := by decide +kernel
theorem dX6_undo_24 : decode cX6_undo 24 = .ok (.ireturn, 1) := by decide +kernel
theorem dX6_undo_25 : decode cX6_undo 25 = .ok (.aload_n 0, 1) := by decide +kernel
theorem dX6_undo_26 : decode cX6_undo 26 = .ok (.dup, 1) := by decide +kernel
theorem dX6_undo_27 : decode cX6_undo 27 = .ok (.getfield 44, 3) := by decide +kernel
theorem dX6_undo_30 : decode cX6_undo 30 = .ok (.iconst 1, 1) := by decide +kernel
theorem dX6_undo_31 : decode cX6_undo 31 = .ok (.isub, 1) := by decide +kernel
theorem dX6_undo_32 : decode cX6_undo 32 = .ok (.putfield 44, 3) := by decide +kernel
theorem dX6_undo_35 : decode cX6_undo 35 = .ok (.iconst 0, 1) := by decide +kernel
theorem dX6_undo_36 : decode cX6_undo 36 = .ok (.istore_n 1, 1) := by decide +kernel
theorem dX6_undo_37 : decode cX6_undo 37 = .ok (.iload_n 1, 1) := by decide +kernel
theorem dX6_undo_38 : decode cX6_undo 38 = .ok (.bipush 119, 2) := by decide +kernel
theorem dX6_undo_40 : decode cX6_undo 40 = .ok (.if_icmp .ge 29, 3) := by decide +kernel
theorem dX6_undo_43 : decode cX6_undo 43 = .ok (.aload_n 0, 1) := by decide +kernel
theorem dX6_undo_44 : decode cX6_undo 44 = .ok (.getfield 7, 3) := by decide +kernel
theorem dX6_undo_47 : decode cX6_undo 47 = .ok (.iload_n 1, 1) := by decide +kernel
theorem dX6_undo_48 : decode cX6_undo 48 = .ok (.aload_n 0, 1) := by decide +kernel
theorem dX6_undo_49 : decode cX6_undo 49 = .ok (.getfield 13, 3) := by decide +kernel
theorem dX6_undo_52 : decode cX6_undo 52 = .ok (.aload_n 0, 1) := by decide +kernel
theorem dX6_undo_53 : decode cX6_undo 53 = .ok (.getfield 44, 3) := by decide +kernel
theorem dX6_undo_56 : decode cX6_undo 56 = .ok (.bipush 119, 2) := by decide +kernel
theorem dX6_undo_58 : decode cX6_undo 58 = .ok (.imul, 1) := by decide +kernel
theorem dX6_undo_59 : decode cX6_undo 59 = .ok (.iload_n 1, 1) := by decide +kernel
theorem dX6_undo_60 : decode cX6_undo 60 = .ok (.iadd, 1) := by decide +kernel
theorem dX6_undo_61 : decode cX6_undo 61 = .ok (.iaload, 1) := by decide +kernel
theorem dX6_undo_62 : decode cX6_undo 62 = .ok (.iastore, 1) := by decide +kernel
theorem dX6_undo_63 : decode cX6_undo 63 = .ok (.iinc 1 1, 3) := by decide +kernel
theorem dX6_undo_66 : decode cX6_undo 66 = .ok (.goto (-29), 3) := by decide +kernel
theorem dX6_undo_69 : decode cX6_undo 69 = .ok (.aload_n 0, 1) := by decide +kernel
theorem dX6_undo_70 : decode cX6_undo 70 = .ok (.getfield 44, 3) := by decide +kernel
theorem dX6_undo_73 : decode cX6_undo 73 = .ok (.ireturn, 1) := by decide +kernel
theorem dX6_putAside_0 : decode cX6_putAside 0 = .ok (.iconst 0, 1) := by decide +kernel
theorem dX6_putAside_1 : decode cX6_putAside 1 = .ok (.istore_n 1, 1) := by decide +kernel
theorem dX6_putAside_2 : decode cX6_putAside 2 = .ok (.iload_n 1, 1) := by decide +kernel
theorem dX6_putAside_3 : decode cX6_putAside 3 = .ok (.bipush 119, 2) := by decide +kernel
theorem dX6_putAside_5 : decode cX6_putAside 5 = .ok (.if_icmp .ge 21, 3) := by decide +kernel
theorem dX6_putAside_8 : decode cX6_putAside 8 = .ok (.aload_n 0, 1) := by decide +kernel
theorem dX6_putAside_9 : decode cX6_putAside 9 = .ok (.getfield 23, 3) := by decide +kernel
theorem dX6_putAside_12 : decode cX6_putAside 12 = .ok (.iload_n 1, 1) := by decide +kernel
theorem dX6_putAside_13 : decode cX6_putAside 13 = .ok (.aload_n 0, 1) := by decide +kernel
theorem dX6_putAside_14 : decode cX6_putAside 14 = .ok (.getfield 7, 3) := by decide +kernel
theorem dX6_putAside_17 : decode cX6_putAside 17 = .ok (.iload_n 1, 1) := by decide +kernel
theorem dX6_putAside_18 : decode cX6_putAside 18 = .ok (.iaload, 1) := by decide +kernel
theorem dX6_putAside_19 : decode cX6_putAside 19 = .ok (.iastore, 1) := by decide +kernel
theorem dX6_putAside_20 : decode cX6_putAside 20 = .ok (.iinc 1 1, 3) := by decide +kernel
theorem dX6_putAside_23 : decode cX6_putAside 23 = .ok (.goto (-21), 3) := by decide +kernel
theorem dX6_putAside_26 : decode cX6_putAside 26 = .ok (.return_, 1) := by decide +kernel
theorem dX6_bringBack_0 : decode cX6_bringBack 0 = .ok (.iconst 0, 1) := by decide +kernel
theorem dX6_bringBack_1 : decode cX6_bringBack 1 = .ok (.istore_n 1, 1) := by decide +kernel
theorem dX6_bringBack_2 : decode cX6_bringBack 2 = .ok (.iload_n 1, 1) := by decide +kernel
theorem dX6_bringBack_3 : decode cX6_bringBack 3 = .ok (.bipush 119, 2) := by decide +kernel
theorem dX6_bringBack_5 : decode cX6_bringBack 5 = .ok (.if_icmp .ge 21, 3) := by decide +kernel
theorem dX6_bringBack_8 : decode cX6_bringBack 8 = .ok (.aload_n 0, 1) := by decide +kernel
theorem dX6_bringBack_9 : decode cX6_bringBack 9 = .ok (.getfield 7, 3) := by decide +kernel
theorem dX6_bringBack_12 : decode cX6_bringBack 12 = .ok (.iload_n 1, 1) := by decide +kernel
theorem dX6_bringBack_13 : decode cX6_bringBack 13 = .ok (.aload_n 0, 1) := by decide +kernel
theorem dX6_bringBack_14 : decode cX6_bringBack 14 = .ok (.getfield 23, 3) := by decide +kernel
theorem dX6_bringBack_17 : decode cX6_bringBack 17 = .ok (.iload_n 1, 1) := by decide +kernel
theorem dX6_bringBack_18 : decode cX6_bringBack 18 = .ok (.iaload, 1) := by decide +kernel
theorem dX6_bringBack_19 : decode cX6_bringBack 19 = .ok (.iastore, 1) := by decide +kernel
theorem dX6_bringBack_20 : decode cX6_bringBack 20 = .ok (.iinc 1 1, 3) := by decide +kernel
theorem dX6_bringBack_23 : decode cX6_bringBack 23 = .ok (.goto (-21), 3) := by decide +kernel
theorem dX6_bringBack_26 : decode cX6_bringBack 26 = .ok (.return_, 1) := by decide +kernel
theorem dX6_breakerOf_0 : decode cX6_breakerOf 0 = .ok (.aload_n 0, 1) := by decide +kernel
theorem dX6_breakerOf_1 : decode cX6_breakerOf 1 = .ok (.getfield 7, 3) := by decide +kernel
theorem dX6_breakerOf_4 : decode cX6_breakerOf 4 = .ok (.bipush 27, 2) := by decide +kernel
theorem dX6_breakerOf_6 : decode cX6_breakerOf 6 = .ok (.iload_n 1, 1) := by decide +kernel
theorem dX6_breakerOf_7 : decode cX6_breakerOf 7 = .ok (.iadd, 1) := by decide +kernel
theorem dX6_breakerOf_8 : decode cX6_breakerOf 8 = .ok (.iaload, 1) := by decide +kernel
theorem dX6_breakerOf_9 : decode cX6_breakerOf 9 = .ok (.iconst 1, 1) := by decide +kernel
theorem dX6_breakerOf_10 : decode cX6_breakerOf 10 = .ok (.if_icmp .ne 7, 3) := by decide +kernel
theorem dX6_breakerOf_13 : decode cX6_breakerOf 13 = .ok (.iconst 3, 1) := by decide +kernel
theorem dX6_breakerOf_14 : decode cX6_breakerOf 14 = .ok (.goto 6, 3) := by decide +kernel
theorem dX6_breakerOf_17 : decode cX6_breakerOf 17 = .ok (.iload_n 1, 1) := by decide +kernel
theorem dX6_breakerOf_18 : decode cX6_breakerOf 18 = .ok (.iconst 3, 1) := by decide +kernel
theorem dX6_breakerOf_19 : decode cX6_breakerOf 19 = .ok (.idiv, 1) := by decide +kernel
theorem dX6_breakerOf_20 : decode cX6_breakerOf 20 = .ok (.ireturn, 1) := by decide +kernel
theorem dX6_wantsLoad_0 : decode cX6_wantsLoad 0 = .ok (.aload_n 0, 1) := by decide +kernel
theorem dX6_wantsLoad_1 : decode cX6_wantsLoad 1 = .ok (.getfield 7, 3) := by decide +kernel
theorem dX6_wantsLoad_4 : decode cX6_wantsLoad 4 = .ok (.iconst 3, 1) := by decide +kernel
theorem dX6_wantsLoad_5 : decode cX6_wantsLoad 5 = .ok (.iaload, 1) := by decide +kernel
theorem dX6_wantsLoad_6 : decode cX6_wantsLoad 6 = .ok (.bipush 24, 2) := by decide +kernel
theorem dX6_wantsLoad_8 : decode cX6_wantsLoad 8 = .ok (.irem, 1) := by decide +kernel
theorem dX6_wantsLoad_9 : decode cX6_wantsLoad 9 = .ok (.istore_n 2, 1) := by decide +kernel
theorem dX6_wantsLoad_10 : decode cX6_wantsLoad 10 = .ok (.aload_n 0, 1) := by decide +kernel
theorem dX6_wantsLoad_11 : decode cX6_wantsLoad 11 = .ok (.iload_n 1, 1) := by decide +kernel
theorem dX6_wantsLoad_12 : decode cX6_wantsLoad 12 = .ok (.iconst 1, 1) := by decide +kernel
theorem dX6_wantsLoad_13 : decode cX6_wantsLoad 13 = .ok (.invokevirtual 47, 3) := by decide +kernel
theorem dX6_wantsLoad_16 : decode cX6_wantsLoad 16 = .ok (.istore_n 3, 1) := by decide +kernel
theorem dX6_wantsLoad_17 : decode cX6_wantsLoad 17 = .ok (.aload_n 0, 1) := by decide +kernel
theorem dX6_wantsLoad_18 : decode cX6_wantsLoad 18 = .ok (.iload_n 1, 1) := by decide +kernel
theorem dX6_wantsLoad_19 : decode cX6_wantsLoad 19 = .ok (.iconst 2, 1) := by decide +kernel
theorem dX6_wantsLoad_20 : decode cX6_wantsLoad 20 = .ok (.invokevirtual 47, 3) := by decide +kernel
theorem dX6_wantsLoad_23 : decode cX6_wantsLoad 23 = .ok (.istore 4, 2) := by decide +kernel
theorem dX6_wantsLoad_25 : decode cX6_wantsLoad 25 = .ok (.iload_n 3, 1) := by decide +kernel
theorem dX6_wantsLoad_26 : decode cX6_wantsLoad 26 = .ok (.iload 4, 2) := by decide +kernel
theorem dX6_wantsLoad_28 : decode cX6_wantsLoad 28 = .ok (.if_icmp .gt 22, 3) := by decide +kernel
theorem dX6_wantsLoad_31 : decode cX6_wantsLoad 31 = .ok (.iload_n 2, 1) := by decide +kernel
theorem dX6_wantsLoad_32 : decode cX6_wantsLoad 32 = .ok (.iload_n 3, 1) := by decide +kernel
theorem dX6_wantsLoad_33 : decode cX6_wantsLoad 33 = .ok (.if_icmp .lt 13, 3) := by decide +kernel
theorem dX6_wantsLoad_36 : decode cX6_wantsLoad 36 = .ok (.iload_n 2, 1) := by decide +kernel
theorem dX6_wantsLoad_37 : decode cX6_wantsLoad 37 = .ok (.iload 4, 2) := by decide +kernel
theorem dX6_wantsLoad_39 : decode cX6_wantsLoad 39 = .ok (.if_icmp .gt 7, 3) := by decide +kernel
theorem dX6_wantsLoad_42 : decode cX6_wantsLoad 42 = .ok (.iconst 1, 1) := by decide +kernel
theorem dX6_wantsLoad_43 : decode cX6_wantsLoad 43 = .ok (.goto 23, 3) := by decide +kernel
theorem dX6_wantsLoad_46 : decode cX6_wantsLoad 46 = .ok (.iconst 0, 1) := by decide +kernel
theorem dX6_wantsLoad_47 : decode cX6_wantsLoad 47 = .ok (.goto 19, 3) := by decide +kernel
theorem dX6_wantsLoad_50 : decode cX6_wantsLoad 50 = .ok (.iload_n 2, 1) := by decide +kernel
theorem dX6_wantsLoad_51 : decode cX6_wantsLoad 51 = .ok (.iload_n 3, 1) := by decide +kernel
theorem dX6_wantsLoad_52 : decode cX6_wantsLoad 52 = .ok (.if_icmp .ge 9, 3) := by decide +kernel
theorem dX6_wantsLoad_55 : decode cX6_wantsLoad 55 = .ok (.iload_n 2, 1) := by decide +kernel
theorem dX6_wantsLoad_56 : decode cX6_wantsLoad 56 = .ok (.iload 4, 2) := by decide +kernel
theorem dX6_wantsLoad_58 : decode cX6_wantsLoad 58 = .ok (.if_icmp .gt 7, 3) := by decide +kernel
theorem dX6_wantsLoad_61 : decode cX6_wantsLoad 61 = .ok (.iconst 1, 1) := by decide +kernel
theorem dX6_wantsLoad_62 : decode cX6_wantsLoad 62 = .ok (.goto 4, 3) := by decide +kernel
theorem dX6_wantsLoad_65 : decode cX6_wantsLoad 65 = .ok (.iconst 0, 1) := by decide +kernel
theorem dX6_wantsLoad_66 : decode cX6_wantsLoad 66 = .ok (.ireturn, 1) := by decide +kernel
theorem dX6_reason_0 : decode cX6_reason 0 = .ok (.aload_n 0, 1) := by decide +kernel
theorem dX6_reason_1 : decode cX6_reason 1 = .ok (.iload_n 1, 1) := by decide +kernel
theorem dX6_reason_2 : decode cX6_reason 2 = .ok (.invokevirtual 51, 3) := by decide +kernel
theorem dX6_reason_5 : decode cX6_reason 5 = .ok (.ifCond .ne 5, 3) := by decide +kernel
theorem dX6_reason_8 : decode cX6_reason 8 = .ok (.iconst 1, 1) := by decide +kernel
theorem dX6_reason_9 : decode cX6_reason 9 = .ok (.ireturn, 1) := by decide +kernel
theorem dX6_reason_10 : decode cX6_reason 10 = .ok (.aload_n 0, 1) := by decide +kernel
theorem dX6_reason_11 : decode cX6_reason 11 = .ok (.iload_n 1, 1) := by decide +kernel
theorem dX6_reason_12 : decode cX6_reason 12 = .ok (.iconst 4, 1) := by decide +kernel
theorem dX6_reason_13 : decode cX6_reason 13 = .ok (.invokevirtual 47, 3) := by decide +kernel
theorem dX6_reason_16 : decode cX6_reason 16 = .ok (.iconst (-1), 1) := by decide +kernel
theorem dX6_reason_17 : decode cX6_reason 17 = .ok (.if_icmp .ne 5, 3) := by decide +kernel
theorem dX6_reason_20 : decode cX6_reason 20 = .ok (.iconst 2, 1) := by decide +kernel
theorem dX6_reason_21 : decode cX6_reason 21 = .ok (.ireturn, 1) := by decide +kernel
theorem dX6_reason_22 : decode cX6_reason 22 = .ok (.aload_n 0, 1) := by decide +kernel
theorem dX6_reason_23 : decode cX6_reason 23 = .ok (.aload_n 0, 1) := by decide +kernel
theorem dX6_reason_24 : decode cX6_reason 24 = .ok (.aload_n 0, 1) := by decide +kernel
theorem dX6_reason_25 : decode cX6_reason 25 = .ok (.iload_n 1, 1) := by decide +kernel
theorem dX6_reason_26 : decode cX6_reason 26 = .ok (.iconst 4, 1) := by decide +kernel
theorem dX6_reason_27 : decode cX6_reason 27 = .ok (.invokevirtual 47, 3) := by decide +kernel
theorem dX6_reason_30 : decode cX6_reason 30 = .ok (.invokevirtual 55, 3) := by decide +kernel
theorem dX6_reason_33 : decode cX6_reason 33 = .ok (.iconst 1, 1) := by decide +kernel
theorem dX6_reason_34 : decode cX6_reason 34 = .ok (.invokevirtual 59, 3) := by decide +kernel
theorem dX6_reason_37 : decode cX6_reason 37 = .ok (.ifCond .ne 7, 3) := by decide +kernel
theorem dX6_reason_40 : decode cX6_reason 40 = .ok (.iconst 3, 1) := by decide +kernel
theorem dX6_reason_41 : decode cX6_reason 41 = .ok (.goto 18, 3) := by decide +kernel
theorem dX6_reason_44 : decode cX6_reason 44 = .ok (.aload_n 0, 1) := by decide +kernel
theorem dX6_reason_45 : decode cX6_reason 45 = .ok (.iload_n 1, 1) := by decide +kernel
theorem dX6_reason_46 : decode cX6_reason 46 = .ok (.iconst 5, 1) := by decide +kernel
theorem dX6_reason_47 : decode cX6_reason 47 = .ok (.invokevirtual 47, 3) := by decide +kernel
theorem dX6_reason_50 : decode cX6_reason 50 = .ok (.iconst 1, 1) := by decide +kernel
theorem dX6_reason_51 : decode cX6_reason 51 = .ok (.if_icmp .ne 7, 3) := by decide +kernel
theorem dX6_reason_54 : decode cX6_reason 54 = .ok (.iconst 4, 1) := by decide +kernel
theorem dX6_reason_55 : decode cX6_reason 55 = .ok (.goto 4, 3) := by decide +kernel
theorem dX6_reason_58 : decode cX6_reason 58 = .ok (.iconst 0, 1) := by decide +kernel
theorem dX6_reason_59 : decode cX6_reason 59 = .ok (.ireturn, 1) := by decide +kernel
theorem dX6_isOn_0 : decode cX6_isOn 0 = .ok (.aload_n 0, 1) := by decide +kernel
theorem dX6_isOn_1 : decode cX6_isOn 1 = .ok (.iload_n 1, 1) := by decide +kernel
theorem dX6_isOn_2 : decode cX6_isOn 2 = .ok (.iconst 4, 1) := by decide +kernel
theorem dX6_isOn_3 : decode cX6_isOn 3 = .ok (.invokevirtual 47, 3) := by decide +kernel
theorem dX6_isOn_6 : decode cX6_isOn 6 = .ok (.iconst (-1), 1) := by decide +kernel
theorem dX6_isOn_7 : decode cX6_isOn 7 = .ok (.if_icmp .eq 21, 3) := by decide +kernel
theorem dX6_isOn_10 : decode cX6_isOn 10 = .ok (.aload_n 0, 1) := by decide +kernel
theorem dX6_isOn_11 : decode cX6_isOn 11 = .ok (.aload_n 0, 1) := by decide +kernel
theorem dX6_isOn_12 : decode cX6_isOn 12 = .ok (.iload_n 1, 1) := by decide +kernel
theorem dX6_isOn_13 : decode cX6_isOn 13 = .ok (.iconst 4, 1) := by decide +kernel
theorem dX6_isOn_14 : decode cX6_isOn 14 = .ok (.invokevirtual 47, 3) := by decide +kernel
theorem dX6_isOn_17 : decode cX6_isOn 17 = .ok (.invokevirtual 55, 3) := by decide +kernel
theorem dX6_isOn_20 : decode cX6_isOn 20 = .ok (.iload_n 2, 1) := by decide +kernel
theorem dX6_isOn_21 : decode cX6_isOn 21 = .ok (.if_icmp .ne 7, 3) := by decide +kernel
theorem dX6_isOn_24 : decode cX6_isOn 24 = .ok (.iconst 1, 1) := by decide +kernel
theorem dX6_isOn_25 : decode cX6_isOn 25 = .ok (.goto 4, 3) := by decide +kernel
theorem dX6_isOn_28 : decode cX6_isOn 28 = .ok (.iconst 0, 1) := by decide +kernel
theorem dX6_isOn_29 : decode cX6_isOn 29 = .ok (.ireturn, 1) := by decide +kernel
theorem dX6_carried_0 : decode cX6_carried 0 = .ok (.iconst 0, 1) := by decide +kernel
theorem dX6_carried_1 : decode cX6_carried 1 = .ok (.istore_n 2, 1) := by decide +kernel
theorem dX6_carried_2 : decode cX6_carried 2 = .ok (.iconst 0, 1) := by decide +kernel
theorem dX6_carried_3 : decode cX6_carried 3 = .ok (.istore_n 3, 1) := by decide +kernel
theorem dX6_carried_4 : decode cX6_carried 4 = .ok (.iload_n 3, 1) := by decide +kernel
theorem dX6_carried_5 : decode cX6_carried 5 = .ok (.aload_n 0, 1) := by decide +kernel
theorem dX6_carried_6 : decode cX6_carried 6 = .ok (.getfield 7, 3) := by decide +kernel
theorem dX6_carried_9 : decode cX6_carried 9 = .ok (.iconst 4, 1) := by decide +kernel
theorem dX6_carried_10 : decode cX6_carried 10 = .ok (.iaload, 1) := by decide +kernel
theorem dX6_carried_11 : decode cX6_carried 11 = .ok (.if_icmp .ge 39, 3) := by decide +kernel
theorem dX6_carried_14 : decode cX6_carried 14 = .ok (.iload_n 2, 1) := by decide +kernel
theorem dX6_carried_15 : decode cX6_carried 15 = .ok (.aload_n 0, 1) := by decide +kernel
theorem dX6_carried_16 : decode cX6_carried 16 = .ok (.iload_n 3, 1) := by decide +kernel
theorem dX6_carried_17 : decode cX6_carried 17 = .ok (.iload_n 1, 1) := by decide +kernel
theorem dX6_carried_18 : decode cX6_carried 18 = .ok (.invokevirtual 62, 3) := by decide +kernel
theorem dX6_carried_21 : decode cX6_carried 21 = .ok (.ifCond .eq 20, 3) := by decide +kernel
theorem dX6_carried_24 : decode cX6_carried 24 = .ok (.aload_n 0, 1) := by decide +kernel
theorem dX6_carried_25 : decode cX6_carried 25 = .ok (.iload_n 3, 1) := by decide +kernel
theorem dX6_carried_26 : decode cX6_carried 26 = .ok (.invokevirtual 66, 3) := by decide +kernel
theorem dX6_carried_29 : decode cX6_carried 29 = .ok (.ifCond .ne 12, 3) := by decide +kernel
theorem dX6_carried_32 : decode cX6_carried 32 = .ok (.aload_n 0, 1) := by decide +kernel
theorem dX6_carried_33 : decode cX6_carried 33 = .ok (.iload_n 3, 1) := by decide +kernel
theorem dX6_carried_34 : decode cX6_carried 34 = .ok (.iconst 0, 1) := by decide +kernel
theorem dX6_carried_35 : decode cX6_carried 35 = .ok (.invokevirtual 47, 3) := by decide +kernel
theorem dX6_carried_38 : decode cX6_carried 38 = .ok (.goto 4, 3) := by decide +kernel
theorem dX6_carried_41 : decode cX6_carried 41 = .ok (.iconst 0, 1) := by decide +kernel
theorem dX6_carried_42 : decode cX6_carried 42 = .ok (.iadd, 1) := by decide +kernel
theorem dX6_carried_43 : decode cX6_carried 43 = .ok (.istore_n 2, 1) := by decide +kernel
theorem dX6_carried_44 : decode cX6_carried 44 = .ok (.iinc 3 1, 3) := by decide +kernel
theorem dX6_carried_47 : decode cX6_carried 47 = .ok (.goto (-43), 3) := by decide +kernel
theorem dX6_carried_50 : decode cX6_carried 50 = .ok (.iload_n 2, 1) := by decide +kernel
theorem dX6_carried_51 : decode cX6_carried 51 = .ok (.ireturn, 1) := by decide +kernel
theorem dX6_goesFirst_0 : decode cX6_goesFirst 0 = .ok (.aload_n 0, 1) := by decide +kernel
theorem dX6_goesFirst_1 : decode cX6_goesFirst 1 = .ok (.iload_n 1, 1) := by decide +kernel
theorem dX6_goesFirst_2 : decode cX6_goesFirst 2 = .ok (.iconst 3, 1) := by decide +kernel
theorem dX6_goesFirst_3 : decode cX6_goesFirst 3 = .ok (.invokevirtual 47, 3) := by decide +kernel
theorem dX6_goesFirst_6 : decode cX6_goesFirst 6 = .ok (.aload_n 0, 1) := by decide +kernel
theorem dX6_goesFirst_7 : decode cX6_goesFirst 7 = .ok (.iload_n 2, 1) := by decide +kernel
theorem dX6_goesFirst_8 : decode cX6_goesFirst 8 = .ok (.iconst 3, 1) := by decide +kernel
theorem dX6_goesFirst_9 : decode cX6_goesFirst 9 = .ok (.invokevirtual 47, 3) := by decide +kernel
theorem dX6_goesFirst_12 : decode cX6_goesFirst 12 = .ok (.if_icmp .gt 33, 3) := by decide +kernel
theorem dX6_goesFirst_15 : decode cX6_goesFirst 15 = .ok (.aload_n 0, 1) := by decide +kernel
theorem dX6_goesFirst_16 : decode cX6_goesFirst 16 = .ok (.iload_n 1, 1) := by decide +kernel
theorem dX6_goesFirst_17 : decode cX6_goesFirst 17 = .ok (.iconst 3, 1) := by decide +kernel
theorem dX6_goesFirst_18 : decode cX6_goesFirst 18 = .ok (.invokevirtual 47, 3) := by decide +kernel
theorem dX6_goesFirst_21 : decode cX6_goesFirst 21 = .ok (.aload_n 0, 1) := by decide +kernel
theorem dX6_goesFirst_22 : decode cX6_goesFirst 22 = .ok (.iload_n 2, 1) := by decide +kernel
theorem dX6_goesFirst_23 : decode cX6_goesFirst 23 = .ok (.iconst 3, 1) := by decide +kernel
theorem dX6_goesFirst_24 : decode cX6_goesFirst 24 = .ok (.invokevirtual 47, 3) := by decide +kernel
theorem dX6_goesFirst_27 : decode cX6_goesFirst 27 = .ok (.if_icmp .ne 22, 3) := by decide +kernel
theorem dX6_goesFirst_30 : decode cX6_goesFirst 30 = .ok (.aload_n 0, 1) := by decide +kernel
theorem dX6_goesFirst_31 : decode cX6_goesFirst 31 = .ok (.iload_n 1, 1) := by decide +kernel
theorem dX6_goesFirst_32 : decode cX6_goesFirst 32 = .ok (.iconst 0, 1) := by decide +kernel
theorem dX6_goesFirst_33 : decode cX6_goesFirst 33 = .ok (.invokevirtual 47, 3) := by decide +kernel
theorem dX6_goesFirst_36 : decode cX6_goesFirst 36 = .ok (.aload_n 0, 1) := by decide +kernel
theorem dX6_goesFirst_37 : decode cX6_goesFirst 37 = .ok (.iload_n 2, 1) := by decide +kernel
theorem dX6_goesFirst_38 : decode cX6_goesFirst 38 = .ok (.iconst 0, 1) := by decide +kernel
theorem dX6_goesFirst_39 : decode cX6_goesFirst 39 = .ok (.invokevirtual 47, 3) := by decide +kernel
theorem dX6_goesFirst_42 : decode cX6_goesFirst 42 = .ok (.if_icmp .le 7, 3) := by decide +kernel
theorem dX6_goesFirst_45 : decode cX6_goesFirst 45 = .ok (.iconst 1, 1) := by decide +kernel
theorem dX6_goesFirst_46 : decode cX6_goesFirst 46 = .ok (.goto 4, 3) := by decide +kernel
theorem dX6_goesFirst_49 : decode cX6_goesFirst 49 = .ok (.iconst 0, 1) := by decide +kernel
theorem dX6_goesFirst_50 : decode cX6_goesFirst 50 = .ok (.ireturn, 1) := by decide +kernel
theorem dX6_firstToShed_0 : decode cX6_firstToShed 0 = .ok (.iconst (-1), 1) := by decide +kernel
theorem dX6_firstToShed_1 : decode cX6_firstToShed 1 = .ok (.istore_n 2, 1) := by decide +kernel
theorem dX6_firstToShed_2 : decode cX6_firstToShed 2 = .ok (.iconst 0, 1) := by decide +kernel
theorem dX6_firstToShed_3 : decode cX6_firstToShed 3 = .ok (.istore_n 3, 1) := by decide +kernel
theorem dX6_firstToShed_4 : decode cX6_firstToShed 4 = .ok (.iload_n 3, 1) := by decide +kernel
theorem dX6_firstToShed_5 : decode cX6_firstToShed 5 = .ok (.aload_n 0, 1) := by decide +kernel
theorem dX6_firstToShed_6 : decode cX6_firstToShed 6 = .ok (.getfield 7, 3) := by decide +kernel
theorem dX6_firstToShed_9 : decode cX6_firstToShed 9 = .ok (.iconst 4, 1) := by decide +kernel
theorem dX6_firstToShed_10 : decode cX6_firstToShed 10 = .ok (.iaload, 1) := by decide +kernel
theorem dX6_firstToShed_11 : decode cX6_firstToShed 11 = .ok (.if_icmp .ge 46, 3) := by decide +kernel
theorem dX6_firstToShed_14 : decode cX6_firstToShed 14 = .ok (.aload_n 0, 1) := by decide +kernel
theorem dX6_firstToShed_15 : decode cX6_firstToShed 15 = .ok (.iload_n 3, 1) := by decide +kernel
theorem dX6_firstToShed_16 : decode cX6_firstToShed 16 = .ok (.iload_n 1, 1) := by decide +kernel
theorem dX6_firstToShed_17 : decode cX6_firstToShed 17 = .ok (.invokevirtual 62, 3) := by decide +kernel
theorem dX6_firstToShed_20 : decode cX6_firstToShed 20 = .ok (.ifCond .eq 29, 3) := by decide +kernel
theorem dX6_firstToShed_23 : decode cX6_firstToShed 23 = .ok (.aload_n 0, 1) := by decide +kernel
theorem dX6_firstToShed_24 : decode cX6_firstToShed 24 = .ok (.iload_n 3, 1) := by decide +kernel
theorem dX6_firstToShed_25 : decode cX6_firstToShed 25 = .ok (.invokevirtual 66, 3) := by decide +kernel
theorem dX6_firstToShed_28 : decode cX6_firstToShed 28 = .ok (.ifCond .ne 21, 3) := by decide +kernel
theorem dX6_firstToShed_31 : decode cX6_firstToShed 31 = .ok (.iload_n 2, 1) := by decide +kernel
theorem dX6_firstToShed_32 : decode cX6_firstToShed 32 = .ok (.iconst (-1), 1) := by decide +kernel
theorem dX6_firstToShed_33 : decode cX6_firstToShed 33 = .ok (.if_icmp .eq 12, 3) := by decide +kernel
theorem dX6_firstToShed_36 : decode cX6_firstToShed 36 = .ok (.aload_n 0, 1) := by decide +kernel
theorem dX6_firstToShed_37 : decode cX6_firstToShed 37 = .ok (.iload_n 3, 1) := by decide +kernel
theorem dX6_firstToShed_38 : decode cX6_firstToShed 38 = .ok (.iload_n 2, 1) := by decide +kernel
theorem dX6_firstToShed_39 : decode cX6_firstToShed 39 = .ok (.invokevirtual 69, 3) := by decide +kernel
theorem dX6_firstToShed_42 : decode cX6_firstToShed 42 = .ok (.ifCond .eq 7, 3) := by decide +kernel
theorem dX6_firstToShed_45 : decode cX6_firstToShed 45 = .ok (.iload_n 3, 1) := by decide +kernel
theorem dX6_firstToShed_46 : decode cX6_firstToShed 46 = .ok (.goto 4, 3) := by decide +kernel
theorem dX6_firstToShed_49 : decode cX6_firstToShed 49 = .ok (.iload_n 2, 1) := by decide +kernel
theorem dX6_firstToShed_50 : decode cX6_firstToShed 50 = .ok (.istore_n 2, 1) := by decide +kernel
theorem dX6_firstToShed_51 : decode cX6_firstToShed 51 = .ok (.iinc 3 1, 3) := by decide +kernel
theorem dX6_firstToShed_54 : decode cX6_firstToShed 54 = .ok (.goto (-50), 3) := by decide +kernel
theorem dX6_firstToShed_57 : decode cX6_firstToShed 57 = .ok (.iload_n 2, 1) := by decide +kernel
theorem dX6_firstToShed_58 : decode cX6_firstToShed 58 = .ok (.ireturn, 1) := by decide +kernel
theorem dX6_shedByRank_0 : decode cX6_shedByRank 0 = .ok (.aload_n 0, 1) := by decide +kernel
theorem dX6_shedByRank_1 : decode cX6_shedByRank 1 = .ok (.getfield 7, 3) := by decide +kernel
theorem dX6_shedByRank_4 : decode cX6_shedByRank 4 = .ok (.iconst 1, 1) := by decide +kernel
theorem dX6_shedByRank_5 : decode cX6_shedByRank 5 = .ok (.iaload, 1) := by decide +kernel
theorem dX6_shedByRank_6 : decode cX6_shedByRank 6 = .ok (.iconst 1, 1) := by decide +kernel
theorem dX6_shedByRank_7 : decode cX6_shedByRank 7 = .ok (.if_icmp .ne 51, 3) := by decide +kernel
theorem dX6_shedByRank_10 : decode cX6_shedByRank 10 = .ok (.aload_n 0, 1) := by decide +kernel
theorem dX6_shedByRank_11 : decode cX6_shedByRank 11 = .ok (.iload_n 1, 1) := by decide +kernel
theorem dX6_shedByRank_12 : decode cX6_shedByRank 12 = .ok (.iconst 1, 1) := by decide +kernel
theorem dX6_shedByRank_13 : decode cX6_shedByRank 13 = .ok (.invokevirtual 59, 3) := by decide +kernel
theorem dX6_shedByRank_16 : decode cX6_shedByRank 16 = .ok (.iconst 1, 1) := by decide +kernel
theorem dX6_shedByRank_17 : decode cX6_shedByRank 17 = .ok (.if_icmp .ne 41, 3) := by decide +kernel
theorem dX6_shedByRank_20 : decode cX6_shedByRank 20 = .ok (.aload_n 0, 1) := by decide +kernel
theorem dX6_shedByRank_21 : decode cX6_shedByRank 21 = .ok (.iload_n 1, 1) := by decide +kernel
theorem dX6_shedByRank_22 : decode cX6_shedByRank 22 = .ok (.invokevirtual 72, 3) := by decide +kernel
theorem dX6_shedByRank_25 : decode cX6_shedByRank 25 = .ok (.aload_n 0, 1) := by decide +kernel
theorem dX6_shedByRank_26 : decode cX6_shedByRank 26 = .ok (.iload_n 1, 1) := by decide +kernel
theorem dX6_shedByRank_27 : decode cX6_shedByRank 27 = .ok (.iconst 0, 1) := by decide +kernel
theorem dX6_shedByRank_28 : decode cX6_shedByRank 28 = .ok (.invokevirtual 59, 3) := by decide +kernel
theorem dX6_shedByRank_31 : decode cX6_shedByRank 31 = .ok (.if_icmp .le 27, 3) := by decide +kernel
theorem dX6_shedByRank_34 : decode cX6_shedByRank 34 = .ok (.aload_n 0, 1) := by decide +kernel
theorem dX6_shedByRank_35 : decode cX6_shedByRank 35 = .ok (.aload_n 0, 1) := by decide +kernel
theorem dX6_shedByRank_36 : decode cX6_shedByRank 36 = .ok (.iload_n 1, 1) := by decide +kernel
theorem dX6_shedByRank_37 : decode cX6_shedByRank 37 = .ok (.invokevirtual 75, 3) := by decide +kernel
theorem dX6_shedByRank_40 : decode cX6_shedByRank 40 = .ok (.iconst 5, 1) := by decide +kernel
theorem dX6_shedByRank_41 : decode cX6_shedByRank 41 = .ok (.iconst 1, 1) := by decide +kernel
theorem dX6_shedByRank_42 : decode cX6_shedByRank 42 = .ok (.invokevirtual 78, 3) := by decide +kernel
theorem dX6_shedByRank_45 : decode cX6_shedByRank 45 = .ok (.aload_n 0, 1) := by decide +kernel
theorem dX6_shedByRank_46 : decode cX6_shedByRank 46 = .ok (.getfield 7, 3) := by decide +kernel
theorem dX6_shedByRank_49 : decode cX6_shedByRank 49 = .ok (.iconst 5, 1) := by decide +kernel
theorem dX6_shedByRank_50 : decode cX6_shedByRank 50 = .ok (.dup2, 1) := by decide +kernel
theorem dX6_shedByRank_51 : decode cX6_shedByRank 51 = .ok (.iaload, 1) := by decide +kernel
theorem dX6_shedByRank_52 : decode cX6_shedByRank 52 = .ok (.iconst 1, 1) := by decide +kernel
theorem dX6_shedByRank_53 : decode cX6_shedByRank 53 = .ok (.iadd, 1) := by decide +kernel
theorem dX6_shedByRank_54 : decode cX6_shedByRank 54 = .ok (.iastore, 1) := by decide +kernel
theorem dX6_shedByRank_55 : decode cX6_shedByRank 55 = .ok (.goto (-55), 3) := by decide +kernel
theorem dX6_shedByRank_58 : decode cX6_shedByRank 58 = .ok (.return_, 1) := by decide +kernel
theorem dX6_warm_0 : decode cX6_warm 0 = .ok (.aload_n 0, 1) := by decide +kernel
theorem dX6_warm_1 : decode cX6_warm 1 = .ok (.iload_n 1, 1) := by decide +kernel
theorem dX6_warm_2 : decode cX6_warm 2 = .ok (.invokevirtual 72, 3) := by decide +kernel
theorem dX6_warm_5 : decode cX6_warm 5 = .ok (.aload_n 0, 1) := by decide +kernel
theorem dX6_warm_6 : decode cX6_warm 6 = .ok (.iload_n 1, 1) := by decide +kernel
theorem dX6_warm_7 : decode cX6_warm 7 = .ok (.iconst 0, 1) := by decide +kernel
theorem dX6_warm_8 : decode cX6_warm 8 = .ok (.invokevirtual 59, 3) := by decide +kernel
theorem dX6_warm_11 : decode cX6_warm 11 = .ok (.isub, 1) := by decide +kernel
theorem dX6_warm_12 : decode cX6_warm 12 = .ok (.istore_n 2, 1) := by decide +kernel
theorem dX6_warm_13 : decode cX6_warm 13 = .ok (.aload_n 0, 1) := by decide +kernel
theorem dX6_warm_14 : decode cX6_warm 14 = .ok (.iload_n 1, 1) := by decide +kernel
theorem dX6_warm_15 : decode cX6_warm 15 = .ok (.iconst 2, 1) := by decide +kernel
theorem dX6_warm_16 : decode cX6_warm 16 = .ok (.invokevirtual 59, 3) := by decide +kernel
theorem dX6_warm_19 : decode cX6_warm 19 = .ok (.aload_n 0, 1) := by decide +kernel
theorem dX6_warm_20 : decode cX6_warm 20 = .ok (.getfield 7, 3) := by decide +kernel
theorem dX6_warm_23 : decode cX6_warm 23 = .ok (.iconst 0, 1) := by decide +kernel
theorem dX6_warm_24 : decode cX6_warm 24 = .ok (.iaload, 1) := by decide +kernel
theorem dX6_warm_25 : decode cX6_warm 25 = .ok (.if_icmp .ge 7, 3) := by decide +kernel
theorem dX6_warm_28 : decode cX6_warm 28 = .ok (.iconst 0, 1) := by decide +kernel
theorem dX6_warm_29 : decode cX6_warm 29 = .ok (.goto 16, 3) := by decide +kernel
theorem dX6_warm_32 : decode cX6_warm 32 = .ok (.aload_n 0, 1) := by decide +kernel
theorem dX6_warm_33 : decode cX6_warm 33 = .ok (.iload_n 1, 1) := by decide +kernel
theorem dX6_warm_34 : decode cX6_warm 34 = .ok (.iconst 2, 1) := by decide +kernel
theorem dX6_warm_35 : decode cX6_warm 35 = .ok (.invokevirtual 59, 3) := by decide +kernel
theorem dX6_warm_38 : decode cX6_warm 38 = .ok (.aload_n 0, 1) := by decide +kernel
theorem dX6_warm_39 : decode cX6_warm 39 = .ok (.getfield 7, 3) := by decide +kernel
theorem dX6_warm_42 : decode cX6_warm 42 = .ok (.iconst 0, 1) := by decide +kernel
theorem dX6_warm_43 : decode cX6_warm 43 = .ok (.iaload, 1) := by decide +kernel
theorem dX6_warm_44 : decode cX6_warm 44 = .ok (.isub, 1) := by decide +kernel
theorem dX6_warm_45 : decode cX6_warm 45 = .ok (.istore_n 3, 1) := by decide +kernel
theorem dX6_warm_46 : decode cX6_warm 46 = .ok (.aload_n 0, 1) := by decide +kernel
theorem dX6_warm_47 : decode cX6_warm 47 = .ok (.iload_n 1, 1) := by decide +kernel
theorem dX6_warm_48 : decode cX6_warm 48 = .ok (.iconst 2, 1) := by decide +kernel
theorem dX6_warm_49 : decode cX6_warm 49 = .ok (.aload_n 0, 1) := by decide +kernel
theorem dX6_warm_50 : decode cX6_warm 50 = .ok (.iload_n 1, 1) := by decide +kernel
theorem dX6_warm_51 : decode cX6_warm 51 = .ok (.iconst 1, 1) := by decide +kernel
theorem dX6_warm_52 : decode cX6_warm 52 = .ok (.invokevirtual 59, 3) := by decide +kernel
theorem dX6_warm_55 : decode cX6_warm 55 = .ok (.iconst 1, 1) := by decide +kernel
theorem dX6_warm_56 : decode cX6_warm 56 = .ok (.if_icmp .ne 23, 3) := by decide +kernel
theorem dX6_warm_59 : decode cX6_warm 59 = .ok (.iload_n 2, 1) := by decide +kernel
theorem dX6_warm_60 : decode cX6_warm 60 = .ok (.ifCond .le 19, 3) := by decide +kernel
theorem dX6_warm_63 : decode cX6_warm 63 = .ok (.aload_n 0, 1) := by decide +kernel
theorem dX6_warm_64 : decode cX6_warm 64 = .ok (.iload_n 1, 1) := by decide +kernel
theorem dX6_warm_65 : decode cX6_warm 65 = .ok (.iconst 2, 1) := by decide +kernel
theorem dX6_warm_66 : decode cX6_warm 66 = .ok (.invokevirtual 59, 3) := by decide +kernel
theorem dX6_warm_69 : decode cX6_warm 69 = .ok (.iload_n 2, 1) := by decide +kernel
theorem dX6_warm_70 : decode cX6_warm 70 = .ok (.bipush 10, 2) := by decide +kernel
theorem dX6_warm_72 : decode cX6_warm 72 = .ok (.idiv, 1) := by decide +kernel
theorem dX6_warm_73 : decode cX6_warm 73 = .ok (.iadd, 1) := by decide +kernel
theorem dX6_warm_74 : decode cX6_warm 74 = .ok (.iconst 1, 1) := by decide +kernel
theorem dX6_warm_75 : decode cX6_warm 75 = .ok (.iadd, 1) := by decide +kernel
theorem dX6_warm_76 : decode cX6_warm 76 = .ok (.goto 4, 3) := by decide +kernel
theorem dX6_warm_79 : decode cX6_warm 79 = .ok (.iload_n 3, 1) := by decide +kernel
theorem dX6_warm_80 : decode cX6_warm 80 = .ok (.invokevirtual 32, 3) := by decide +kernel
theorem dX6_warm_83 : decode cX6_warm 83 = .ok (.aload_n 0, 1) := by decide +kernel
theorem dX6_warm_84 : decode cX6_warm 84 = .ok (.iload_n 1, 1) := by decide +kernel
theorem dX6_warm_85 : decode cX6_warm 85 = .ok (.iconst 4, 1) := by decide +kernel
theorem dX6_warm_86 : decode cX6_warm 86 = .ok (.aload_n 0, 1) := by decide +kernel
theorem dX6_warm_87 : decode cX6_warm 87 = .ok (.iload_n 1, 1) := by decide +kernel
theorem dX6_warm_88 : decode cX6_warm 88 = .ok (.iconst 4, 1) := by decide +kernel
theorem dX6_warm_89 : decode cX6_warm 89 = .ok (.invokevirtual 59, 3) := by decide +kernel
theorem dX6_warm_92 : decode cX6_warm 92 = .ok (.aload_n 0, 1) := by decide +kernel
theorem dX6_warm_93 : decode cX6_warm 93 = .ok (.iload_n 1, 1) := by decide +kernel
theorem dX6_warm_94 : decode cX6_warm 94 = .ok (.invokevirtual 72, 3) := by decide +kernel
theorem dX6_warm_97 : decode cX6_warm 97 = .ok (.iadd, 1) := by decide +kernel
theorem dX6_warm_98 : decode cX6_warm 98 = .ok (.invokevirtual 32, 3) := by decide +kernel
theorem dX6_warm_101 : decode cX6_warm 101 = .ok (.return_, 1) := by decide +kernel
theorem dX6_meter_0 : decode cX6_meter 0 = .ok (.aload_n 0, 1) := by decide +kernel
theorem dX6_meter_1 : decode cX6_meter 1 = .ok (.iload_n 1, 1) := by decide +kernel
theorem dX6_meter_2 : decode cX6_meter 2 = .ok (.invokevirtual 66, 3) := by decide +kernel
theorem dX6_meter_5 : decode cX6_meter 5 = .ok (.istore_n 2, 1) := by decide +kernel
theorem dX6_meter_6 : decode cX6_meter 6 = .ok (.aload_n 0, 1) := by decide +kernel
theorem dX6_meter_7 : decode cX6_meter 7 = .ok (.iload_n 1, 1) := by decide +kernel
theorem dX6_meter_8 : decode cX6_meter 8 = .ok (.bipush 6, 2) := by decide +kernel
theorem dX6_meter_10 : decode cX6_meter 10 = .ok (.aload_n 0, 1) := by decide +kernel
theorem dX6_meter_11 : decode cX6_meter 11 = .ok (.iload_n 1, 1) := by decide +kernel
theorem dX6_meter_12 : decode cX6_meter 12 = .ok (.bipush 6, 2) := by decide +kernel
theorem dX6_meter_14 : decode cX6_meter 14 = .ok (.invokevirtual 47, 3) := by decide +kernel
theorem dX6_meter_17 : decode cX6_meter 17 = .ok (.iload_n 2, 1) := by decide +kernel
theorem dX6_meter_18 : decode cX6_meter 18 = .ok (.ifCond .ne 12, 3) := by decide +kernel
theorem dX6_meter_21 : decode cX6_meter 21 = .ok (.aload_n 0, 1) := by decide +kernel
theorem dX6_meter_22 : decode cX6_meter 22 = .ok (.iload_n 1, 1) := by decide +kernel
theorem dX6_meter_23 : decode cX6_meter 23 = .ok (.iconst 0, 1) := by decide +kernel
theorem dX6_meter_24 : decode cX6_meter 24 = .ok (.invokevirtual 47, 3) := by decide +kernel
theorem dX6_meter_27 : decode cX6_meter 27 = .ok (.goto 4, 3) := by decide +kernel
theorem dX6_meter_30 : decode cX6_meter 30 = .ok (.iconst 0, 1) := by decide +kernel
theorem dX6_meter_31 : decode cX6_meter 31 = .ok (.iadd, 1) := by decide +kernel
theorem dX6_meter_32 : decode cX6_meter 32 = .ok (.invokevirtual 78, 3) := by decide +kernel
theorem dX6_meter_35 : decode cX6_meter 35 = .ok (.aload_n 0, 1) := by decide +kernel
theorem dX6_meter_36 : decode cX6_meter 36 = .ok (.iload_n 1, 1) := by decide +kernel
theorem dX6_meter_37 : decode cX6_meter 37 = .ok (.bipush 7, 2) := by decide +kernel
theorem dX6_meter_39 : decode cX6_meter 39 = .ok (.aload_n 0, 1) := by decide +kernel
theorem dX6_meter_40 : decode cX6_meter 40 = .ok (.iload_n 1, 1) := by decide +kernel
theorem dX6_meter_41 : decode cX6_meter 41 = .ok (.bipush 7, 2) := by decide +kernel
theorem dX6_meter_43 : decode cX6_meter 43 = .ok (.invokevirtual 47, 3) := by decide +kernel
theorem dX6_meter_46 : decode cX6_meter 46 = .ok (.iload_n 2, 1) := by decide +kernel
theorem dX6_meter_47 : decode cX6_meter 47 = .ok (.iconst 1, 1) := by decide +kernel
theorem dX6_meter_48 : decode cX6_meter 48 = .ok (.if_icmp .le 7, 3) := by decide +kernel
theorem dX6_meter_51 : decode cX6_meter 51 = .ok (.iconst 1, 1) := by decide +kernel
theorem dX6_meter_52 : decode cX6_meter 52 = .ok (.goto 4, 3) := by decide +kernel
theorem dX6_meter_55 : decode cX6_meter 55 = .ok (.iconst 0, 1) := by decide +kernel
theorem dX6_meter_56 : decode cX6_meter 56 = .ok (.iadd, 1) := by decide +kernel
theorem dX6_meter_57 : decode cX6_meter 57 = .ok (.invokevirtual 78, 3) := by decide +kernel
theorem dX6_meter_60 : decode cX6_meter 60 = .ok (.aload_n 0, 1) := by decide +kernel
theorem dX6_meter_61 : decode cX6_meter 61 = .ok (.getfield 7, 3) := by decide +kernel
theorem dX6_meter_64 : decode cX6_meter 64 = .ok (.bipush 6, 2) := by decide +kernel
theorem dX6_meter_66 : decode cX6_meter 66 = .ok (.dup2, 1) := by decide +kernel
theorem dX6_meter_67 : decode cX6_meter 67 = .ok (.iaload, 1) := by decide +kernel
theorem dX6_meter_68 : decode cX6_meter 68 = .ok (.iload_n 2, 1) := by decide +kernel
theorem dX6_meter_69 : decode cX6_meter 69 = .ok (.ifCond .ne 7, 3) := by decide +kernel
theorem dX6_meter_72 : decode cX6_meter 72 = .ok (.iconst 1, 1) := by decide +kernel
theorem dX6_meter_73 : decode cX6_meter 73 = .ok (.goto 4, 3) := by decide +kernel
theorem dX6_meter_76 : decode cX6_meter 76 = .ok (.iconst 0, 1) := by decide +kernel
theorem dX6_meter_77 : decode cX6_meter 77 = .ok (.iadd, 1) := by decide +kernel
theorem dX6_meter_78 : decode cX6_meter 78 = .ok (.iastore, 1) := by decide +kernel
theorem dX6_meter_79 : decode cX6_meter 79 = .ok (.return_, 1) := by decide +kernel
theorem dX6_hour_0 : decode cX6_hour 0 = .ok (.iconst 0, 1) := by decide +kernel
theorem dX6_hour_1 : decode cX6_hour 1 = .ok (.istore_n 1, 1) := by decide +kernel
theorem dX6_hour_2 : decode cX6_hour 2 = .ok (.iconst 0, 1) := by decide +kernel
theorem dX6_hour_3 : decode cX6_hour 3 = .ok (.istore_n 2, 1) := by decide +kernel
theorem dX6_hour_4 : decode cX6_hour 4 = .ok (.iload_n 2, 1) := by decide +kernel
theorem dX6_hour_5 : decode cX6_hour 5 = .ok (.iconst 4, 1) := by decide +kernel
theorem dX6_hour_6 : decode cX6_hour 6 = .ok (.if_icmp .ge 14, 3) := by decide +kernel
theorem dX6_hour_9 : decode cX6_hour 9 = .ok (.aload_n 0, 1) := by decide +kernel
theorem dX6_hour_10 : decode cX6_hour 10 = .ok (.iload_n 2, 1) := by decide +kernel
theorem dX6_hour_11 : decode cX6_hour 11 = .ok (.invokevirtual 81, 3) := by decide +kernel
theorem dX6_hour_14 : decode cX6_hour 14 = .ok (.iinc 2 1, 3) := by decide +kernel
theorem dX6_hour_17 : decode cX6_hour 17 = .ok (.goto (-13), 3) := by decide +kernel
theorem dX6_hour_20 : decode cX6_hour 20 = .ok (.iconst 0, 1) := by decide +kernel
theorem dX6_hour_21 : decode cX6_hour 21 = .ok (.istore_n 2, 1) := by decide +kernel
theorem dX6_hour_22 : decode cX6_hour 22 = .ok (.iload_n 2, 1) := by decide +kernel
theorem dX6_hour_23 : decode cX6_hour 23 = .ok (.iconst 4, 1) := by decide +kernel
theorem dX6_hour_24 : decode cX6_hour 24 = .ok (.if_icmp .ge 14, 3) := by decide +kernel
theorem dX6_hour_27 : decode cX6_hour 27 = .ok (.aload_n 0, 1) := by decide +kernel
theorem dX6_hour_28 : decode cX6_hour 28 = .ok (.iload_n 2, 1) := by decide +kernel
theorem dX6_hour_29 : decode cX6_hour 29 = .ok (.invokevirtual 85, 3) := by decide +kernel
theorem dX6_hour_32 : decode cX6_hour 32 = .ok (.iinc 2 1, 3) := by decide +kernel
theorem dX6_hour_35 : decode cX6_hour 35 = .ok (.goto (-13), 3) := by decide +kernel
theorem dX6_hour_38 : decode cX6_hour 38 = .ok (.iconst 0, 1) := by decide +kernel
theorem dX6_hour_39 : decode cX6_hour 39 = .ok (.istore_n 2, 1) := by decide +kernel
theorem dX6_hour_40 : decode cX6_hour 40 = .ok (.iload_n 2, 1) := by decide +kernel
theorem dX6_hour_41 : decode cX6_hour 41 = .ok (.aload_n 0, 1) := by decide +kernel
theorem dX6_hour_42 : decode cX6_hour 42 = .ok (.getfield 7, 3) := by decide +kernel
theorem dX6_hour_45 : decode cX6_hour 45 = .ok (.iconst 4, 1) := by decide +kernel
theorem dX6_hour_46 : decode cX6_hour 46 = .ok (.iaload, 1) := by decide +kernel
theorem dX6_hour_47 : decode cX6_hour 47 = .ok (.if_icmp .ge 14, 3) := by decide +kernel
theorem dX6_hour_50 : decode cX6_hour 50 = .ok (.aload_n 0, 1) := by decide +kernel
theorem dX6_hour_51 : decode cX6_hour 51 = .ok (.iload_n 2, 1) := by decide +kernel
theorem dX6_hour_52 : decode cX6_hour 52 = .ok (.invokevirtual 88, 3) := by decide +kernel
theorem dX6_hour_55 : decode cX6_hour 55 = .ok (.iinc 2 1, 3) := by decide +kernel
theorem dX6_hour_58 : decode cX6_hour 58 = .ok (.goto (-18), 3) := by decide +kernel
theorem dX6_hour_61 : decode cX6_hour 61 = .ok (.iconst 0, 1) := by decide +kernel
theorem dX6_hour_62 : decode cX6_hour 62 = .ok (.istore_n 2, 1) := by decide +kernel
theorem dX6_hour_63 : decode cX6_hour 63 = .ok (.iload_n 2, 1) := by decide +kernel
theorem dX6_hour_64 : decode cX6_hour 64 = .ok (.iconst 4, 1) := by decide +kernel
theorem dX6_hour_65 : decode cX6_hour 65 = .ok (.if_icmp .ge 54, 3) := by decide +kernel
theorem dX6_hour_68 : decode cX6_hour 68 = .ok (.aload_n 0, 1) := by decide +kernel
theorem dX6_hour_69 : decode cX6_hour 69 = .ok (.iload_n 2, 1) := by decide +kernel
theorem dX6_hour_70 : decode cX6_hour 70 = .ok (.iconst 1, 1) := by decide +kernel
theorem dX6_hour_71 : decode cX6_hour 71 = .ok (.invokevirtual 59, 3) := by decide +kernel
theorem dX6_hour_74 : decode cX6_hour 74 = .ok (.iconst 1, 1) := by decide +kernel
theorem dX6_hour_75 : decode cX6_hour 75 = .ok (.if_icmp .ne 38, 3) := by decide +kernel
theorem dX6_hour_78 : decode cX6_hour 78 = .ok (.aload_n 0, 1) := by decide +kernel
theorem dX6_hour_79 : decode cX6_hour 79 = .ok (.iload_n 2, 1) := by decide +kernel
theorem dX6_hour_80 : decode cX6_hour 80 = .ok (.iconst 2, 1) := by decide +kernel
theorem dX6_hour_81 : decode cX6_hour 81 = .ok (.invokevirtual 59, 3) := by decide +kernel
theorem dX6_hour_84 : decode cX6_hour 84 = .ok (.bipush 9, 2) := by decide +kernel
theorem dX6_hour_86 : decode cX6_hour 86 = .ok (.if_icmp .le 27, 3) := by decide +kernel
theorem dX6_hour_89 : decode cX6_hour 89 = .ok (.aload_n 0, 1) := by decide +kernel
theorem dX6_hour_90 : decode cX6_hour 90 = .ok (.iload_n 2, 1) := by decide +kernel
theorem dX6_hour_91 : decode cX6_hour 91 = .ok (.iconst 1, 1) := by decide +kernel
theorem dX6_hour_92 : decode cX6_hour 92 = .ok (.iconst 0, 1) := by decide +kernel
theorem dX6_hour_93 : decode cX6_hour 93 = .ok (.invokevirtual 32, 3) := by decide +kernel
theorem dX6_hour_96 : decode cX6_hour 96 = .ok (.aload_n 0, 1) := by decide +kernel
theorem dX6_hour_97 : decode cX6_hour 97 = .ok (.iload_n 2, 1) := by decide +kernel
theorem dX6_hour_98 : decode cX6_hour 98 = .ok (.iconst 3, 1) := by decide +kernel
theorem dX6_hour_99 : decode cX6_hour 99 = .ok (.aload_n 0, 1) := by decide +kernel
theorem dX6_hour_100 : decode cX6_hour 100 = .ok (.iload_n 2, 1) := by decide +kernel
theorem dX6_hour_101 : decode cX6_hour 101 = .ok (.iconst 3, 1) := by decide +kernel
theorem dX6_hour_102 : decode cX6_hour 102 = .ok (.invokevirtual 59, 3) := by decide +kernel
theorem dX6_hour_105 : decode cX6_hour 105 = .ok (.iconst 1, 1) := by decide +kernel
theorem dX6_hour_106 : decode cX6_hour 106 = .ok (.iadd, 1) := by decide +kernel
theorem dX6_hour_107 : decode cX6_hour 107 = .ok (.invokevirtual 32, 3) := by decide +kernel
theorem dX6_hour_110 : decode cX6_hour 110 = .ok (.iinc 1 1, 3) := by decide +kernel
theorem dX6_hour_113 : decode cX6_hour 113 = .ok (.iinc 2 1, 3) := by decide +kernel
theorem dX6_hour_116 : decode cX6_hour 116 = .ok (.goto (-53), 3) := by decide +kernel
theorem dX6_hour_119 : decode cX6_hour 119 = .ok (.aload_n 0, 1) := by decide +kernel
theorem dX6_hour_120 : decode cX6_hour 120 = .ok (.getfield 7, 3) := by decide +kernel
theorem dX6_hour_123 : decode cX6_hour 123 = .ok (.iconst 3, 1) := by decide +kernel
theorem dX6_hour_124 : decode cX6_hour 124 = .ok (.dup2, 1) := by decide +kernel
theorem dX6_hour_125 : decode cX6_hour 125 = .ok (.iaload, 1) := by decide +kernel
theorem dX6_hour_126 : decode cX6_hour 126 = .ok (.iconst 1, 1) := by decide +kernel
theorem dX6_hour_127 : decode cX6_hour 127 = .ok (.iadd, 1) := by decide +kernel
theorem dX6_hour_128 : decode cX6_hour 128 = .ok (.iastore, 1) := by decide +kernel
theorem dX6_hour_129 : decode cX6_hour 129 = .ok (.iload_n 1, 1) := by decide +kernel
theorem dX6_hour_130 : decode cX6_hour 130 = .ok (.ireturn, 1) := by decide +kernel
theorem dX6_hours_0 : decode cX6_hours 0 = .ok (.iconst 0, 1) := by decide +kernel
theorem dX6_hours_1 : decode cX6_hours 1 = .ok (.istore_n 2, 1) := by decide +kernel
theorem dX6_hours_2 : decode cX6_hours 2 = .ok (.iconst 0, 1) := by decide +kernel
theorem dX6_hours_3 : decode cX6_hours 3 = .ok (.istore_n 3, 1) := by decide +kernel
theorem dX6_hours_4 : decode cX6_hours 4 = .ok (.iload_n 3, 1) := by decide +kernel
theorem dX6_hours_5 : decode cX6_hours 5 = .ok (.iload_n 1, 1) := by decide +kernel
theorem dX6_hours_6 : decode cX6_hours 6 = .ok (.if_icmp .ge 16, 3) := by decide +kernel
theorem dX6_hours_9 : decode cX6_hours 9 = .ok (.iload_n 2, 1) := by decide +kernel
theorem dX6_hours_10 : decode cX6_hours 10 = .ok (.aload_n 0, 1) := by decide +kernel
theorem dX6_hours_11 : decode cX6_hours 11 = .ok (.invokevirtual 91, 3) := by decide +kernel
theorem dX6_hours_14 : decode cX6_hours 14 = .ok (.iadd, 1) := by decide +kernel
theorem dX6_hours_15 : decode cX6_hours 15 = .ok (.istore_n 2, 1) := by decide +kernel
theorem dX6_hours_16 : decode cX6_hours 16 = .ok (.iinc 3 1, 3) := by decide +kernel
theorem dX6_hours_19 : decode cX6_hours 19 = .ok (.goto (-15), 3) := by decide +kernel
theorem dX6_hours_22 : decode cX6_hours 22 = .ok (.iload_n 2, 1) := by decide +kernel
theorem dX6_hours_23 : decode cX6_hours 23 = .ok (.ireturn, 1) := by decide +kernel
theorem dX6_stallComes_0 : decode cX6_stallComes 0 = .ok (.aload_n 0, 1) := by decide +kernel
theorem dX6_stallComes_1 : decode cX6_stallComes 1 = .ok (.getfield 7, 3) := by decide +kernel
theorem dX6_stallComes_4 : decode cX6_stallComes 4 = .ok (.iconst 4, 1) := by decide +kernel
theorem dX6_stallComes_5 : decode cX6_stallComes 5 = .ok (.iaload, 1) := by decide +kernel
theorem dX6_stallComes_6 : decode cX6_stallComes 6 = .ok (.istore 5, 2) := by decide +kernel
theorem dX6_stallComes_8 : decode cX6_stallComes 8 = .ok (.aload_n 0, 1) := by decide +kernel
theorem dX6_stallComes_9 : decode cX6_stallComes 9 = .ok (.iload 5, 2) := by decide +kernel
theorem dX6_stallComes_11 : decode cX6_stallComes 11 = .ok (.iconst 0, 1) := by decide +kernel
theorem dX6_stallComes_12 : decode cX6_stallComes 12 = .ok (.iload_n 1, 1) := by decide +kernel
theorem dX6_stallComes_13 : decode cX6_stallComes 13 = .ok (.invokevirtual 78, 3) := by decide +kernel
theorem dX6_stallComes_16 : decode cX6_stallComes 16 = .ok (.aload_n 0, 1) := by decide +kernel
theorem dX6_stallComes_17 : decode cX6_stallComes 17 = .ok (.iload 5, 2) := by decide +kernel
theorem dX6_stallComes_19 : decode cX6_stallComes 19 = .ok (.iconst 1, 1) := by decide +kernel
theorem dX6_stallComes_20 : decode cX6_stallComes 20 = .ok (.iload_n 2, 1) := by decide +kernel
theorem dX6_stallComes_21 : decode cX6_stallComes 21 = .ok (.invokevirtual 78, 3) := by decide +kernel
theorem dX6_stallComes_24 : decode cX6_stallComes 24 = .ok (.aload_n 0, 1) := by decide +kernel
theorem dX6_stallComes_25 : decode cX6_stallComes 25 = .ok (.iload 5, 2) := by decide +kernel
theorem dX6_stallComes_27 : decode cX6_stallComes 27 = .ok (.iconst 2, 1) := by decide +kernel
theorem dX6_stallComes_28 : decode cX6_stallComes 28 = .ok (.iload_n 3, 1) := by decide +kernel
theorem dX6_stallComes_29 : decode cX6_stallComes 29 = .ok (.invokevirtual 78, 3) := by decide +kernel
theorem dX6_stallComes_32 : decode cX6_stallComes 32 = .ok (.aload_n 0, 1) := by decide +kernel
theorem dX6_stallComes_33 : decode cX6_stallComes 33 = .ok (.iload 5, 2) := by decide +kernel
theorem dX6_stallComes_35 : decode cX6_stallComes 35 = .ok (.iconst 3, 1) := by decide +kernel
theorem dX6_stallComes_36 : decode cX6_stallComes 36 = .ok (.iload 4, 2) := by decide +kernel
theorem dX6_stallComes_38 : decode cX6_stallComes 38 = .ok (.invokevirtual 78, 3) := by decide +kernel
theorem dX6_stallComes_41 : decode cX6_stallComes 41 = .ok (.aload_n 0, 1) := by decide +kernel
theorem dX6_stallComes_42 : decode cX6_stallComes 42 = .ok (.iload 5, 2) := by decide +kernel
theorem dX6_stallComes_44 : decode cX6_stallComes 44 = .ok (.iconst 4, 1) := by decide +kernel
theorem dX6_stallComes_45 : decode cX6_stallComes 45 = .ok (.iconst (-1), 1) := by decide +kernel
theorem dX6_stallComes_46 : decode cX6_stallComes 46 = .ok (.invokevirtual 78, 3) := by decide +kernel
theorem dX6_stallComes_49 : decode cX6_stallComes 49 = .ok (.aload_n 0, 1) := by decide +kernel
theorem dX6_stallComes_50 : decode cX6_stallComes 50 = .ok (.iload 5, 2) := by decide +kernel
theorem dX6_stallComes_52 : decode cX6_stallComes 52 = .ok (.iconst 5, 1) := by decide +kernel
theorem dX6_stallComes_53 : decode cX6_stallComes 53 = .ok (.iconst 0, 1) := by decide +kernel
theorem dX6_stallComes_54 : decode cX6_stallComes 54 = .ok (.invokevirtual 78, 3) := by decide +kernel
theorem dX6_stallComes_57 : decode cX6_stallComes 57 = .ok (.aload_n 0, 1) := by decide +kernel
theorem dX6_stallComes_58 : decode cX6_stallComes 58 = .ok (.iload 5, 2) := by decide +kernel
theorem dX6_stallComes_60 : decode cX6_stallComes 60 = .ok (.bipush 6, 2) := by decide +kernel
theorem dX6_stallComes_62 : decode cX6_stallComes 62 = .ok (.iconst 0, 1) := by decide +kernel
theorem dX6_stallComes_63 : decode cX6_stallComes 63 = .ok (.invokevirtual 78, 3) := by decide +kernel
theorem dX6_stallComes_66 : decode cX6_stallComes 66 = .ok (.aload_n 0, 1) := by decide +kernel
theorem dX6_stallComes_67 : decode cX6_stallComes 67 = .ok (.iload 5, 2) := by decide +kernel
theorem dX6_stallComes_69 : decode cX6_stallComes 69 = .ok (.bipush 7, 2) := by decide +kernel
theorem dX6_stallComes_71 : decode cX6_stallComes 71 = .ok (.iconst 0, 1) := by decide +kernel
theorem dX6_stallComes_72 : decode cX6_stallComes 72 = .ok (.invokevirtual 78, 3) := by decide +kernel
theorem dX6_stallComes_75 : decode cX6_stallComes 75 = .ok (.aload_n 0, 1) := by decide +kernel
theorem dX6_stallComes_76 : decode cX6_stallComes 76 = .ok (.getfield 7, 3) := by decide +kernel
theorem dX6_stallComes_79 : decode cX6_stallComes 79 = .ok (.iconst 4, 1) := by decide +kernel
theorem dX6_stallComes_80 : decode cX6_stallComes 80 = .ok (.dup2, 1) := by decide +kernel
theorem dX6_stallComes_81 : decode cX6_stallComes 81 = .ok (.iaload, 1) := by decide +kernel
theorem dX6_stallComes_82 : decode cX6_stallComes 82 = .ok (.iconst 1, 1) := by decide +kernel
theorem dX6_stallComes_83 : decode cX6_stallComes 83 = .ok (.iadd, 1) := by decide +kernel
theorem dX6_stallComes_84 : decode cX6_stallComes 84 = .ok (.iastore, 1) := by decide +kernel
theorem dX6_stallComes_85 : decode cX6_stallComes 85 = .ok (.iload 5, 2) := by decide +kernel
theorem dX6_stallComes_87 : decode cX6_stallComes 87 = .ok (.ireturn, 1) := by decide +kernel
theorem dX6_stall_0 : decode cX6_stall 0 = .ok (.iload_n 1, 1) := by decide +kernel
theorem dX6_stall_1 : decode cX6_stall 1 = .ok (.iconst 1, 1) := by decide +kernel
theorem dX6_stall_2 : decode cX6_stall 2 = .ok (.sipush 500, 3) := by decide +kernel
theorem dX6_stall_5 : decode cX6_stall 5 = .ok (.invokestatic 40, 3) := by decide +kernel
theorem dX6_stall_8 : decode cX6_stall 8 = .ok (.ifCond .eq 38, 3) := by decide +kernel
theorem dX6_stall_11 : decode cX6_stall 11 = .ok (.iload_n 2, 1) := by decide +kernel
theorem dX6_stall_12 : decode cX6_stall 12 = .ok (.iconst 0, 1) := by decide +kernel
theorem dX6_stall_13 : decode cX6_stall 13 = .ok (.bipush 23, 2) := by decide +kernel
theorem dX6_stall_15 : decode cX6_stall 15 = .ok (.invokestatic 40, 3) := by decide +kernel
theorem dX6_stall_18 : decode cX6_stall 18 = .ok (.ifCond .eq 28, 3) := by decide +kernel
theorem dX6_stall_21 : decode cX6_stall 21 = .ok (.iload_n 3, 1) := by decide +kernel
theorem dX6_stall_22 : decode cX6_stall 22 = .ok (.iconst 0, 1) := by decide +kernel
theorem dX6_stall_23 : decode cX6_stall 23 = .ok (.bipush 23, 2) := by decide +kernel
theorem dX6_stall_25 : decode cX6_stall 25 = .ok (.invokestatic 40, 3) := by decide +kernel
theorem dX6_stall_28 : decode cX6_stall 28 = .ok (.ifCond .eq 18, 3) := by decide +kernel
theorem dX6_stall_31 : decode cX6_stall 31 = .ok (.iload 4, 2) := by decide +kernel
theorem dX6_stall_33 : decode cX6_stall 33 = .ok (.iconst 1, 1) := by decide +kernel
theorem dX6_stall_34 : decode cX6_stall 34 = .ok (.bipush 9, 2) := by decide +kernel
theorem dX6_stall_36 : decode cX6_stall 36 = .ok (.invokestatic 40, 3) := by decide +kernel
theorem dX6_stall_39 : decode cX6_stall 39 = .ok (.ifCond .eq 7, 3) := by decide +kernel
theorem dX6_stall_42 : decode cX6_stall 42 = .ok (.iconst 1, 1) := by decide +kernel
theorem dX6_stall_43 : decode cX6_stall 43 = .ok (.goto 4, 3) := by decide +kernel
theorem dX6_stall_46 : decode cX6_stall 46 = .ok (.iconst 0, 1) := by decide +kernel
theorem dX6_stall_47 : decode cX6_stall 47 = .ok (.istore 5, 2) := by decide +kernel
theorem dX6_stall_49 : decode cX6_stall 49 = .ok (.aload_n 0, 1) := by decide +kernel
theorem dX6_stall_50 : decode cX6_stall 50 = .ok (.iload 5, 2) := by decide +kernel
theorem dX6_stall_52 : decode cX6_stall 52 = .ok (.ifCond .ne 7, 3) := by decide +kernel
theorem dX6_stall_55 : decode cX6_stall 55 = .ok (.iconst 1, 1) := by decide +kernel
theorem dX6_stall_56 : decode cX6_stall 56 = .ok (.goto 19, 3) := by decide +kernel
theorem dX6_stall_59 : decode cX6_stall 59 = .ok (.aload_n 0, 1) := by decide +kernel
theorem dX6_stall_60 : decode cX6_stall 60 = .ok (.getfield 7, 3) := by decide +kernel
theorem dX6_stall_63 : decode cX6_stall 63 = .ok (.iconst 4, 1) := by decide +kernel
theorem dX6_stall_64 : decode cX6_stall 64 = .ok (.iaload, 1) := by decide +kernel
theorem dX6_stall_65 : decode cX6_stall 65 = .ok (.bipush 10, 2) := by decide +kernel
theorem dX6_stall_67 : decode cX6_stall 67 = .ok (.if_icmp .ne 7, 3) := by decide +kernel
theorem dX6_stall_70 : decode cX6_stall 70 = .ok (.iconst 2, 1) := by decide +kernel
theorem dX6_stall_71 : decode cX6_stall 71 = .ok (.goto 4, 3) := by decide +kernel
theorem dX6_stall_74 : decode cX6_stall 74 = .ok (.iconst 0, 1) := by decide +kernel
theorem dX6_stall_75 : decode cX6_stall 75 = .ok (.putfield 36, 3) := by decide +kernel
theorem dX6_stall_78 : decode cX6_stall 78 = .ok (.aload_n 0, 1) := by decide +kernel
theorem dX6_stall_79 : decode cX6_stall 79 = .ok (.getfield 36, 3) := by decide +kernel
theorem dX6_stall_82 : decode cX6_stall 82 = .ok (.ifCond .le 5, 3) := by decide +kernel
theorem dX6_stall_85 : decode cX6_stall 85 = .ok (.iconst 0, 1) := by decide +kernel
theorem dX6_stall_86 : decode cX6_stall 86 = .ok (.ireturn, 1) := by decide +kernel
theorem dX6_stall_87 : decode cX6_stall 87 = .ok (.aload_n 0, 1) := by decide +kernel
theorem dX6_stall_88 : decode cX6_stall 88 = .ok (.invokevirtual 95, 3) := by decide +kernel
theorem dX6_stall_91 : decode cX6_stall 91 = .ok (.aload_n 0, 1) := by decide +kernel
theorem dX6_stall_92 : decode cX6_stall 92 = .ok (.iload_n 1, 1) := by decide +kernel
theorem dX6_stall_93 : decode cX6_stall 93 = .ok (.iload_n 2, 1) := by decide +kernel
theorem dX6_stall_94 : decode cX6_stall 94 = .ok (.iload_n 3, 1) := by decide +kernel
theorem dX6_stall_95 : decode cX6_stall 95 = .ok (.iload 4, 2) := by decide +kernel
theorem dX6_stall_97 : decode cX6_stall 97 = .ok (.invokevirtual 98, 3) := by decide +kernel
theorem dX6_stall_100 : decode cX6_stall 100 = .ok (.ireturn, 1) := by decide +kernel
theorem dX6_stallAt_0 : decode cX6_stallAt 0 = .ok (.iconst (-1), 1) := by decide +kernel
theorem dX6_stallAt_1 : decode cX6_stallAt 1 = .ok (.istore_n 2, 1) := by decide +kernel
theorem dX6_stallAt_2 : decode cX6_stallAt 2 = .ok (.iconst 0, 1) := by decide +kernel
theorem dX6_stallAt_3 : decode cX6_stallAt 3 = .ok (.istore_n 3, 1) := by decide +kernel
theorem dX6_stallAt_4 : decode cX6_stallAt 4 = .ok (.iload_n 3, 1) := by decide +kernel
theorem dX6_stallAt_5 : decode cX6_stallAt 5 = .ok (.aload_n 0, 1) := by decide +kernel
theorem dX6_stallAt_6 : decode cX6_stallAt 6 = .ok (.getfield 7, 3) := by decide +kernel
theorem dX6_stallAt_9 : decode cX6_stallAt 9 = .ok (.iconst 4, 1) := by decide +kernel
theorem dX6_stallAt_10 : decode cX6_stallAt 10 = .ok (.iaload, 1) := by decide +kernel
theorem dX6_stallAt_11 : decode cX6_stallAt 11 = .ok (.if_icmp .ge 25, 3) := by decide +kernel
theorem dX6_stallAt_14 : decode cX6_stallAt 14 = .ok (.aload_n 0, 1) := by decide +kernel
theorem dX6_stallAt_15 : decode cX6_stallAt 15 = .ok (.iload_n 3, 1) := by decide +kernel
theorem dX6_stallAt_16 : decode cX6_stallAt 16 = .ok (.iconst 4, 1) := by decide +kernel
theorem dX6_stallAt_17 : decode cX6_stallAt 17 = .ok (.invokevirtual 47, 3) := by decide +kernel
theorem dX6_stallAt_20 : decode cX6_stallAt 20 = .ok (.iload_n 1, 1) := by decide +kernel
theorem dX6_stallAt_21 : decode cX6_stallAt 21 = .ok (.if_icmp .ne 7, 3) := by decide +kernel
theorem dX6_stallAt_24 : decode cX6_stallAt 24 = .ok (.iload_n 3, 1) := by decide +kernel
theorem dX6_stallAt_25 : decode cX6_stallAt 25 = .ok (.goto 4, 3) := by decide +kernel
theorem dX6_stallAt_28 : decode cX6_stallAt 28 = .ok (.iload_n 2, 1) := by decide +kernel
theorem dX6_stallAt_29 : decode cX6_stallAt 29 = .ok (.istore_n 2, 1) := by decide +kernel
theorem dX6_stallAt_30 : decode cX6_stallAt 30 = .ok (.iinc 3 1, 3) := by decide +kernel
theorem dX6_stallAt_33 : decode cX6_stallAt 33 = .ok (.goto (-29), 3) := by decide +kernel
theorem dX6_stallAt_36 : decode cX6_stallAt 36 = .ok (.iload_n 2, 1) := by decide +kernel
theorem dX6_stallAt_37 : decode cX6_stallAt 37 = .ok (.ireturn, 1) := by decide +kernel
theorem dX6_whyNotPlug_0 : decode cX6_whyNotPlug 0 = .ok (.aload_n 0, 1) := by decide +kernel
theorem dX6_whyNotPlug_1 : decode cX6_whyNotPlug 1 = .ok (.iload_n 1, 1) := by decide +kernel
theorem dX6_whyNotPlug_2 : decode cX6_whyNotPlug 2 = .ok (.invokevirtual 102, 3) := by decide +kernel
theorem dX6_whyNotPlug_5 : decode cX6_whyNotPlug 5 = .ok (.ifCond .ne 5, 3) := by decide +kernel
theorem dX6_whyNotPlug_8 : decode cX6_whyNotPlug 8 = .ok (.iconst 1, 1) := by decide +kernel
theorem dX6_whyNotPlug_9 : decode cX6_whyNotPlug 9 = .ok (.ireturn, 1) := by decide +kernel
theorem dX6_whyNotPlug_10 : decode cX6_whyNotPlug 10 = .ok (.iload_n 2, 1) := by decide +kernel
theorem dX6_whyNotPlug_11 : decode cX6_whyNotPlug 11 = .ok (.invokestatic 105, 3) := by decide +kernel
theorem dX6_whyNotPlug_14 : decode cX6_whyNotPlug 14 = .ok (.ifCond .ne 7, 3) := by decide +kernel
theorem dX6_whyNotPlug_17 : decode cX6_whyNotPlug 17 = .ok (.iconst 2, 1) := by decide +kernel
theorem dX6_whyNotPlug_18 : decode cX6_whyNotPlug 18 = .ok (.goto 17, 3) := by decide +kernel
theorem dX6_whyNotPlug_21 : decode cX6_whyNotPlug 21 = .ok (.aload_n 0, 1) := by decide +kernel
theorem dX6_whyNotPlug_22 : decode cX6_whyNotPlug 22 = .ok (.iload_n 2, 1) := by decide +kernel
theorem dX6_whyNotPlug_23 : decode cX6_whyNotPlug 23 = .ok (.invokevirtual 108, 3) := by decide +kernel
theorem dX6_whyNotPlug_26 : decode cX6_whyNotPlug 26 = .ok (.iconst (-1), 1) := by decide +kernel
theorem dX6_whyNotPlug_27 : decode cX6_whyNotPlug 27 = .ok (.if_icmp .eq 7, 3) := by decide +kernel
theorem dX6_whyNotPlug_30 : decode cX6_whyNotPlug 30 = .ok (.iconst 3, 1) := by decide +kernel
theorem dX6_whyNotPlug_31 : decode cX6_whyNotPlug 31 = .ok (.goto 4, 3) := by decide +kernel
theorem dX6_whyNotPlug_34 : decode cX6_whyNotPlug 34 = .ok (.iconst 0, 1) := by decide +kernel
theorem dX6_whyNotPlug_35 : decode cX6_whyNotPlug 35 = .ok (.ireturn, 1) := by decide +kernel
theorem dX6_plug_0 : decode cX6_plug 0 = .ok (.aload_n 0, 1) := by decide +kernel
theorem dX6_plug_1 : decode cX6_plug 1 = .ok (.aload_n 0, 1) := by decide +kernel
theorem dX6_plug_2 : decode cX6_plug 2 = .ok (.iload_n 1, 1) := by decide +kernel
theorem dX6_plug_3 : decode cX6_plug 3 = .ok (.iload_n 2, 1) := by decide +kernel
theorem dX6_plug_4 : decode cX6_plug 4 = .ok (.invokevirtual 111, 3) := by decide +kernel
theorem dX6_plug_7 : decode cX6_plug 7 = .ok (.putfield 36, 3) := by decide +kernel
theorem dX6_plug_10 : decode cX6_plug 10 = .ok (.aload_n 0, 1) := by decide +kernel
theorem dX6_plug_11 : decode cX6_plug 11 = .ok (.getfield 36, 3) := by decide +kernel
theorem dX6_plug_14 : decode cX6_plug 14 = .ok (.ifCond .le 5, 3) := by decide +kernel
theorem dX6_plug_17 : decode cX6_plug 17 = .ok (.iconst 0, 1) := by decide +kernel
theorem dX6_plug_18 : decode cX6_plug 18 = .ok (.ireturn, 1) := by decide +kernel
theorem dX6_plug_19 : decode cX6_plug 19 = .ok (.aload_n 0, 1) := by decide +kernel
theorem dX6_plug_20 : decode cX6_plug 20 = .ok (.invokevirtual 95, 3) := by decide +kernel
theorem dX6_plug_23 : decode cX6_plug 23 = .ok (.aload_n 0, 1) := by decide +kernel
theorem dX6_plug_24 : decode cX6_plug 24 = .ok (.iload_n 1, 1) := by decide +kernel
theorem dX6_plug_25 : decode cX6_plug 25 = .ok (.iconst 4, 1) := by decide +kernel
theorem dX6_plug_26 : decode cX6_plug 26 = .ok (.invokevirtual 47, 3) := by decide +kernel
theorem dX6_plug_29 : decode cX6_plug 29 = .ok (.istore_n 3, 1) := by decide +kernel
theorem dX6_plug_30 : decode cX6_plug 30 = .ok (.aload_n 0, 1) := by decide +kernel
theorem dX6_plug_31 : decode cX6_plug 31 = .ok (.iload_n 1, 1) := by decide +kernel
theorem dX6_plug_32 : decode cX6_plug 32 = .ok (.iconst 4, 1) := by decide +kernel
theorem dX6_plug_33 : decode cX6_plug 33 = .ok (.iload_n 2, 1) := by decide +kernel
theorem dX6_plug_34 : decode cX6_plug 34 = .ok (.invokevirtual 78, 3) := by decide +kernel
theorem dX6_plug_37 : decode cX6_plug 37 = .ok (.iload_n 3, 1) := by decide +kernel
theorem dX6_plug_38 : decode cX6_plug 38 = .ok (.ireturn, 1) := by decide +kernel
theorem dX6_pull_0 : decode cX6_pull 0 = .ok (.aload_n 0, 1) := by decide +kernel
theorem dX6_pull_1 : decode cX6_pull 1 = .ok (.iload_n 1, 1) := by decide +kernel
theorem dX6_pull_2 : decode cX6_pull 2 = .ok (.invokevirtual 102, 3) := by decide +kernel
theorem dX6_pull_5 : decode cX6_pull 5 = .ok (.ifCond .ne 10, 3) := by decide +kernel
theorem dX6_pull_8 : decode cX6_pull 8 = .ok (.aload_n 0, 1) := by decide +kernel
theorem dX6_pull_9 : decode cX6_pull 9 = .ok (.iconst 1, 1) := by decide +kernel
theorem dX6_pull_10 : decode cX6_pull 10 = .ok (.putfield 36, 3) := by decide +kernel
theorem dX6_pull_13 : decode cX6_pull 13 = .ok (.iconst 0, 1) := by decide +kernel
theorem dX6_pull_14 : decode cX6_pull 14 = .ok (.ireturn, 1) := by decide +kernel
theorem dX6_pull_15 : decode cX6_pull 15 = .ok (.aload_n 0, 1) := by decide +kernel
theorem dX6_pull_16 : decode cX6_pull 16 = .ok (.aload_n 0, 1) := by decide +kernel
theorem dX6_pull_17 : decode cX6_pull 17 = .ok (.iload_n 1, 1) := by decide +kernel
theorem dX6_pull_18 : decode cX6_pull 18 = .ok (.iconst 4, 1) := by decide +kernel
theorem dX6_pull_19 : decode cX6_pull 19 = .ok (.invokevirtual 47, 3) := by decide +kernel
theorem dX6_pull_22 : decode cX6_pull 22 = .ok (.iconst (-1), 1) := by decide +kernel
theorem dX6_pull_23 : decode cX6_pull 23 = .ok (.if_icmp .ne 7, 3) := by decide +kernel
theorem dX6_pull_26 : decode cX6_pull 26 = .ok (.iconst 2, 1) := by decide +kernel
theorem dX6_pull_27 : decode cX6_pull 27 = .ok (.goto 4, 3) := by decide +kernel
theorem dX6_pull_30 : decode cX6_pull 30 = .ok (.iconst 0, 1) := by decide +kernel
theorem dX6_pull_31 : decode cX6_pull 31 = .ok (.putfield 36, 3) := by decide +kernel
theorem dX6_pull_34 : decode cX6_pull 34 = .ok (.aload_n 0, 1) := by decide +kernel
theorem dX6_pull_35 : decode cX6_pull 35 = .ok (.getfield 36, 3) := by decide +kernel
theorem dX6_pull_38 : decode cX6_pull 38 = .ok (.ifCond .le 5, 3) := by decide +kernel
theorem dX6_pull_41 : decode cX6_pull 41 = .ok (.iconst 0, 1) := by decide +kernel
theorem dX6_pull_42 : decode cX6_pull 42 = .ok (.ireturn, 1) := by decide +kernel
theorem dX6_pull_43 : decode cX6_pull 43 = .ok (.aload_n 0, 1) := by decide +kernel
theorem dX6_pull_44 : decode cX6_pull 44 = .ok (.invokevirtual 95, 3) := by decide +kernel
theorem dX6_pull_47 : decode cX6_pull 47 = .ok (.aload_n 0, 1) := by decide +kernel
theorem dX6_pull_48 : decode cX6_pull 48 = .ok (.iload_n 1, 1) := by decide +kernel
theorem dX6_pull_49 : decode cX6_pull 49 = .ok (.iconst 4, 1) := by decide +kernel
theorem dX6_pull_50 : decode cX6_pull 50 = .ok (.invokevirtual 47, 3) := by decide +kernel
theorem dX6_pull_53 : decode cX6_pull 53 = .ok (.istore_n 2, 1) := by decide +kernel
theorem dX6_pull_54 : decode cX6_pull 54 = .ok (.aload_n 0, 1) := by decide +kernel
theorem dX6_pull_55 : decode cX6_pull 55 = .ok (.iload_n 1, 1) := by decide +kernel
theorem dX6_pull_56 : decode cX6_pull 56 = .ok (.iconst 4, 1) := by decide +kernel
theorem dX6_pull_57 : decode cX6_pull 57 = .ok (.iconst (-1), 1) := by decide +kernel
theorem dX6_pull_58 : decode cX6_pull 58 = .ok (.invokevirtual 78, 3) := by decide +kernel
theorem dX6_pull_61 : decode cX6_pull 61 = .ok (.iload_n 2, 1) := by decide +kernel
theorem dX6_pull_62 : decode cX6_pull 62 = .ok (.ireturn, 1) := by decide +kernel
theorem dX6_shed_0 : decode cX6_shed 0 = .ok (.aload_n 0, 1) := by decide +kernel
theorem dX6_shed_1 : decode cX6_shed 1 = .ok (.aload_n 0, 1) := by decide +kernel
theorem dX6_shed_2 : decode cX6_shed 2 = .ok (.iload_n 1, 1) := by decide +kernel
theorem dX6_shed_3 : decode cX6_shed 3 = .ok (.invokevirtual 102, 3) := by decide +kernel
theorem dX6_shed_6 : decode cX6_shed 6 = .ok (.ifCond .eq 7, 3) := by decide +kernel
theorem dX6_shed_9 : decode cX6_shed 9 = .ok (.iconst 0, 1) := by decide +kernel
theorem dX6_shed_10 : decode cX6_shed 10 = .ok (.goto 4, 3) := by decide +kernel
theorem dX6_shed_13 : decode cX6_shed 13 = .ok (.iconst 1, 1) := by decide +kernel
theorem dX6_shed_14 : decode cX6_shed 14 = .ok (.putfield 36, 3) := by decide +kernel
theorem dX6_shed_17 : decode cX6_shed 17 = .ok (.aload_n 0, 1) := by decide +kernel
theorem dX6_shed_18 : decode cX6_shed 18 = .ok (.getfield 36, 3) := by decide +kernel
theorem dX6_shed_21 : decode cX6_shed 21 = .ok (.ifCond .le 5, 3) := by decide +kernel
theorem dX6_shed_24 : decode cX6_shed 24 = .ok (.iconst 0, 1) := by decide +kernel
theorem dX6_shed_25 : decode cX6_shed 25 = .ok (.ireturn, 1) := by decide +kernel
theorem dX6_shed_26 : decode cX6_shed 26 = .ok (.aload_n 0, 1) := by decide +kernel
theorem dX6_shed_27 : decode cX6_shed 27 = .ok (.invokevirtual 95, 3) := by decide +kernel
theorem dX6_shed_30 : decode cX6_shed 30 = .ok (.aload_n 0, 1) := by decide +kernel
theorem dX6_shed_31 : decode cX6_shed 31 = .ok (.iload_n 1, 1) := by decide +kernel
theorem dX6_shed_32 : decode cX6_shed 32 = .ok (.iconst 5, 1) := by decide +kernel
theorem dX6_shed_33 : decode cX6_shed 33 = .ok (.iconst 1, 1) := by decide +kernel
theorem dX6_shed_34 : decode cX6_shed 34 = .ok (.aload_n 0, 1) := by decide +kernel
theorem dX6_shed_35 : decode cX6_shed 35 = .ok (.iload_n 1, 1) := by decide +kernel
theorem dX6_shed_36 : decode cX6_shed 36 = .ok (.iconst 5, 1) := by decide +kernel
theorem dX6_shed_37 : decode cX6_shed 37 = .ok (.invokevirtual 47, 3) := by decide +kernel
theorem dX6_shed_40 : decode cX6_shed 40 = .ok (.isub, 1) := by decide +kernel
theorem dX6_shed_41 : decode cX6_shed 41 = .ok (.invokevirtual 78, 3) := by decide +kernel
theorem dX6_shed_44 : decode cX6_shed 44 = .ok (.aload_n 0, 1) := by decide +kernel
theorem dX6_shed_45 : decode cX6_shed 45 = .ok (.iload_n 1, 1) := by decide +kernel
theorem dX6_shed_46 : decode cX6_shed 46 = .ok (.iconst 5, 1) := by decide +kernel
theorem dX6_shed_47 : decode cX6_shed 47 = .ok (.invokevirtual 47, 3) := by decide +kernel
theorem dX6_shed_50 : decode cX6_shed 50 = .ok (.ireturn, 1) := by decide +kernel
theorem dX6_bound_0 : decode cX6_bound 0 = .ok (.aload_n 0, 1) := by decide +kernel
theorem dX6_bound_1 : decode cX6_bound 1 = .ok (.iload_n 1, 1) := by decide +kernel
theorem dX6_bound_2 : decode cX6_bound 2 = .ok (.invokestatic 114, 3) := by decide +kernel
theorem dX6_bound_5 : decode cX6_bound 5 = .ok (.ifCond .eq 19, 3) := by decide +kernel
theorem dX6_bound_8 : decode cX6_bound 8 = .ok (.iload_n 2, 1) := by decide +kernel
theorem dX6_bound_9 : decode cX6_bound 9 = .ok (.bipush 10, 2) := by decide +kernel
theorem dX6_bound_11 : decode cX6_bound 11 = .ok (.sipush 999, 3) := by decide +kernel
theorem dX6_bound_14 : decode cX6_bound 14 = .ok (.invokestatic 40, 3) := by decide +kernel
theorem dX6_bound_17 : decode cX6_bound 17 = .ok (.ifCond .eq 7, 3) := by decide +kernel
theorem dX6_bound_20 : decode cX6_bound 20 = .ok (.iconst 0, 1) := by decide +kernel
theorem dX6_bound_21 : decode cX6_bound 21 = .ok (.goto 4, 3) := by decide +kernel
theorem dX6_bound_24 : decode cX6_bound 24 = .ok (.iconst 1, 1) := by decide +kernel
theorem dX6_bound_25 : decode cX6_bound 25 = .ok (.putfield 36, 3) := by decide +kernel
theorem dX6_bound_28 : decode cX6_bound 28 = .ok (.aload_n 0, 1) := by decide +kernel
theorem dX6_bound_29 : decode cX6_bound 29 = .ok (.getfield 36, 3) := by decide +kernel
theorem dX6_bound_32 : decode cX6_bound 32 = .ok (.ifCond .le 5, 3) := by decide +kernel
theorem dX6_bound_35 : decode cX6_bound 35 = .ok (.iconst 0, 1) := by decide +kernel
theorem dX6_bound_36 : decode cX6_bound 36 = .ok (.ireturn, 1) := by decide +kernel
theorem dX6_bound_37 : decode cX6_bound 37 = .ok (.aload_n 0, 1) := by decide +kernel
theorem dX6_bound_38 : decode cX6_bound 38 = .ok (.invokevirtual 95, 3) := by decide +kernel
theorem dX6_bound_41 : decode cX6_bound 41 = .ok (.aload_n 0, 1) := by decide +kernel
theorem dX6_bound_42 : decode cX6_bound 42 = .ok (.iload_n 1, 1) := by decide +kernel
theorem dX6_bound_43 : decode cX6_bound 43 = .ok (.iconst 0, 1) := by decide +kernel
theorem dX6_bound_44 : decode cX6_bound 44 = .ok (.invokevirtual 59, 3) := by decide +kernel
theorem dX6_bound_47 : decode cX6_bound 47 = .ok (.istore_n 3, 1) := by decide +kernel
theorem dX6_bound_48 : decode cX6_bound 48 = .ok (.aload_n 0, 1) := by decide +kernel
theorem dX6_bound_49 : decode cX6_bound 49 = .ok (.iload_n 1, 1) := by decide +kernel
theorem dX6_bound_50 : decode cX6_bound 50 = .ok (.iconst 0, 1) := by decide +kernel
theorem dX6_bound_51 : decode cX6_bound 51 = .ok (.iload_n 2, 1) := by decide +kernel
theorem dX6_bound_52 : decode cX6_bound 52 = .ok (.invokevirtual 32, 3) := by decide +kernel
theorem dX6_bound_55 : decode cX6_bound 55 = .ok (.iload_n 3, 1) := by decide +kernel
theorem dX6_bound_56 : decode cX6_bound 56 = .ok (.ireturn, 1) := by decide +kernel
theorem dX6_drawing_0 : decode cX6_drawing 0 = .ok (.iconst 0, 1) := by decide +kernel
theorem dX6_drawing_1 : decode cX6_drawing 1 = .ok (.istore_n 2, 1) := by decide +kernel
theorem dX6_drawing_2 : decode cX6_drawing 2 = .ok (.iconst 0, 1) := by decide +kernel
theorem dX6_drawing_3 : decode cX6_drawing 3 = .ok (.istore_n 3, 1) := by decide +kernel
theorem dX6_drawing_4 : decode cX6_drawing 4 = .ok (.iload_n 3, 1) := by decide +kernel
theorem dX6_drawing_5 : decode cX6_drawing 5 = .ok (.aload_n 0, 1) := by decide +kernel
theorem dX6_drawing_6 : decode cX6_drawing 6 = .ok (.getfield 7, 3) := by decide +kernel
theorem dX6_drawing_9 : decode cX6_drawing 9 = .ok (.iconst 4, 1) := by decide +kernel
theorem dX6_drawing_10 : decode cX6_drawing 10 = .ok (.iaload, 1) := by decide +kernel
theorem dX6_drawing_11 : decode cX6_drawing 11 = .ok (.if_icmp .ge 39, 3) := by decide +kernel
theorem dX6_drawing_14 : decode cX6_drawing 14 = .ok (.iload_n 2, 1) := by decide +kernel
theorem dX6_drawing_15 : decode cX6_drawing 15 = .ok (.iload_n 1, 1) := by decide +kernel
theorem dX6_drawing_16 : decode cX6_drawing 16 = .ok (.iconst (-1), 1) := by decide +kernel
theorem dX6_drawing_17 : decode cX6_drawing 17 = .ok (.if_icmp .eq 12, 3) := by decide +kernel
theorem dX6_drawing_20 : decode cX6_drawing 20 = .ok (.aload_n 0, 1) := by decide +kernel
theorem dX6_drawing_21 : decode cX6_drawing 21 = .ok (.iload_n 3, 1) := by decide +kernel
theorem dX6_drawing_22 : decode cX6_drawing 22 = .ok (.iload_n 1, 1) := by decide +kernel
theorem dX6_drawing_23 : decode cX6_drawing 23 = .ok (.invokevirtual 62, 3) := by decide +kernel
theorem dX6_drawing_26 : decode cX6_drawing 26 = .ok (.ifCond .eq 15, 3) := by decide +kernel
theorem dX6_drawing_29 : decode cX6_drawing 29 = .ok (.aload_n 0, 1) := by decide +kernel
theorem dX6_drawing_30 : decode cX6_drawing 30 = .ok (.iload_n 3, 1) := by decide +kernel
theorem dX6_drawing_31 : decode cX6_drawing 31 = .ok (.invokevirtual 66, 3) := by decide +kernel
theorem dX6_drawing_34 : decode cX6_drawing 34 = .ok (.ifCond .ne 7, 3) := by decide +kernel
theorem dX6_drawing_37 : decode cX6_drawing 37 = .ok (.iconst 1, 1) := by decide +kernel
theorem dX6_drawing_38 : decode cX6_drawing 38 = .ok (.goto 4, 3) := by decide +kernel
theorem dX6_drawing_41 : decode cX6_drawing 41 = .ok (.iconst 0, 1) := by decide +kernel
theorem dX6_drawing_42 : decode cX6_drawing 42 = .ok (.iadd, 1) := by decide +kernel
theorem dX6_drawing_43 : decode cX6_drawing 43 = .ok (.istore_n 2, 1) := by decide +kernel
theorem dX6_drawing_44 : decode cX6_drawing 44 = .ok (.iinc 3 1, 3) := by decide +kernel
theorem dX6_drawing_47 : decode cX6_drawing 47 = .ok (.goto (-43), 3) := by decide +kernel
theorem dX6_drawing_50 : decode cX6_drawing 50 = .ok (.iload_n 2, 1) := by decide +kernel
theorem dX6_drawing_51 : decode cX6_drawing 51 = .ok (.ireturn, 1) := by decide +kernel
theorem dX6_putOn_0 : decode cX6_putOn 0 = .ok (.aload_n 0, 1) := by decide +kernel
theorem dX6_putOn_1 : decode cX6_putOn 1 = .ok (.iload_n 1, 1) := by decide +kernel
theorem dX6_putOn_2 : decode cX6_putOn 2 = .ok (.iconst 1, 1) := by decide +kernel
theorem dX6_putOn_3 : decode cX6_putOn 3 = .ok (.iconst 1, 1) := by decide +kernel
theorem dX6_putOn_4 : decode cX6_putOn 4 = .ok (.invokevirtual 32, 3) := by decide +kernel
theorem dX6_putOn_7 : decode cX6_putOn 7 = .ok (.aload_n 0, 1) := by decide +kernel
theorem dX6_putOn_8 : decode cX6_putOn 8 = .ok (.iload_n 1, 1) := by decide +kernel
theorem dX6_putOn_9 : decode cX6_putOn 9 = .ok (.iconst 2, 1) := by decide +kernel
theorem dX6_putOn_10 : decode cX6_putOn 10 = .ok (.iconst 0, 1) := by decide +kernel
theorem dX6_putOn_11 : decode cX6_putOn 11 = .ok (.invokevirtual 32, 3) := by decide +kernel
theorem dX6_putOn_14 : decode cX6_putOn 14 = .ok (.return_, 1) := by decide +kernel
theorem dX6_reset_0 : decode cX6_reset 0 = .ok (.iload_n 1, 1) := by decide +kernel
theorem dX6_reset_1 : decode cX6_reset 1 = .ok (.invokestatic 114, 3) := by decide +kernel
theorem dX6_reset_4 : decode cX6_reset 4 = .ok (.ifCond .ne 10, 3) := by decide +kernel
theorem dX6_reset_7 : decode cX6_reset 7 = .ok (.aload_n 0, 1) := by decide +kernel
theorem dX6_reset_8 : decode cX6_reset 8 = .ok (.iconst 1, 1) := by decide +kernel
theorem dX6_reset_9 : decode cX6_reset 9 = .ok (.putfield 36, 3) := by decide +kernel
theorem dX6_reset_12 : decode cX6_reset 12 = .ok (.iconst 0, 1) := by decide +kernel
theorem dX6_reset_13 : decode cX6_reset 13 = .ok (.ireturn, 1) := by decide +kernel
theorem dX6_reset_14 : decode cX6_reset 14 = .ok (.aload_n 0, 1) := by decide +kernel
theorem dX6_reset_15 : decode cX6_reset 15 = .ok (.aload_n 0, 1) := by decide +kernel
theorem dX6_reset_16 : decode cX6_reset 16 = .ok (.iload_n 1, 1) := by decide +kernel
theorem dX6_reset_17 : decode cX6_reset 17 = .ok (.iconst 1, 1) := by decide +kernel
theorem dX6_reset_18 : decode cX6_reset 18 = .ok (.invokevirtual 59, 3) := by decide +kernel
theorem dX6_reset_21 : decode cX6_reset 21 = .ok (.iconst 1, 1) := by decide +kernel
theorem dX6_reset_22 : decode cX6_reset 22 = .ok (.if_icmp .ne 7, 3) := by decide +kernel
theorem dX6_reset_25 : decode cX6_reset 25 = .ok (.iconst 2, 1) := by decide +kernel
theorem dX6_reset_26 : decode cX6_reset 26 = .ok (.goto 4, 3) := by decide +kernel
theorem dX6_reset_29 : decode cX6_reset 29 = .ok (.iconst 0, 1) := by decide +kernel
theorem dX6_reset_30 : decode cX6_reset 30 = .ok (.putfield 36, 3) := by decide +kernel
theorem dX6_reset_33 : decode cX6_reset 33 = .ok (.aload_n 0, 1) := by decide +kernel
theorem dX6_reset_34 : decode cX6_reset 34 = .ok (.getfield 36, 3) := by decide +kernel
theorem dX6_reset_37 : decode cX6_reset 37 = .ok (.ifCond .le 5, 3) := by decide +kernel
theorem dX6_reset_40 : decode cX6_reset 40 = .ok (.iconst 0, 1) := by decide +kernel
theorem dX6_reset_41 : decode cX6_reset 41 = .ok (.ireturn, 1) := by decide +kernel
theorem dX6_reset_42 : decode cX6_reset 42 = .ok (.aload_n 0, 1) := by decide +kernel
theorem dX6_reset_43 : decode cX6_reset 43 = .ok (.invokevirtual 95, 3) := by decide +kernel
theorem dX6_reset_46 : decode cX6_reset 46 = .ok (.aload_n 0, 1) := by decide +kernel
theorem dX6_reset_47 : decode cX6_reset 47 = .ok (.iload_n 1, 1) := by decide +kernel
theorem dX6_reset_48 : decode cX6_reset 48 = .ok (.invokevirtual 117, 3) := by decide +kernel
theorem dX6_reset_51 : decode cX6_reset 51 = .ok (.aload_n 0, 1) := by decide +kernel
theorem dX6_reset_52 : decode cX6_reset 52 = .ok (.iload_n 1, 1) := by decide +kernel
theorem dX6_reset_53 : decode cX6_reset 53 = .ok (.invokevirtual 120, 3) := by decide +kernel
theorem dX6_reset_56 : decode cX6_reset 56 = .ok (.ireturn, 1) := by decide +kernel
theorem dX6_over_0 : decode cX6_over 0 = .ok (.aload_n 0, 1) := by decide +kernel
theorem dX6_over_1 : decode cX6_over 1 = .ok (.iload_n 1, 1) := by decide +kernel
theorem dX6_over_2 : decode cX6_over 2 = .ok (.iconst 0, 1) := by decide +kernel
theorem dX6_over_3 : decode cX6_over 3 = .ok (.bipush 8, 2) := by decide +kernel
theorem dX6_over_5 : decode cX6_over 5 = .ok (.invokestatic 40, 3) := by decide +kernel
theorem dX6_over_8 : decode cX6_over 8 = .ok (.ifCond .eq 7, 3) := by decide +kernel
theorem dX6_over_11 : decode cX6_over 11 = .ok (.iconst 0, 1) := by decide +kernel
theorem dX6_over_12 : decode cX6_over 12 = .ok (.goto 4, 3) := by decide +kernel
theorem dX6_over_15 : decode cX6_over 15 = .ok (.iconst 1, 1) := by decide +kernel
theorem dX6_over_16 : decode cX6_over 16 = .ok (.putfield 36, 3) := by decide +kernel
theorem dX6_over_19 : decode cX6_over 19 = .ok (.aload_n 0, 1) := by decide +kernel
theorem dX6_over_20 : decode cX6_over 20 = .ok (.getfield 36, 3) := by decide +kernel
theorem dX6_over_23 : decode cX6_over 23 = .ok (.ifCond .le 5, 3) := by decide +kernel
theorem dX6_over_26 : decode cX6_over 26 = .ok (.iconst 0, 1) := by decide +kernel
theorem dX6_over_27 : decode cX6_over 27 = .ok (.ireturn, 1) := by decide +kernel
theorem dX6_over_28 : decode cX6_over 28 = .ok (.aload_n 0, 1) := by decide +kernel
theorem dX6_over_29 : decode cX6_over 29 = .ok (.invokevirtual 95, 3) := by decide +kernel
theorem dX6_over_32 : decode cX6_over 32 = .ok (.aload_n 0, 1) := by decide +kernel
theorem dX6_over_33 : decode cX6_over 33 = .ok (.getfield 7, 3) := by decide +kernel
theorem dX6_over_36 : decode cX6_over 36 = .ok (.bipush 27, 2) := by decide +kernel
theorem dX6_over_38 : decode cX6_over 38 = .ok (.iload_n 1, 1) := by decide +kernel
theorem dX6_over_39 : decode cX6_over 39 = .ok (.iadd, 1) := by decide +kernel
theorem dX6_over_40 : decode cX6_over 40 = .ok (.iconst 1, 1) := by decide +kernel
theorem dX6_over_41 : decode cX6_over 41 = .ok (.aload_n 0, 1) := by decide +kernel
theorem dX6_over_42 : decode cX6_over 42 = .ok (.getfield 7, 3) := by decide +kernel
theorem dX6_over_45 : decode cX6_over 45 = .ok (.bipush 27, 2) := by decide +kernel
theorem dX6_over_47 : decode cX6_over 47 = .ok (.iload_n 1, 1) := by decide +kernel
theorem dX6_over_48 : decode cX6_over 48 = .ok (.iadd, 1) := by decide +kernel
theorem dX6_over_49 : decode cX6_over 49 = .ok (.iaload, 1) := by decide +kernel
theorem dX6_over_50 : decode cX6_over 50 = .ok (.isub, 1) := by decide +kernel
theorem dX6_over_51 : decode cX6_over 51 = .ok (.iastore, 1) := by decide +kernel
theorem dX6_over_52 : decode cX6_over 52 = .ok (.aload_n 0, 1) := by decide +kernel
theorem dX6_over_53 : decode cX6_over 53 = .ok (.iload_n 1, 1) := by decide +kernel
theorem dX6_over_54 : decode cX6_over 54 = .ok (.invokevirtual 55, 3) := by decide +kernel
theorem dX6_over_57 : decode cX6_over 57 = .ok (.ireturn, 1) := by decide +kernel
theorem dX6_pass_0 : decode cX6_pass 0 = .ok (.aload_n 0, 1) := by decide +kernel
theorem dX6_pass_1 : decode cX6_pass 1 = .ok (.iload_n 1, 1) := by decide +kernel
theorem dX6_pass_2 : decode cX6_pass 2 = .ok (.iconst 1, 1) := by decide +kernel
theorem dX6_pass_3 : decode cX6_pass 3 = .ok (.bipush 48, 2) := by decide +kernel
theorem dX6_pass_5 : decode cX6_pass 5 = .ok (.invokestatic 40, 3) := by decide +kernel
theorem dX6_pass_8 : decode cX6_pass 8 = .ok (.ifCond .ne 7, 3) := by decide +kernel
theorem dX6_pass_11 : decode cX6_pass 11 = .ok (.iconst 1, 1) := by decide +kernel
theorem dX6_pass_12 : decode cX6_pass 12 = .ok (.goto 22, 3) := by decide +kernel
theorem dX6_pass_15 : decode cX6_pass 15 = .ok (.aload_n 0, 1) := by decide +kernel
theorem dX6_pass_16 : decode cX6_pass 16 = .ok (.getfield 7, 3) := by decide +kernel
theorem dX6_pass_19 : decode cX6_pass 19 = .ok (.iconst 3, 1) := by decide +kernel
theorem dX6_pass_20 : decode cX6_pass 20 = .ok (.iaload, 1) := by decide +kernel
theorem dX6_pass_21 : decode cX6_pass 21 = .ok (.iload_n 1, 1) := by decide +kernel
theorem dX6_pass_22 : decode cX6_pass 22 = .ok (.iadd, 1) := by decide +kernel
theorem dX6_pass_23 : decode cX6_pass 23 = .ok (.sipush 9999, 3) := by decide +kernel
theorem dX6_pass_26 : decode cX6_pass 26 = .ok (.if_icmp .le 7, 3) := by decide +kernel
theorem dX6_pass_29 : decode cX6_pass 29 = .ok (.iconst 2, 1) := by decide +kernel
theorem dX6_pass_30 : decode cX6_pass 30 = .ok (.goto 4, 3) := by decide +kernel
theorem dX6_pass_33 : decode cX6_pass 33 = .ok (.iconst 0, 1) := by decide +kernel
theorem dX6_pass_34 : decode cX6_pass 34 = .ok (.putfield 36, 3) := by decide +kernel
theorem dX6_pass_37 : decode cX6_pass 37 = .ok (.aload_n 0, 1) := by decide +kernel
theorem dX6_pass_38 : decode cX6_pass 38 = .ok (.getfield 36, 3) := by decide +kernel
theorem dX6_pass_41 : decode cX6_pass 41 = .ok (.ifCond .le 5, 3) := by decide +kernel
theorem dX6_pass_44 : decode cX6_pass 44 = .ok (.iconst 0, 1) := by decide +kernel
theorem dX6_pass_45 : decode cX6_pass 45 = .ok (.ireturn, 1) := by decide +kernel
theorem dX6_pass_46 : decode cX6_pass 46 = .ok (.aload_n 0, 1) := by decide +kernel
theorem dX6_pass_47 : decode cX6_pass 47 = .ok (.invokevirtual 95, 3) := by decide +kernel
theorem dX6_pass_50 : decode cX6_pass 50 = .ok (.aload_n 0, 1) := by decide +kernel
theorem dX6_pass_51 : decode cX6_pass 51 = .ok (.iload_n 1, 1) := by decide +kernel
theorem dX6_pass_52 : decode cX6_pass 52 = .ok (.invokevirtual 123, 3) := by decide +kernel
theorem dX6_pass_55 : decode cX6_pass 55 = .ok (.ireturn, 1) := by decide +kernel
theorem dX6_isValue_0 : decode cX6_isValue 0 = .ok (.iload_n 0, 1) := by decide +kernel
theorem dX6_isValue_1 : decode cX6_isValue 1 = .ok (.ifCond .ne 13, 3) := by decide +kernel
theorem dX6_isValue_4 : decode cX6_isValue 4 = .ok (.iload_n 1, 1) := by decide +kernel
theorem dX6_isValue_5 : decode cX6_isValue 5 = .ok (.iconst 1, 1) := by decide +kernel
theorem dX6_isValue_6 : decode cX6_isValue 6 = .ok (.bipush 9, 2) := by decide +kernel
theorem dX6_isValue_8 : decode cX6_isValue 8 = .ok (.invokestatic 40, 3) := by decide +kernel
theorem dX6_isValue_11 : decode cX6_isValue 11 = .ok (.goto 24, 3) := by decide +kernel
theorem dX6_isValue_14 : decode cX6_isValue 14 = .ok (.iload_n 0, 1) := by decide +kernel
theorem dX6_isValue_15 : decode cX6_isValue 15 = .ok (.iconst 1, 1) := by decide +kernel
theorem dX6_isValue_16 : decode cX6_isValue 16 = .ok (.if_icmp .ne 12, 3) := by decide +kernel
theorem dX6_isValue_19 : decode cX6_isValue 19 = .ok (.iload_n 1, 1) := by decide +kernel
theorem dX6_isValue_20 : decode cX6_isValue 20 = .ok (.iconst 0, 1) := by decide +kernel
theorem dX6_isValue_21 : decode cX6_isValue 21 = .ok (.iconst 1, 1) := by decide +kernel
theorem dX6_isValue_22 : decode cX6_isValue 22 = .ok (.invokestatic 40, 3) := by decide +kernel
theorem dX6_isValue_25 : decode cX6_isValue 25 = .ok (.goto 10, 3) := by decide +kernel
theorem dX6_isValue_28 : decode cX6_isValue 28 = .ok (.iload_n 1, 1) := by decide +kernel
theorem dX6_isValue_29 : decode cX6_isValue 29 = .ok (.iconst 1, 1) := by decide +kernel
theorem dX6_isValue_30 : decode cX6_isValue 30 = .ok (.bipush 99, 2) := by decide +kernel
theorem dX6_isValue_32 : decode cX6_isValue 32 = .ok (.invokestatic 40, 3) := by decide +kernel
theorem dX6_isValue_35 : decode cX6_isValue 35 = .ok (.ireturn, 1) := by decide +kernel
theorem dX6_set_0 : decode cX6_set 0 = .ok (.aload_n 0, 1) := by decide +kernel
theorem dX6_set_1 : decode cX6_set 1 = .ok (.iload_n 1, 1) := by decide +kernel
theorem dX6_set_2 : decode cX6_set 2 = .ok (.iconst 0, 1) := by decide +kernel
theorem dX6_set_3 : decode cX6_set 3 = .ok (.iconst 2, 1) := by decide +kernel
theorem dX6_set_4 : decode cX6_set 4 = .ok (.invokestatic 40, 3) := by decide +kernel
theorem dX6_set_7 : decode cX6_set 7 = .ok (.ifCond .ne 7, 3) := by decide +kernel
theorem dX6_set_10 : decode cX6_set 10 = .ok (.iconst 1, 1) := by decide +kernel
theorem dX6_set_11 : decode cX6_set 11 = .ok (.goto 16, 3) := by decide +kernel
theorem dX6_set_14 : decode cX6_set 14 = .ok (.iload_n 1, 1) := by decide +kernel
theorem dX6_set_15 : decode cX6_set 15 = .ok (.iload_n 2, 1) := by decide +kernel
theorem dX6_set_16 : decode cX6_set 16 = .ok (.invokestatic 126, 3) := by decide +kernel
theorem dX6_set_19 : decode cX6_set 19 = .ok (.ifCond .eq 7, 3) := by decide +kernel
theorem dX6_set_22 : decode cX6_set 22 = .ok (.iconst 0, 1) := by decide +kernel
theorem dX6_set_23 : decode cX6_set 23 = .ok (.goto 4, 3) := by decide +kernel
theorem dX6_set_26 : decode cX6_set 26 = .ok (.iconst 2, 1) := by decide +kernel
theorem dX6_set_27 : decode cX6_set 27 = .ok (.putfield 36, 3) := by decide +kernel
theorem dX6_set_30 : decode cX6_set 30 = .ok (.aload_n 0, 1) := by decide +kernel
theorem dX6_set_31 : decode cX6_set 31 = .ok (.getfield 36, 3) := by decide +kernel
theorem dX6_set_34 : decode cX6_set 34 = .ok (.ifCond .le 5, 3) := by decide +kernel
theorem dX6_set_37 : decode cX6_set 37 = .ok (.iconst 0, 1) := by decide +kernel
theorem dX6_set_38 : decode cX6_set 38 = .ok (.ireturn, 1) := by decide +kernel
theorem dX6_set_39 : decode cX6_set 39 = .ok (.aload_n 0, 1) := by decide +kernel
theorem dX6_set_40 : decode cX6_set 40 = .ok (.invokevirtual 95, 3) := by decide +kernel
theorem dX6_set_43 : decode cX6_set 43 = .ok (.aload_n 0, 1) := by decide +kernel
theorem dX6_set_44 : decode cX6_set 44 = .ok (.getfield 7, 3) := by decide +kernel
theorem dX6_set_47 : decode cX6_set 47 = .ok (.iconst 0, 1) := by decide +kernel
theorem dX6_set_48 : decode cX6_set 48 = .ok (.iload_n 1, 1) := by decide +kernel
theorem dX6_set_49 : decode cX6_set 49 = .ok (.iadd, 1) := by decide +kernel
theorem dX6_set_50 : decode cX6_set 50 = .ok (.iaload, 1) := by decide +kernel
theorem dX6_set_51 : decode cX6_set 51 = .ok (.istore_n 3, 1) := by decide +kernel
theorem dX6_set_52 : decode cX6_set 52 = .ok (.aload_n 0, 1) := by decide +kernel
theorem dX6_set_53 : decode cX6_set 53 = .ok (.getfield 7, 3) := by decide +kernel
theorem dX6_set_56 : decode cX6_set 56 = .ok (.iconst 0, 1) := by decide +kernel
theorem dX6_set_57 : decode cX6_set 57 = .ok (.iload_n 1, 1) := by decide +kernel
theorem dX6_set_58 : decode cX6_set 58 = .ok (.iadd, 1) := by decide +kernel
theorem dX6_set_59 : decode cX6_set 59 = .ok (.iload_n 2, 1) := by decide +kernel
theorem dX6_set_60 : decode cX6_set 60 = .ok (.iastore, 1) := by decide +kernel
theorem dX6_set_61 : decode cX6_set 61 = .ok (.iload_n 3, 1) := by decide +kernel
theorem dX6_set_62 : decode cX6_set 62 = .ok (.ireturn, 1) := by decide +kernel
theorem dX6_append_0 : decode cX6_append 0 = .ok (.aload_n 0, 1) := by decide +kernel
theorem dX6_append_1 : decode cX6_append 1 = .ok (.iload_n 1, 1) := by decide +kernel
theorem dX6_append_2 : decode cX6_append 2 = .ok (.bipush 33, 2) := by decide +kernel
theorem dX6_append_4 : decode cX6_append 4 = .ok (.bipush 126, 2) := by decide +kernel
theorem dX6_append_6 : decode cX6_append 6 = .ok (.invokestatic 40, 3) := by decide +kernel
theorem dX6_append_9 : decode cX6_append 9 = .ok (.ifCond .ne 7, 3) := by decide +kernel
theorem dX6_append_12 : decode cX6_append 12 = .ok (.iconst 1, 1) := by decide +kernel
theorem dX6_append_13 : decode cX6_append 13 = .ok (.goto 17, 3) := by decide +kernel
theorem dX6_append_16 : decode cX6_append 16 = .ok (.aload_n 0, 1) := by decide +kernel
theorem dX6_append_17 : decode cX6_append 17 = .ok (.getfield 129, 3) := by decide +kernel
theorem dX6_append_20 : decode cX6_append 20 = .ok (.bipush 60, 2) := by decide +kernel
theorem dX6_append_22 : decode cX6_append 22 = .ok (.if_icmp .ne 7, 3) := by decide +kernel
theorem dX6_append_25 : decode cX6_append 25 = .ok (.iconst 2, 1) := by decide +kernel
theorem dX6_append_26 : decode cX6_append 26 = .ok (.goto 4, 3) := by decide +kernel
theorem dX6_append_29 : decode cX6_append 29 = .ok (.iconst 0, 1) := by decide +kernel
theorem dX6_append_30 : decode cX6_append 30 = .ok (.putfield 36, 3) := by decide +kernel
theorem dX6_append_33 : decode cX6_append 33 = .ok (.aload_n 0, 1) := by decide +kernel
theorem dX6_append_34 : decode cX6_append 34 = .ok (.getfield 36, 3) := by decide +kernel
theorem dX6_append_37 : decode cX6_append 37 = .ok (.ifCond .le 5, 3) := by decide +kernel
theorem dX6_append_40 : decode cX6_append 40 = .ok (.iconst 0, 1) := by decide +kernel
theorem dX6_append_41 : decode cX6_append 41 = .ok (.ireturn, 1) := by decide +kernel
theorem dX6_append_42 : decode cX6_append 42 = .ok (.aload_n 0, 1) := by decide +kernel
theorem dX6_append_43 : decode cX6_append 43 = .ok (.getfield 26, 3) := by decide +kernel
theorem dX6_append_46 : decode cX6_append 46 = .ok (.aload_n 0, 1) := by decide +kernel
theorem dX6_append_47 : decode cX6_append 47 = .ok (.getfield 129, 3) := by decide +kernel
theorem dX6_append_50 : decode cX6_append 50 = .ok (.iload_n 1, 1) := by decide +kernel
theorem dX6_append_51 : decode cX6_append 51 = .ok (.iastore, 1) := by decide +kernel
theorem dX6_append_52 : decode cX6_append 52 = .ok (.aload_n 0, 1) := by decide +kernel
theorem dX6_append_53 : decode cX6_append 53 = .ok (.dup, 1) := by decide +kernel
theorem dX6_append_54 : decode cX6_append 54 = .ok (.getfield 129, 3) := by decide +kernel
theorem dX6_append_57 : decode cX6_append 57 = .ok (.iconst 1, 1) := by decide +kernel
theorem dX6_append_58 : decode cX6_append 58 = .ok (.iadd, 1) := by decide +kernel
theorem dX6_append_59 : decode cX6_append 59 = .ok (.putfield 129, 3) := by decide +kernel
theorem dX6_append_62 : decode cX6_append 62 = .ok (.aload_n 0, 1) := by decide +kernel
theorem dX6_append_63 : decode cX6_append 63 = .ok (.getfield 129, 3) := by decide +kernel
theorem dX6_append_66 : decode cX6_append 66 = .ok (.ireturn, 1) := by decide +kernel
theorem dX6_clearBuffer_0 : decode cX6_clearBuffer 0 = .ok (.aload_n 0, 1) := by decide +kernel
theorem dX6_clearBuffer_1 : decode cX6_clearBuffer 1 = .ok (.iconst 0, 1) := by decide +kernel
theorem dX6_clearBuffer_2 : decode cX6_clearBuffer 2 = .ok (.putfield 36, 3) := by decide +kernel
theorem dX6_clearBuffer_5 : decode cX6_clearBuffer 5 = .ok (.aload_n 0, 1) := by decide +kernel
theorem dX6_clearBuffer_6 : decode cX6_clearBuffer 6 = .ok (.getfield 129, 3) := by decide +kernel
theorem dX6_clearBuffer_9 : decode cX6_clearBuffer 9 = .ok (.istore_n 1, 1) := by decide +kernel
theorem dX6_clearBuffer_10 : decode cX6_clearBuffer 10 = .ok (.aload_n 0, 1) := by decide +kernel
theorem dX6_clearBuffer_11 : decode cX6_clearBuffer 11 = .ok (.iconst 0, 1) := by decide +kernel
theorem dX6_clearBuffer_12 : decode cX6_clearBuffer 12 = .ok (.putfield 129, 3) := by decide +kernel
theorem dX6_clearBuffer_15 : decode cX6_clearBuffer 15 = .ok (.iload_n 1, 1) := by decide +kernel
theorem dX6_clearBuffer_16 : decode cX6_clearBuffer 16 = .ok (.ireturn, 1) := by decide +kernel
theorem dX6_letter_0 : decode cX6_letter 0 = .ok (.aload_n 0, 1) := by decide +kernel
theorem dX6_letter_1 : decode cX6_letter 1 = .ok (.getfield 132, 3) := by decide +kernel
theorem dX6_letter_4 : decode cX6_letter 4 = .ok (.aload_n 0, 1) := by decide +kernel
theorem dX6_letter_5 : decode cX6_letter 5 = .ok (.getfield 129, 3) := by decide +kernel
theorem dX6_letter_8 : decode cX6_letter 8 = .ok (.if_icmp .ge 15, 3) := by decide +kernel
theorem dX6_letter_11 : decode cX6_letter 11 = .ok (.aload_n 0, 1) := by decide +kernel
theorem dX6_letter_12 : decode cX6_letter 12 = .ok (.getfield 26, 3) := by decide +kernel
theorem dX6_letter_15 : decode cX6_letter 15 = .ok (.aload_n 0, 1) := by decide +kernel
theorem dX6_letter_16 : decode cX6_letter 16 = .ok (.getfield 132, 3) := by decide +kernel
theorem dX6_letter_19 : decode cX6_letter 19 = .ok (.iaload, 1) := by decide +kernel
theorem dX6_letter_20 : decode cX6_letter 20 = .ok (.goto 4, 3) := by decide +kernel
theorem dX6_letter_23 : decode cX6_letter 23 = .ok (.iconst (-1), 1) := by decide +kernel
theorem dX6_letter_24 : decode cX6_letter 24 = .ok (.ireturn, 1) := by decide +kernel
theorem dX6_wants_0 : decode cX6_wants 0 = .ok (.aload_n 0, 1) := by decide +kernel
theorem dX6_wants_1 : decode cX6_wants 1 = .ok (.getfield 135, 3) := by decide +kernel
theorem dX6_wants_4 : decode cX6_wants 4 = .ok (.iconst (-1), 1) := by decide +kernel
theorem dX6_wants_5 : decode cX6_wants 5 = .ok (.if_icmp .ne 29, 3) := by decide +kernel
theorem dX6_wants_8 : decode cX6_wants 8 = .ok (.aload_n 0, 1) := by decide +kernel
theorem dX6_wants_9 : decode cX6_wants 9 = .ok (.iload_n 1, 1) := by decide +kernel
theorem dX6_wants_10 : decode cX6_wants 10 = .ok (.ifCond .eq 7, 3) := by decide +kernel
theorem dX6_wants_13 : decode cX6_wants 13 = .ok (.iconst (-1), 1) := by decide +kernel
theorem dX6_wants_14 : decode cX6_wants 14 = .ok (.goto 7, 3) := by decide +kernel
theorem dX6_wants_17 : decode cX6_wants 17 = .ok (.aload_n 0, 1) := by decide +kernel
theorem dX6_wants_18 : decode cX6_wants 18 = .ok (.getfield 132, 3) := by decide +kernel
theorem dX6_wants_21 : decode cX6_wants 21 = .ok (.putfield 135, 3) := by decide +kernel
theorem dX6_wants_24 : decode cX6_wants 24 = .ok (.aload_n 0, 1) := by decide +kernel
theorem dX6_wants_25 : decode cX6_wants 25 = .ok (.dup, 1) := by decide +kernel
theorem dX6_wants_26 : decode cX6_wants 26 = .ok (.getfield 132, 3) := by decide +kernel
theorem dX6_wants_29 : decode cX6_wants 29 = .ok (.iconst 1, 1) := by decide +kernel
theorem dX6_wants_30 : decode cX6_wants 30 = .ok (.iadd, 1) := by decide +kernel
theorem dX6_wants_31 : decode cX6_wants 31 = .ok (.putfield 132, 3) := by decide +kernel
theorem dX6_wants_34 : decode cX6_wants 34 = .ok (.return_, 1) := by decide +kernel
theorem dX6_number_0 : decode cX6_number 0 = .ok (.aload_n 0, 1) := by decide +kernel
theorem dX6_number_1 : decode cX6_number 1 = .ok (.invokevirtual 138, 3) := by decide +kernel
theorem dX6_number_4 : decode cX6_number 4 = .ok (.bipush 48, 2) := by decide +kernel
theorem dX6_number_6 : decode cX6_number 6 = .ok (.isub, 1) := by decide +kernel
theorem dX6_number_7 : decode cX6_number 7 = .ok (.istore_n 3, 1) := by decide +kernel
theorem dX6_number_8 : decode cX6_number 8 = .ok (.aload_n 0, 1) := by decide +kernel
theorem dX6_number_9 : decode cX6_number 9 = .ok (.iload_n 3, 1) := by decide +kernel
theorem dX6_number_10 : decode cX6_number 10 = .ok (.iload_n 1, 1) := by decide +kernel
theorem dX6_number_11 : decode cX6_number 11 = .ok (.bipush 9, 2) := by decide +kernel
theorem dX6_number_13 : decode cX6_number 13 = .ok (.invokestatic 40, 3) := by decide +kernel
theorem dX6_number_16 : decode cX6_number 16 = .ok (.invokevirtual 141, 3) := by decide +kernel
theorem dX6_number_19 : decode cX6_number 19 = .ok (.aload_n 0, 1) := by decide +kernel
theorem dX6_number_20 : decode cX6_number 20 = .ok (.invokevirtual 138, 3) := by decide +kernel
theorem dX6_number_23 : decode cX6_number 23 = .ok (.bipush 48, 2) := by decide +kernel
theorem dX6_number_25 : decode cX6_number 25 = .ok (.isub, 1) := by decide +kernel
theorem dX6_number_26 : decode cX6_number 26 = .ok (.istore 4, 2) := by decide +kernel
theorem dX6_number_28 : decode cX6_number 28 = .ok (.aload_n 0, 1) := by decide +kernel
theorem dX6_number_29 : decode cX6_number 29 = .ok (.getfield 135, 3) := by decide +kernel
theorem dX6_number_32 : decode cX6_number 32 = .ok (.iconst (-1), 1) := by decide +kernel
theorem dX6_number_33 : decode cX6_number 33 = .ok (.if_icmp .ne 59, 3) := by decide +kernel
theorem dX6_number_36 : decode cX6_number 36 = .ok (.iload_n 3, 1) := by decide +kernel
theorem dX6_number_37 : decode cX6_number 37 = .ok (.ifCond .le 55, 3) := by decide +kernel
theorem dX6_number_40 : decode cX6_number 40 = .ok (.iload 4, 2) := by decide +kernel
theorem dX6_number_42 : decode cX6_number 42 = .ok (.iconst 0, 1) := by decide +kernel
theorem dX6_number_43 : decode cX6_number 43 = .ok (.bipush 9, 2) := by decide +kernel
theorem dX6_number_45 : decode cX6_number 45 = .ok (.invokestatic 40, 3) := by decide +kernel
theorem dX6_number_48 : decode cX6_number 48 = .ok (.ifCond .eq 44, 3) := by decide +kernel
theorem dX6_number_51 : decode cX6_number 51 = .ok (.bipush 10, 2) := by decide +kernel
theorem dX6_number_53 : decode cX6_number 53 = .ok (.iload_n 3, 1) := by decide +kernel
theorem dX6_number_54 : decode cX6_number 54 = .ok (.imul, 1) := by decide +kernel
theorem dX6_number_55 : decode cX6_number 55 = .ok (.iload 4, 2) := by decide +kernel
theorem dX6_number_57 : decode cX6_number 57 = .ok (.iadd, 1) := by decide +kernel
theorem dX6_number_58 : decode cX6_number 58 = .ok (.iload_n 2, 1) := by decide +kernel
theorem dX6_number_59 : decode cX6_number 59 = .ok (.if_icmp .gt 33, 3) := by decide +kernel
theorem dX6_number_62 : decode cX6_number 62 = .ok (.bipush 10, 2) := by decide +kernel
theorem dX6_number_64 : decode cX6_number 64 = .ok (.iload_n 3, 1) := by decide +kernel
theorem dX6_number_65 : decode cX6_number 65 = .ok (.imul, 1) := by decide +kernel
theorem dX6_number_66 : decode cX6_number 66 = .ok (.iload 4, 2) := by decide +kernel
theorem dX6_number_68 : decode cX6_number 68 = .ok (.iadd, 1) := by decide +kernel
theorem dX6_number_69 : decode cX6_number 69 = .ok (.istore_n 3, 1) := by decide +kernel
theorem dX6_number_70 : decode cX6_number 70 = .ok (.aload_n 0, 1) := by decide +kernel
theorem dX6_number_71 : decode cX6_number 71 = .ok (.dup, 1) := by decide +kernel
theorem dX6_number_72 : decode cX6_number 72 = .ok (.getfield 132, 3) := by decide +kernel
theorem dX6_number_75 : decode cX6_number 75 = .ok (.iconst 1, 1) := by decide +kernel
theorem dX6_number_76 : decode cX6_number 76 = .ok (.iadd, 1) := by decide +kernel
theorem dX6_number_77 : decode cX6_number 77 = .ok (.putfield 132, 3) := by decide +kernel
theorem dX6_number_80 : decode cX6_number 80 = .ok (.aload_n 0, 1) := by decide +kernel
theorem dX6_number_81 : decode cX6_number 81 = .ok (.invokevirtual 138, 3) := by decide +kernel
theorem dX6_number_84 : decode cX6_number 84 = .ok (.bipush 48, 2) := by decide +kernel
theorem dX6_number_86 : decode cX6_number 86 = .ok (.isub, 1) := by decide +kernel
theorem dX6_number_87 : decode cX6_number 87 = .ok (.istore 4, 2) := by decide +kernel
theorem dX6_number_89 : decode cX6_number 89 = .ok (.goto (-61), 3) := by decide +kernel
theorem dX6_number_92 : decode cX6_number 92 = .ok (.iload_n 3, 1) := by decide +kernel
theorem dX6_number_93 : decode cX6_number 93 = .ok (.ireturn, 1) := by decide +kernel
theorem dX6_readStall_0 : decode cX6_readStall 0 = .ok (.aload_n 0, 1) := by decide +kernel
theorem dX6_readStall_1 : decode cX6_readStall 1 = .ok (.getfield 29, 3) := by decide +kernel
theorem dX6_readStall_4 : decode cX6_readStall 4 = .ok (.iload_n 1, 1) := by decide +kernel
theorem dX6_readStall_5 : decode cX6_readStall 5 = .ok (.iconst 1, 1) := by decide +kernel
theorem dX6_readStall_6 : decode cX6_readStall 6 = .ok (.iadd, 1) := by decide +kernel
theorem dX6_readStall_7 : decode cX6_readStall 7 = .ok (.aload_n 0, 1) := by decide +kernel
theorem dX6_readStall_8 : decode cX6_readStall 8 = .ok (.iconst 1, 1) := by decide +kernel
theorem dX6_readStall_9 : decode cX6_readStall 9 = .ok (.sipush 500, 3) := by decide +kernel
theorem dX6_readStall_12 : decode cX6_readStall 12 = .ok (.invokevirtual 145, 3) := by decide +kernel
theorem dX6_readStall_15 : decode cX6_readStall 15 = .ok (.iastore, 1) := by decide +kernel
theorem dX6_readStall_16 : decode cX6_readStall 16 = .ok (.aload_n 0, 1) := by decide +kernel
theorem dX6_readStall_17 : decode cX6_readStall 17 = .ok (.aload_n 0, 1) := by decide +kernel
theorem dX6_readStall_18 : decode cX6_readStall 18 = .ok (.invokevirtual 138, 3) := by decide +kernel
theorem dX6_readStall_21 : decode cX6_readStall 21 = .ok (.bipush 64, 2) := by decide +kernel
theorem dX6_readStall_23 : decode cX6_readStall 23 = .ok (.if_icmp .ne 7, 3) := by decide +kernel
theorem dX6_readStall_26 : decode cX6_readStall 26 = .ok (.iconst 1, 1) := by decide +kernel
theorem dX6_readStall_27 : decode cX6_readStall 27 = .ok (.goto 4, 3) := by decide +kernel
theorem dX6_readStall_30 : decode cX6_readStall 30 = .ok (.iconst 0, 1) := by decide +kernel
theorem dX6_readStall_31 : decode cX6_readStall 31 = .ok (.invokevirtual 141, 3) := by decide +kernel
theorem dX6_readStall_34 : decode cX6_readStall 34 = .ok (.aload_n 0, 1) := by decide +kernel
theorem dX6_readStall_35 : decode cX6_readStall 35 = .ok (.getfield 29, 3) := by decide +kernel
theorem dX6_readStall_38 : decode cX6_readStall 38 = .ok (.iload_n 1, 1) := by decide +kernel
theorem dX6_readStall_39 : decode cX6_readStall 39 = .ok (.iconst 2, 1) := by decide +kernel
theorem dX6_readStall_40 : decode cX6_readStall 40 = .ok (.iadd, 1) := by decide +kernel
theorem dX6_readStall_41 : decode cX6_readStall 41 = .ok (.aload_n 0, 1) := by decide +kernel
theorem dX6_readStall_42 : decode cX6_readStall 42 = .ok (.iconst 0, 1) := by decide +kernel
theorem dX6_readStall_43 : decode cX6_readStall 43 = .ok (.bipush 23, 2) := by decide +kernel
theorem dX6_readStall_45 : decode cX6_readStall 45 = .ok (.invokevirtual 145, 3) := by decide +kernel
theorem dX6_readStall_48 : decode cX6_readStall 48 = .ok (.iastore, 1) := by decide +kernel
theorem dX6_readStall_49 : decode cX6_readStall 49 = .ok (.aload_n 0, 1) := by decide +kernel
theorem dX6_readStall_50 : decode cX6_readStall 50 = .ok (.aload_n 0, 1) := by decide +kernel
theorem dX6_readStall_51 : decode cX6_readStall 51 = .ok (.invokevirtual 138, 3) := by decide +kernel
theorem dX6_readStall_54 : decode cX6_readStall 54 = .ok (.bipush 45, 2) := by decide +kernel
theorem dX6_readStall_56 : decode cX6_readStall 56 = .ok (.if_icmp .ne 7, 3) := by decide +kernel
theorem dX6_readStall_59 : decode cX6_readStall 59 = .ok (.iconst 1, 1) := by decide +kernel
theorem dX6_readStall_60 : decode cX6_readStall 60 = .ok (.goto 4, 3) := by decide +kernel
theorem dX6_readStall_63 : decode cX6_readStall 63 = .ok (.iconst 0, 1) := by decide +kernel
theorem dX6_readStall_64 : decode cX6_readStall 64 = .ok (.invokevirtual 141, 3) := by decide +kernel
theorem dX6_readStall_67 : decode cX6_readStall 67 = .ok (.aload_n 0, 1) := by decide +kernel
theorem dX6_readStall_68 : decode cX6_readStall 68 = .ok (.getfield 29, 3) := by decide +kernel
theorem dX6_readStall_71 : decode cX6_readStall 71 = .ok (.iload_n 1, 1) := by decide +kernel
theorem dX6_readStall_72 : decode cX6_readStall 72 = .ok (.iconst 3, 1) := by decide +kernel
theorem dX6_readStall_73 : decode cX6_readStall 73 = .ok (.iadd, 1) := by decide +kernel
theorem dX6_readStall_74 : decode cX6_readStall 74 = .ok (.aload_n 0, 1) := by decide +kernel
theorem dX6_readStall_75 : decode cX6_readStall 75 = .ok (.iconst 0, 1) := by decide +kernel
theorem dX6_readStall_76 : decode cX6_readStall 76 = .ok (.bipush 23, 2) := by decide +kernel
theorem dX6_readStall_78 : decode cX6_readStall 78 = .ok (.invokevirtual 145, 3) := by decide +kernel
theorem dX6_readStall_81 : decode cX6_readStall 81 = .ok (.iastore, 1) := by decide +kernel
theorem dX6_readStall_82 : decode cX6_readStall 82 = .ok (.aload_n 0, 1) := by decide +kernel
theorem dX6_readStall_83 : decode cX6_readStall 83 = .ok (.aload_n 0, 1) := by decide +kernel
theorem dX6_readStall_84 : decode cX6_readStall 84 = .ok (.invokevirtual 138, 3) := by decide +kernel
theorem dX6_readStall_87 : decode cX6_readStall 87 = .ok (.bipush 42, 2) := by decide +kernel
theorem dX6_readStall_89 : decode cX6_readStall 89 = .ok (.if_icmp .ne 7, 3) := by decide +kernel
theorem dX6_readStall_92 : decode cX6_readStall 92 = .ok (.iconst 1, 1) := by decide +kernel
theorem dX6_readStall_93 : decode cX6_readStall 93 = .ok (.goto 4, 3) := by decide +kernel
theorem dX6_readStall_96 : decode cX6_readStall 96 = .ok (.iconst 0, 1) := by decide +kernel
theorem dX6_readStall_97 : decode cX6_readStall 97 = .ok (.invokevirtual 141, 3) := by decide +kernel
theorem dX6_readStall_100 : decode cX6_readStall 100 = .ok (.aload_n 0, 1) := by decide +kernel
theorem dX6_readStall_101 : decode cX6_readStall 101 = .ok (.getfield 29, 3) := by decide +kernel
theorem dX6_readStall_104 : decode cX6_readStall 104 = .ok (.iload_n 1, 1) := by decide +kernel
theorem dX6_readStall_105 : decode cX6_readStall 105 = .ok (.iconst 4, 1) := by decide +kernel
theorem dX6_readStall_106 : decode cX6_readStall 106 = .ok (.iadd, 1) := by decide +kernel
theorem dX6_readStall_107 : decode cX6_readStall 107 = .ok (.aload_n 0, 1) := by decide +kernel
theorem dX6_readStall_108 : decode cX6_readStall 108 = .ok (.iconst 1, 1) := by decide +kernel
theorem dX6_readStall_109 : decode cX6_readStall 109 = .ok (.bipush 9, 2) := by decide +kernel
theorem dX6_readStall_111 : decode cX6_readStall 111 = .ok (.invokevirtual 145, 3) := by decide +kernel
theorem dX6_readStall_114 : decode cX6_readStall 114 = .ok (.iastore, 1) := by decide +kernel
theorem dX6_readStall_115 : decode cX6_readStall 115 = .ok (.return_, 1) := by decide +kernel
theorem dX6_readOrder_0 : decode cX6_readOrder 0 = .ok (.iconst 5, 1) := by decide +kernel
theorem dX6_readOrder_1 : decode cX6_readOrder 1 = .ok (.aload_n 0, 1) := by decide +kernel
theorem dX6_readOrder_2 : decode cX6_readOrder 2 = .ok (.getfield 148, 3) := by decide +kernel
theorem dX6_readOrder_5 : decode cX6_readOrder 5 = .ok (.imul, 1) := by decide +kernel
theorem dX6_readOrder_6 : decode cX6_readOrder 6 = .ok (.istore_n 1, 1) := by decide +kernel
theorem dX6_readOrder_7 : decode cX6_readOrder 7 = .ok (.aload_n 0, 1) := by decide +kernel
theorem dX6_readOrder_8 : decode cX6_readOrder 8 = .ok (.invokevirtual 138, 3) := by decide +kernel
theorem dX6_readOrder_11 : decode cX6_readOrder 11 = .ok (.istore_n 2, 1) := by decide +kernel
theorem dX6_readOrder_12 : decode cX6_readOrder 12 = .ok (.aload_n 0, 1) := by decide +kernel
theorem dX6_readOrder_13 : decode cX6_readOrder 13 = .ok (.getfield 29, 3) := by decide +kernel
theorem dX6_readOrder_16 : decode cX6_readOrder 16 = .ok (.iload_n 1, 1) := by decide +kernel
theorem dX6_readOrder_17 : decode cX6_readOrder 17 = .ok (.iload_n 2, 1) := by decide +kernel
theorem dX6_readOrder_18 : decode cX6_readOrder 18 = .ok (.iastore, 1) := by decide +kernel
theorem dX6_readOrder_19 : decode cX6_readOrder 19 = .ok (.aload_n 0, 1) := by decide +kernel
theorem dX6_readOrder_20 : decode cX6_readOrder 20 = .ok (.iload_n 2, 1) := by decide +kernel
theorem dX6_readOrder_21 : decode cX6_readOrder 21 = .ok (.bipush 115, 2) := by decide +kernel
theorem dX6_readOrder_23 : decode cX6_readOrder 23 = .ok (.if_icmp .eq 15, 3) := by decide +kernel
theorem dX6_readOrder_26 : decode cX6_readOrder 26 = .ok (.iload_n 2, 1) := by decide +kernel
theorem dX6_readOrder_27 : decode cX6_readOrder 27 = .ok (.bipush 112, 2) := by decide +kernel
theorem dX6_readOrder_29 : decode cX6_readOrder 29 = .ok (.if_icmp .eq 9, 3) := by decide +kernel
theorem dX6_readOrder_32 : decode cX6_readOrder 32 = .ok (.iload_n 2, 1) := by decide +kernel
theorem dX6_readOrder_33 : decode cX6_readOrder 33 = .ok (.bipush 104, 2) := by decide +kernel
theorem dX6_readOrder_35 : decode cX6_readOrder 35 = .ok (.if_icmp .ne 7, 3) := by decide +kernel
theorem dX6_readOrder_38 : decode cX6_readOrder 38 = .ok (.iconst 1, 1) := by decide +kernel
theorem dX6_readOrder_39 : decode cX6_readOrder 39 = .ok (.goto 4, 3) := by decide +kernel
theorem dX6_readOrder_42 : decode cX6_readOrder 42 = .ok (.iconst 0, 1) := by decide +kernel
theorem dX6_readOrder_43 : decode cX6_readOrder 43 = .ok (.invokevirtual 141, 3) := by decide +kernel
theorem dX6_readOrder_46 : decode cX6_readOrder 46 = .ok (.iload_n 2, 1) := by decide +kernel
theorem dX6_readOrder_47 : decode cX6_readOrder 47 = .ok (.bipush 115, 2) := by decide +kernel
theorem dX6_readOrder_49 : decode cX6_readOrder 49 = .ok (.if_icmp .ne 11, 3) := by decide +kernel
theorem dX6_readOrder_52 : decode cX6_readOrder 52 = .ok (.aload_n 0, 1) := by decide +kernel
theorem dX6_readOrder_53 : decode cX6_readOrder 53 = .ok (.iload_n 1, 1) := by decide +kernel
theorem dX6_readOrder_54 : decode cX6_readOrder 54 = .ok (.invokevirtual 151, 3) := by decide +kernel
theorem dX6_readOrder_57 : decode cX6_readOrder 57 = .ok (.goto 75, 3) := by decide +kernel
theorem dX6_readOrder_60 : decode cX6_readOrder 60 = .ok (.iload_n 2, 1) := by decide +kernel
theorem dX6_readOrder_61 : decode cX6_readOrder 61 = .ok (.bipush 112, 2) := by decide +kernel
theorem dX6_readOrder_63 : decode cX6_readOrder 63 = .ok (.if_icmp .ne 54, 3) := by decide +kernel
theorem dX6_readOrder_66 : decode cX6_readOrder 66 = .ok (.aload_n 0, 1) := by decide +kernel
theorem dX6_readOrder_67 : decode cX6_readOrder 67 = .ok (.getfield 29, 3) := by decide +kernel
theorem dX6_readOrder_70 : decode cX6_readOrder 70 = .ok (.iload_n 1, 1) := by decide +kernel
theorem dX6_readOrder_71 : decode cX6_readOrder 71 = .ok (.iconst 1, 1) := by decide +kernel
theorem dX6_readOrder_72 : decode cX6_readOrder 72 = .ok (.iadd, 1) := by decide +kernel
theorem dX6_readOrder_73 : decode cX6_readOrder 73 = .ok (.aload_n 0, 1) := by decide +kernel
theorem dX6_readOrder_74 : decode cX6_readOrder 74 = .ok (.iconst 0, 1) := by decide +kernel
theorem dX6_readOrder_75 : decode cX6_readOrder 75 = .ok (.bipush 9, 2) := by decide +kernel
theorem dX6_readOrder_77 : decode cX6_readOrder 77 = .ok (.invokevirtual 145, 3) := by decide +kernel
theorem dX6_readOrder_80 : decode cX6_readOrder 80 = .ok (.iastore, 1) := by decide +kernel
theorem dX6_readOrder_81 : decode cX6_readOrder 81 = .ok (.aload_n 0, 1) := by decide +kernel
theorem dX6_readOrder_82 : decode cX6_readOrder 82 = .ok (.aload_n 0, 1) := by decide +kernel
theorem dX6_readOrder_83 : decode cX6_readOrder 83 = .ok (.invokevirtual 138, 3) := by decide +kernel
theorem dX6_readOrder_86 : decode cX6_readOrder 86 = .ok (.bipush 61, 2) := by decide +kernel
theorem dX6_readOrder_88 : decode cX6_readOrder 88 = .ok (.if_icmp .ne 7, 3) := by decide +kernel
theorem dX6_readOrder_91 : decode cX6_readOrder 91 = .ok (.iconst 1, 1) := by decide +kernel
theorem dX6_readOrder_92 : decode cX6_readOrder 92 = .ok (.goto 4, 3) := by decide +kernel
theorem dX6_readOrder_95 : decode cX6_readOrder 95 = .ok (.iconst 0, 1) := by decide +kernel
theorem dX6_readOrder_96 : decode cX6_readOrder 96 = .ok (.invokevirtual 141, 3) := by decide +kernel
theorem dX6_readOrder_99 : decode cX6_readOrder 99 = .ok (.aload_n 0, 1) := by decide +kernel
theorem dX6_readOrder_100 : decode cX6_readOrder 100 = .ok (.getfield 29, 3) := by decide +kernel
theorem dX6_readOrder_103 : decode cX6_readOrder 103 = .ok (.iload_n 1, 1) := by decide +kernel
theorem dX6_readOrder_104 : decode cX6_readOrder 104 = .ok (.iconst 2, 1) := by decide +kernel
theorem dX6_readOrder_105 : decode cX6_readOrder 105 = .ok (.iadd, 1) := by decide +kernel
theorem dX6_readOrder_106 : decode cX6_readOrder 106 = .ok (.aload_n 0, 1) := by decide +kernel
theorem dX6_readOrder_107 : decode cX6_readOrder 107 = .ok (.iconst 0, 1) := by decide +kernel
theorem dX6_readOrder_108 : decode cX6_readOrder 108 = .ok (.bipush 11, 2) := by decide +kernel
theorem dX6_readOrder_110 : decode cX6_readOrder 110 = .ok (.invokevirtual 145, 3) := by decide +kernel
theorem dX6_readOrder_113 : decode cX6_readOrder 113 = .ok (.iastore, 1) := by decide +kernel
theorem dX6_readOrder_114 : decode cX6_readOrder 114 = .ok (.goto 18, 3) := by decide +kernel
theorem dX6_readOrder_117 : decode cX6_readOrder 117 = .ok (.aload_n 0, 1) := by decide +kernel
theorem dX6_readOrder_118 : decode cX6_readOrder 118 = .ok (.getfield 29, 3) := by decide +kernel
theorem dX6_readOrder_121 : decode cX6_readOrder 121 = .ok (.iload_n 1, 1) := by decide +kernel
theorem dX6_readOrder_122 : decode cX6_readOrder 122 = .ok (.iconst 1, 1) := by decide +kernel
theorem dX6_readOrder_123 : decode cX6_readOrder 123 = .ok (.iadd, 1) := by decide +kernel
theorem dX6_readOrder_124 : decode cX6_readOrder 124 = .ok (.aload_n 0, 1) := by decide +kernel
theorem dX6_readOrder_125 : decode cX6_readOrder 125 = .ok (.iconst 1, 1) := by decide +kernel
theorem dX6_readOrder_126 : decode cX6_readOrder 126 = .ok (.bipush 48, 2) := by decide +kernel
theorem dX6_readOrder_128 : decode cX6_readOrder 128 = .ok (.invokevirtual 145, 3) := by decide +kernel
theorem dX6_readOrder_131 : decode cX6_readOrder 131 = .ok (.iastore, 1) := by decide +kernel
theorem dX6_readOrder_132 : decode cX6_readOrder 132 = .ok (.aload_n 0, 1) := by decide +kernel
theorem dX6_readOrder_133 : decode cX6_readOrder 133 = .ok (.dup, 1) := by decide +kernel
theorem dX6_readOrder_134 : decode cX6_readOrder 134 = .ok (.getfield 148, 3) := by decide +kernel
theorem dX6_readOrder_137 : decode cX6_readOrder 137 = .ok (.iconst 1, 1) := by decide +kernel
theorem dX6_readOrder_138 : decode cX6_readOrder 138 = .ok (.iadd, 1) := by decide +kernel
theorem dX6_readOrder_139 : decode cX6_readOrder 139 = .ok (.putfield 148, 3) := by decide +kernel
theorem dX6_readOrder_142 : decode cX6_readOrder 142 = .ok (.return_, 1) := by decide +kernel
theorem dX6_readBuffer_0 : decode cX6_readBuffer 0 = .ok (.aload_n 0, 1) := by decide +kernel
theorem dX6_readBuffer_1 : decode cX6_readBuffer 1 = .ok (.iconst 0, 1) := by decide +kernel
theorem dX6_readBuffer_2 : decode cX6_readBuffer 2 = .ok (.putfield 148, 3) := by decide +kernel
theorem dX6_readBuffer_5 : decode cX6_readBuffer 5 = .ok (.aload_n 0, 1) := by decide +kernel
theorem dX6_readBuffer_6 : decode cX6_readBuffer 6 = .ok (.iconst 0, 1) := by decide +kernel
theorem dX6_readBuffer_7 : decode cX6_readBuffer 7 = .ok (.putfield 132, 3) := by decide +kernel
theorem dX6_readBuffer_10 : decode cX6_readBuffer 10 = .ok (.aload_n 0, 1) := by decide +kernel
theorem dX6_readBuffer_11 : decode cX6_readBuffer 11 = .ok (.iconst (-1), 1) := by decide +kernel
theorem dX6_readBuffer_12 : decode cX6_readBuffer 12 = .ok (.putfield 135, 3) := by decide +kernel
theorem dX6_readBuffer_15 : decode cX6_readBuffer 15 = .ok (.iconst 1, 1) := by decide +kernel
theorem dX6_readBuffer_16 : decode cX6_readBuffer 16 = .ok (.istore_n 1, 1) := by decide +kernel
theorem dX6_readBuffer_17 : decode cX6_readBuffer 17 = .ok (.iload_n 1, 1) := by decide +kernel
theorem dX6_readBuffer_18 : decode cX6_readBuffer 18 = .ok (.ifCond .eq 71, 3) := by decide +kernel
theorem dX6_readBuffer_21 : decode cX6_readBuffer 21 = .ok (.aload_n 0, 1) := by decide +kernel
theorem dX6_readBuffer_22 : decode cX6_readBuffer 22 = .ok (.invokevirtual 154, 3) := by decide +kernel
theorem dX6_readBuffer_25 : decode cX6_readBuffer 25 = .ok (.aload_n 0, 1) := by decide +kernel
theorem dX6_readBuffer_26 : decode cX6_readBuffer 26 = .ok (.getfield 135, 3) := by decide +kernel
theorem dX6_readBuffer_29 : decode cX6_readBuffer 29 = .ok (.iconst (-1), 1) := by decide +kernel
theorem dX6_readBuffer_30 : decode cX6_readBuffer 30 = .ok (.if_icmp .ne 18, 3) := by decide +kernel
theorem dX6_readBuffer_33 : decode cX6_readBuffer 33 = .ok (.aload_n 0, 1) := by decide +kernel
theorem dX6_readBuffer_34 : decode cX6_readBuffer 34 = .ok (.getfield 132, 3) := by decide +kernel
theorem dX6_readBuffer_37 : decode cX6_readBuffer 37 = .ok (.aload_n 0, 1) := by decide +kernel
theorem dX6_readBuffer_38 : decode cX6_readBuffer 38 = .ok (.getfield 129, 3) := by decide +kernel
theorem dX6_readBuffer_41 : decode cX6_readBuffer 41 = .ok (.if_icmp .ge 7, 3) := by decide +kernel
theorem dX6_readBuffer_44 : decode cX6_readBuffer 44 = .ok (.iconst 1, 1) := by decide +kernel
theorem dX6_readBuffer_45 : decode cX6_readBuffer 45 = .ok (.goto 4, 3) := by decide +kernel
theorem dX6_readBuffer_48 : decode cX6_readBuffer 48 = .ok (.iconst 0, 1) := by decide +kernel
theorem dX6_readBuffer_49 : decode cX6_readBuffer 49 = .ok (.istore_n 1, 1) := by decide +kernel
theorem dX6_readBuffer_50 : decode cX6_readBuffer 50 = .ok (.iload_n 1, 1) := by decide +kernel
theorem dX6_readBuffer_51 : decode cX6_readBuffer 51 = .ok (.ifCond .eq (-34), 3) := by decide +kernel
theorem dX6_readBuffer_54 : decode cX6_readBuffer 54 = .ok (.aload_n 0, 1) := by decide +kernel
theorem dX6_readBuffer_55 : decode cX6_readBuffer 55 = .ok (.aload_n 0, 1) := by decide +kernel
theorem dX6_readBuffer_56 : decode cX6_readBuffer 56 = .ok (.invokevirtual 138, 3) := by decide +kernel
theorem dX6_readBuffer_59 : decode cX6_readBuffer 59 = .ok (.bipush 59, 2) := by decide +kernel
theorem dX6_readBuffer_61 : decode cX6_readBuffer 61 = .ok (.if_icmp .ne 7, 3) := by decide +kernel
theorem dX6_readBuffer_64 : decode cX6_readBuffer 64 = .ok (.iconst 1, 1) := by decide +kernel
theorem dX6_readBuffer_65 : decode cX6_readBuffer 65 = .ok (.goto 4, 3) := by decide +kernel
theorem dX6_readBuffer_68 : decode cX6_readBuffer 68 = .ok (.iconst 0, 1) := by decide +kernel
theorem dX6_readBuffer_69 : decode cX6_readBuffer 69 = .ok (.invokevirtual 141, 3) := by decide +kernel
theorem dX6_readBuffer_72 : decode cX6_readBuffer 72 = .ok (.aload_n 0, 1) := by decide +kernel
theorem dX6_readBuffer_73 : decode cX6_readBuffer 73 = .ok (.getfield 135, 3) := by decide +kernel
theorem dX6_readBuffer_76 : decode cX6_readBuffer 76 = .ok (.iconst (-1), 1) := by decide +kernel
theorem dX6_readBuffer_77 : decode cX6_readBuffer 77 = .ok (.if_icmp .ne 7, 3) := by decide +kernel
theorem dX6_readBuffer_80 : decode cX6_readBuffer 80 = .ok (.iconst 1, 1) := by decide +kernel
theorem dX6_readBuffer_81 : decode cX6_readBuffer 81 = .ok (.goto 4, 3) := by decide +kernel
theorem dX6_readBuffer_84 : decode cX6_readBuffer 84 = .ok (.iconst 0, 1) := by decide +kernel
theorem dX6_readBuffer_85 : decode cX6_readBuffer 85 = .ok (.istore_n 1, 1) := by decide +kernel
theorem dX6_readBuffer_86 : decode cX6_readBuffer 86 = .ok (.goto (-69), 3) := by decide +kernel
theorem dX6_readBuffer_89 : decode cX6_readBuffer 89 = .ok (.aload_n 0, 1) := by decide +kernel
theorem dX6_readBuffer_90 : decode cX6_readBuffer 90 = .ok (.getfield 135, 3) := by decide +kernel
theorem dX6_readBuffer_93 : decode cX6_readBuffer 93 = .ok (.ireturn, 1) := by decide +kernel
theorem dX6_firstError_0 : decode cX6_firstError 0 = .ok (.aload_n 0, 1) := by decide +kernel
theorem dX6_firstError_1 : decode cX6_firstError 1 = .ok (.iconst 0, 1) := by decide +kernel
theorem dX6_firstError_2 : decode cX6_firstError 2 = .ok (.putfield 36, 3) := by decide +kernel
theorem dX6_firstError_5 : decode cX6_firstError 5 = .ok (.aload_n 0, 1) := by decide +kernel
theorem dX6_firstError_6 : decode cX6_firstError 6 = .ok (.invokevirtual 157, 3) := by decide +kernel
theorem dX6_firstError_9 : decode cX6_firstError 9 = .ok (.istore_n 1, 1) := by decide +kernel
theorem dX6_firstError_10 : decode cX6_firstError 10 = .ok (.iload_n 1, 1) := by decide +kernel
theorem dX6_firstError_11 : decode cX6_firstError 11 = .ok (.iconst (-1), 1) := by decide +kernel
theorem dX6_firstError_12 : decode cX6_firstError 12 = .ok (.if_icmp .ne 10, 3) := by decide +kernel
theorem dX6_firstError_15 : decode cX6_firstError 15 = .ok (.aload_n 0, 1) := by decide +kernel
theorem dX6_firstError_16 : decode cX6_firstError 16 = .ok (.getfield 129, 3) := by decide +kernel
theorem dX6_firstError_19 : decode cX6_firstError 19 = .ok (.goto 4, 3) := by decide +kernel
theorem dX6_firstError_22 : decode cX6_firstError 22 = .ok (.iload_n 1, 1) := by decide +kernel
theorem dX6_firstError_23 : decode cX6_firstError 23 = .ok (.ireturn, 1) := by decide +kernel
theorem dX6_does_0 : decode cX6_does 0 = .ok (.aload_n 0, 1) := by decide +kernel
theorem dX6_does_1 : decode cX6_does 1 = .ok (.getfield 29, 3) := by decide +kernel
theorem dX6_does_4 : decode cX6_does 4 = .ok (.iload_n 1, 1) := by decide +kernel
theorem dX6_does_5 : decode cX6_does 5 = .ok (.iaload, 1) := by decide +kernel
theorem dX6_does_6 : decode cX6_does 6 = .ok (.istore_n 2, 1) := by decide +kernel
theorem dX6_does_7 : decode cX6_does 7 = .ok (.aload_n 0, 1) := by decide +kernel
theorem dX6_does_8 : decode cX6_does 8 = .ok (.getfield 29, 3) := by decide +kernel
theorem dX6_does_11 : decode cX6_does 11 = .ok (.iload_n 1, 1) := by decide +kernel
theorem dX6_does_12 : decode cX6_does 12 = .ok (.iconst 1, 1) := by decide +kernel
theorem dX6_does_13 : decode cX6_does 13 = .ok (.iadd, 1) := by decide +kernel
theorem dX6_does_14 : decode cX6_does 14 = .ok (.iaload, 1) := by decide +kernel
theorem dX6_does_15 : decode cX6_does 15 = .ok (.istore_n 3, 1) := by decide +kernel
theorem dX6_does_16 : decode cX6_does 16 = .ok (.aload_n 0, 1) := by decide +kernel
theorem dX6_does_17 : decode cX6_does 17 = .ok (.getfield 29, 3) := by decide +kernel
theorem dX6_does_20 : decode cX6_does 20 = .ok (.iload_n 1, 1) := by decide +kernel
theorem dX6_does_21 : decode cX6_does 21 = .ok (.iconst 2, 1) := by decide +kernel
theorem dX6_does_22 : decode cX6_does 22 = .ok (.iadd, 1) := by decide +kernel
theorem dX6_does_23 : decode cX6_does 23 = .ok (.iaload, 1) := by decide +kernel
theorem dX6_does_24 : decode cX6_does 24 = .ok (.istore 4, 2) := by decide +kernel
theorem dX6_does_26 : decode cX6_does 26 = .ok (.iload_n 2, 1) := by decide +kernel
theorem dX6_does_27 : decode cX6_does 27 = .ok (.bipush 115, 2) := by decide +kernel
theorem dX6_does_29 : decode cX6_does 29 = .ok (.if_icmp .ne 22, 3) := by decide +kernel
theorem dX6_does_32 : decode cX6_does 32 = .ok (.aload_n 0, 1) := by decide +kernel
theorem dX6_does_33 : decode cX6_does 33 = .ok (.getfield 7, 3) := by decide +kernel
theorem dX6_does_36 : decode cX6_does 36 = .ok (.iconst 4, 1) := by decide +kernel
theorem dX6_does_37 : decode cX6_does 37 = .ok (.iaload, 1) := by decide +kernel
theorem dX6_does_38 : decode cX6_does 38 = .ok (.bipush 10, 2) := by decide +kernel
theorem dX6_does_40 : decode cX6_does 40 = .ok (.if_icmp .ge 7, 3) := by decide +kernel
theorem dX6_does_43 : decode cX6_does 43 = .ok (.iconst 1, 1) := by decide +kernel
theorem dX6_does_44 : decode cX6_does 44 = .ok (.goto 50, 3) := by decide +kernel
theorem dX6_does_47 : decode cX6_does 47 = .ok (.iconst 0, 1) := by decide +kernel
theorem dX6_does_48 : decode cX6_does 48 = .ok (.goto 46, 3) := by decide +kernel
theorem dX6_does_51 : decode cX6_does 51 = .ok (.iload_n 2, 1) := by decide +kernel
theorem dX6_does_52 : decode cX6_does 52 = .ok (.bipush 112, 2) := by decide +kernel
theorem dX6_does_54 : decode cX6_does 54 = .ok (.if_icmp .ne 21, 3) := by decide +kernel
theorem dX6_does_57 : decode cX6_does 57 = .ok (.aload_n 0, 1) := by decide +kernel
theorem dX6_does_58 : decode cX6_does 58 = .ok (.iload_n 3, 1) := by decide +kernel
theorem dX6_does_59 : decode cX6_does 59 = .ok (.iload 4, 2) := by decide +kernel
theorem dX6_does_61 : decode cX6_does 61 = .ok (.invokevirtual 111, 3) := by decide +kernel
theorem dX6_does_64 : decode cX6_does 64 = .ok (.ifCond .ne 7, 3) := by decide +kernel
theorem dX6_does_67 : decode cX6_does 67 = .ok (.iconst 1, 1) := by decide +kernel
theorem dX6_does_68 : decode cX6_does 68 = .ok (.goto 26, 3) := by decide +kernel
theorem dX6_does_71 : decode cX6_does 71 = .ok (.iconst 0, 1) := by decide +kernel
theorem dX6_does_72 : decode cX6_does 72 = .ok (.goto 22, 3) := by decide +kernel
theorem dX6_does_75 : decode cX6_does 75 = .ok (.aload_n 0, 1) := by decide +kernel
theorem dX6_does_76 : decode cX6_does 76 = .ok (.getfield 7, 3) := by decide +kernel
theorem dX6_does_79 : decode cX6_does 79 = .ok (.iconst 3, 1) := by decide +kernel
theorem dX6_does_80 : decode cX6_does 80 = .ok (.iaload, 1) := by decide +kernel
theorem dX6_does_81 : decode cX6_does 81 = .ok (.iload_n 3, 1) := by decide +kernel
theorem dX6_does_82 : decode cX6_does 82 = .ok (.iadd, 1) := by decide +kernel
theorem dX6_does_83 : decode cX6_does 83 = .ok (.sipush 9999, 3) := by decide +kernel
theorem dX6_does_86 : decode cX6_does 86 = .ok (.if_icmp .gt 7, 3) := by decide +kernel
theorem dX6_does_89 : decode cX6_does 89 = .ok (.iconst 1, 1) := by decide +kernel
theorem dX6_does_90 : decode cX6_does 90 = .ok (.goto 4, 3) := by decide +kernel
theorem dX6_does_93 : decode cX6_does 93 = .ok (.iconst 0, 1) := by decide +kernel
theorem dX6_does_94 : decode cX6_does 94 = .ok (.istore 5, 2) := by decide +kernel
theorem dX6_does_96 : decode cX6_does 96 = .ok (.iload 5, 2) := by decide +kernel
theorem dX6_does_98 : decode cX6_does 98 = .ok (.ifCond .eq 36, 3) := by decide +kernel
theorem dX6_does_101 : decode cX6_does 101 = .ok (.iload_n 2, 1) := by decide +kernel
theorem dX6_does_102 : decode cX6_does 102 = .ok (.bipush 115, 2) := by decide +kernel
theorem dX6_does_104 : decode cX6_does 104 = .ok (.if_icmp .ne 30, 3) := by decide +kernel
theorem dX6_does_107 : decode cX6_does 107 = .ok (.aload_n 0, 1) := by decide +kernel
theorem dX6_does_108 : decode cX6_does 108 = .ok (.iload_n 3, 1) := by decide +kernel
theorem dX6_does_109 : decode cX6_does 109 = .ok (.iload 4, 2) := by decide +kernel
theorem dX6_does_111 : decode cX6_does 111 = .ok (.aload_n 0, 1) := by decide +kernel
theorem dX6_does_112 : decode cX6_does 112 = .ok (.getfield 29, 3) := by decide +kernel
theorem dX6_does_115 : decode cX6_does 115 = .ok (.iload_n 1, 1) := by decide +kernel
theorem dX6_does_116 : decode cX6_does 116 = .ok (.iconst 3, 1) := by decide +kernel
theorem dX6_does_117 : decode cX6_does 117 = .ok (.iadd, 1) := by decide +kernel
theorem dX6_does_118 : decode cX6_does 118 = .ok (.iaload, 1) := by decide +kernel
theorem dX6_does_119 : decode cX6_does 119 = .ok (.aload_n 0, 1) := by decide +kernel
theorem dX6_does_120 : decode cX6_does 120 = .ok (.getfield 29, 3) := by decide +kernel
theorem dX6_does_123 : decode cX6_does 123 = .ok (.iload_n 1, 1) := by decide +kernel
theorem dX6_does_124 : decode cX6_does 124 = .ok (.iconst 4, 1) := by decide +kernel
theorem dX6_does_125 : decode cX6_does 125 = .ok (.iadd, 1) := by decide +kernel
theorem dX6_does_126 : decode cX6_does 126 = .ok (.iaload, 1) := by decide +kernel
theorem dX6_does_127 : decode cX6_does 127 = .ok (.invokevirtual 98, 3) := by decide +kernel
theorem dX6_does_130 : decode cX6_does 130 = .ok (.pop, 1) := by decide +kernel
theorem dX6_does_131 : decode cX6_does 131 = .ok (.goto 36, 3) := by decide +kernel
theorem dX6_does_134 : decode cX6_does 134 = .ok (.iload 5, 2) := by decide +kernel
theorem dX6_does_136 : decode cX6_does 136 = .ok (.ifCond .eq 20, 3) := by decide +kernel
theorem dX6_does_139 : decode cX6_does 139 = .ok (.iload_n 2, 1) := by decide +kernel
theorem dX6_does_140 : decode cX6_does 140 = .ok (.bipush 112, 2) := by decide +kernel
theorem dX6_does_142 : decode cX6_does 142 = .ok (.if_icmp .ne 14, 3) := by decide +kernel
theorem dX6_does_145 : decode cX6_does 145 = .ok (.aload_n 0, 1) := by decide +kernel
theorem dX6_does_146 : decode cX6_does 146 = .ok (.iload_n 3, 1) := by decide +kernel
theorem dX6_does_147 : decode cX6_does 147 = .ok (.iconst 4, 1) := by decide +kernel
theorem dX6_does_148 : decode cX6_does 148 = .ok (.iload 4, 2) := by decide +kernel
theorem dX6_does_150 : decode cX6_does 150 = .ok (.invokevirtual 78, 3) := by decide +kernel
theorem dX6_does_153 : decode cX6_does 153 = .ok (.goto 14, 3) := by decide +kernel
theorem dX6_does_156 : decode cX6_does 156 = .ok (.iload 5, 2) := by decide +kernel
theorem dX6_does_158 : decode cX6_does 158 = .ok (.ifCond .eq 9, 3) := by decide +kernel
theorem dX6_does_161 : decode cX6_does 161 = .ok (.aload_n 0, 1) := by decide +kernel
theorem dX6_does_162 : decode cX6_does 162 = .ok (.iload_n 3, 1) := by decide +kernel
theorem dX6_does_163 : decode cX6_does 163 = .ok (.invokevirtual 123, 3) := by decide +kernel
theorem dX6_does_166 : decode cX6_does 166 = .ok (.pop, 1) := by decide +kernel
theorem dX6_does_167 : decode cX6_does 167 = .ok (.iload 5, 2) := by decide +kernel
theorem dX6_does_169 : decode cX6_does 169 = .ok (.ireturn, 1) := by decide +kernel
theorem dX6_open_0 : decode cX6_open 0 = .ok (.aload_n 0, 1) := by decide +kernel
theorem dX6_open_1 : decode cX6_open 1 = .ok (.aload_n 0, 1) := by decide +kernel
theorem dX6_open_2 : decode cX6_open 2 = .ok (.invokevirtual 157, 3) := by decide +kernel
theorem dX6_open_5 : decode cX6_open 5 = .ok (.iconst (-1), 1) := by decide +kernel
theorem dX6_open_6 : decode cX6_open 6 = .ok (.if_icmp .ne 7, 3) := by decide +kernel
theorem dX6_open_9 : decode cX6_open 9 = .ok (.iconst 0, 1) := by decide +kernel
theorem dX6_open_10 : decode cX6_open 10 = .ok (.goto 4, 3) := by decide +kernel
theorem dX6_open_13 : decode cX6_open 13 = .ok (.iconst 1, 1) := by decide +kernel
theorem dX6_open_14 : decode cX6_open 14 = .ok (.putfield 36, 3) := by decide +kernel
theorem dX6_open_17 : decode cX6_open 17 = .ok (.aload_n 0, 1) := by decide +kernel
theorem dX6_open_18 : decode cX6_open 18 = .ok (.getfield 36, 3) := by decide +kernel
theorem dX6_open_21 : decode cX6_open 21 = .ok (.ifCond .le 5, 3) := by decide +kernel
theorem dX6_open_24 : decode cX6_open 24 = .ok (.iconst 0, 1) := by decide +kernel
theorem dX6_open_25 : decode cX6_open 25 = .ok (.ireturn, 1) := by decide +kernel
theorem dX6_open_26 : decode cX6_open 26 = .ok (.aload_n 0, 1) := by decide +kernel
theorem dX6_open_27 : decode cX6_open 27 = .ok (.invokevirtual 95, 3) := by decide +kernel
theorem dX6_open_30 : decode cX6_open 30 = .ok (.iconst 0, 1) := by decide +kernel
theorem dX6_open_31 : decode cX6_open 31 = .ok (.istore_n 1, 1) := by decide +kernel
theorem dX6_open_32 : decode cX6_open 32 = .ok (.iload_n 1, 1) := by decide +kernel
theorem dX6_open_33 : decode cX6_open 33 = .ok (.aload_n 0, 1) := by decide +kernel
theorem dX6_open_34 : decode cX6_open 34 = .ok (.getfield 148, 3) := by decide +kernel
theorem dX6_open_37 : decode cX6_open 37 = .ok (.if_icmp .ge 19, 3) := by decide +kernel
theorem dX6_open_40 : decode cX6_open 40 = .ok (.aload_n 0, 1) := by decide +kernel
theorem dX6_open_41 : decode cX6_open 41 = .ok (.iconst 5, 1) := by decide +kernel
theorem dX6_open_42 : decode cX6_open 42 = .ok (.iload_n 1, 1) := by decide +kernel
theorem dX6_open_43 : decode cX6_open 43 = .ok (.imul, 1) := by decide +kernel
theorem dX6_open_44 : decode cX6_open 44 = .ok (.invokevirtual 160, 3) := by decide +kernel
theorem dX6_open_47 : decode cX6_open 47 = .ok (.ifCond .eq 9, 3) := by decide +kernel
theorem dX6_open_50 : decode cX6_open 50 = .ok (.iinc 1 1, 3) := by decide +kernel
theorem dX6_open_53 : decode cX6_open 53 = .ok (.goto (-21), 3) := by decide +kernel
theorem dX6_open_56 : decode cX6_open 56 = .ok (.aload_n 0, 1) := by decide +kernel
theorem dX6_open_57 : decode cX6_open 57 = .ok (.iconst 0, 1) := by decide +kernel
theorem dX6_open_58 : decode cX6_open 58 = .ok (.putfield 129, 3) := by decide +kernel
theorem dX6_open_61 : decode cX6_open 61 = .ok (.iload_n 1, 1) := by decide +kernel
theorem dX6_open_62 : decode cX6_open 62 = .ok (.ireturn, 1) := by decide +kernel
theorem dX6_keep_0 : decode cX6_keep 0 = .ok (.aload_n 0, 1) := by decide +kernel
theorem dX6_keep_1 : decode cX6_keep 1 = .ok (.iload_n 1, 1) := by decide +kernel
theorem dX6_keep_2 : decode cX6_keep 2 = .ok (.iconst 0, 1) := by decide +kernel
theorem dX6_keep_3 : decode cX6_keep 3 = .ok (.iconst 1, 1) := by decide +kernel
theorem dX6_keep_4 : decode cX6_keep 4 = .ok (.invokestatic 40, 3) := by decide +kernel
theorem dX6_keep_7 : decode cX6_keep 7 = .ok (.ifCond .eq 7, 3) := by decide +kernel
theorem dX6_keep_10 : decode cX6_keep 10 = .ok (.iconst 0, 1) := by decide +kernel
theorem dX6_keep_11 : decode cX6_keep 11 = .ok (.goto 4, 3) := by decide +kernel
theorem dX6_keep_14 : decode cX6_keep 14 = .ok (.iconst 1, 1) := by decide +kernel
theorem dX6_keep_15 : decode cX6_keep 15 = .ok (.putfield 36, 3) := by decide +kernel
theorem dX6_keep_18 : decode cX6_keep 18 = .ok (.aload_n 0, 1) := by decide +kernel
theorem dX6_keep_19 : decode cX6_keep 19 = .ok (.getfield 36, 3) := by decide +kernel
theorem dX6_keep_22 : decode cX6_keep 22 = .ok (.ifCond .le 5, 3) := by decide +kernel
theorem dX6_keep_25 : decode cX6_keep 25 = .ok (.iconst 0, 1) := by decide +kernel
theorem dX6_keep_26 : decode cX6_keep 26 = .ok (.ireturn, 1) := by decide +kernel
theorem dX6_keep_27 : decode cX6_keep 27 = .ok (.aload_n 0, 1) := by decide +kernel
theorem dX6_keep_28 : decode cX6_keep 28 = .ok (.getfield 19, 3) := by decide +kernel
theorem dX6_keep_31 : decode cX6_keep 31 = .ok (.iload_n 1, 1) := by decide +kernel
theorem dX6_keep_32 : decode cX6_keep 32 = .ok (.iconst 1, 1) := by decide +kernel
theorem dX6_keep_33 : decode cX6_keep 33 = .ok (.bastore, 1) := by decide +kernel
theorem dX6_keep_34 : decode cX6_keep 34 = .ok (.iconst 0, 1) := by decide +kernel
theorem dX6_keep_35 : decode cX6_keep 35 = .ok (.istore_n 2, 1) := by decide +kernel
theorem dX6_keep_36 : decode cX6_keep 36 = .ok (.iload_n 2, 1) := by decide +kernel
theorem dX6_keep_37 : decode cX6_keep 37 = .ok (.bipush 119, 2) := by decide +kernel
theorem dX6_keep_39 : decode cX6_keep 39 = .ok (.if_icmp .ge 26, 3) := by decide +kernel
theorem dX6_keep_42 : decode cX6_keep 42 = .ok (.aload_n 0, 1) := by decide +kernel
theorem dX6_keep_43 : decode cX6_keep 43 = .ok (.getfield 16, 3) := by decide +kernel
theorem dX6_keep_46 : decode cX6_keep 46 = .ok (.iload_n 1, 1) := by decide +kernel
theorem dX6_keep_47 : decode cX6_keep 47 = .ok (.bipush 119, 2) := by decide +kernel
theorem dX6_keep_49 : decode cX6_keep 49 = .ok (.imul, 1) := by decide +kernel
theorem dX6_keep_50 : decode cX6_keep 50 = .ok (.iload_n 2, 1) := by decide +kernel
theorem dX6_keep_51 : decode cX6_keep 51 = .ok (.iadd, 1) := by decide +kernel
theorem dX6_keep_52 : decode cX6_keep 52 = .ok (.aload_n 0, 1) := by decide +kernel
theorem dX6_keep_53 : decode cX6_keep 53 = .ok (.getfield 7, 3) := by decide +kernel
theorem dX6_keep_56 : decode cX6_keep 56 = .ok (.iload_n 2, 1) := by decide +kernel
theorem dX6_keep_57 : decode cX6_keep 57 = .ok (.iaload, 1) := by decide +kernel
theorem dX6_keep_58 : decode cX6_keep 58 = .ok (.iastore, 1) := by decide +kernel
theorem dX6_keep_59 : decode cX6_keep 59 = .ok (.iinc 2 1, 3) := by decide +kernel
theorem dX6_keep_62 : decode cX6_keep 62 = .ok (.goto (-26), 3) := by decide +kernel
theorem dX6_keep_65 : decode cX6_keep 65 = .ok (.aload_n 0, 1) := by decide +kernel
theorem dX6_keep_66 : decode cX6_keep 66 = .ok (.getfield 7, 3) := by decide +kernel
theorem dX6_keep_69 : decode cX6_keep 69 = .ok (.iconst 3, 1) := by decide +kernel
theorem dX6_keep_70 : decode cX6_keep 70 = .ok (.iaload, 1) := by decide +kernel
theorem dX6_keep_71 : decode cX6_keep 71 = .ok (.ireturn, 1) := by decide +kernel
theorem dX6_goBack_0 : decode cX6_goBack 0 = .ok (.iload_n 1, 1) := by decide +kernel
theorem dX6_goBack_1 : decode cX6_goBack 1 = .ok (.iconst 0, 1) := by decide +kernel
theorem dX6_goBack_2 : decode cX6_goBack 2 = .ok (.iconst 1, 1) := by decide +kernel
theorem dX6_goBack_3 : decode cX6_goBack 3 = .ok (.invokestatic 40, 3) := by decide +kernel
theorem dX6_goBack_6 : decode cX6_goBack 6 = .ok (.ifCond .ne 10, 3) := by decide +kernel
theorem dX6_goBack_9 : decode cX6_goBack 9 = .ok (.aload_n 0, 1) := by decide +kernel
theorem dX6_goBack_10 : decode cX6_goBack 10 = .ok (.iconst 1, 1) := by decide +kernel
theorem dX6_goBack_11 : decode cX6_goBack 11 = .ok (.putfield 36, 3) := by decide +kernel
theorem dX6_goBack_14 : decode cX6_goBack 14 = .ok (.iconst 0, 1) := by decide +kernel
theorem dX6_goBack_15 : decode cX6_goBack 15 = .ok (.ireturn, 1) := by decide +kernel
theorem dX6_goBack_16 : decode cX6_goBack 16 = .ok (.aload_n 0, 1) := by decide +kernel
theorem dX6_goBack_17 : decode cX6_goBack 17 = .ok (.aload_n 0, 1) := by decide +kernel
theorem dX6_goBack_18 : decode cX6_goBack 18 = .ok (.getfield 19, 3) := by decide +kernel
theorem dX6_goBack_21 : decode cX6_goBack 21 = .ok (.iload_n 1, 1) := by decide +kernel
theorem dX6_goBack_22 : decode cX6_goBack 22 = .ok (.baload, 1) := by decide +kernel
theorem dX6_goBack_23 : decode cX6_goBack 23 = .ok (.ifCond .eq 7, 3) := by decide +kernel
theorem dX6_goBack_26 : decode cX6_goBack 26 = .ok (.iconst 0, 1) := by decide +kernel
theorem dX6_goBack_27 : decode cX6_goBack 27 = .ok (.goto 4, 3) := by decide +kernel
theorem dX6_goBack_30 : decode cX6_goBack 30 = .ok (.iconst 2, 1) := by decide +kernel
theorem dX6_goBack_31 : decode cX6_goBack 31 = .ok (.putfield 36, 3) := by decide +kernel
theorem dX6_goBack_34 : decode cX6_goBack 34 = .ok (.aload_n 0, 1) := by decide +kernel
theorem dX6_goBack_35 : decode cX6_goBack 35 = .ok (.getfield 36, 3) := by decide +kernel
theorem dX6_goBack_38 : decode cX6_goBack 38 = .ok (.ifCond .le 5, 3) := by decide +kernel
theorem dX6_goBack_41 : decode cX6_goBack 41 = .ok (.iconst 0, 1) := by decide +kernel
theorem dX6_goBack_42 : decode cX6_goBack 42 = .ok (.ireturn, 1) := by decide +kernel
theorem dX6_goBack_43 : decode cX6_goBack 43 = .ok (.aload_n 0, 1) := by decide +kernel
theorem dX6_goBack_44 : decode cX6_goBack 44 = .ok (.invokevirtual 95, 3) := by decide +kernel
theorem dX6_goBack_47 : decode cX6_goBack 47 = .ok (.iconst 0, 1) := by decide +kernel
theorem dX6_goBack_48 : decode cX6_goBack 48 = .ok (.istore_n 2, 1) := by decide +kernel
theorem dX6_goBack_49 : decode cX6_goBack 49 = .ok (.iload_n 2, 1) := by decide +kernel
theorem dX6_goBack_50 : decode cX6_goBack 50 = .ok (.bipush 119, 2) := by decide +kernel
theorem dX6_goBack_52 : decode cX6_goBack 52 = .ok (.if_icmp .ge 26, 3) := by decide +kernel
theorem dX6_goBack_55 : decode cX6_goBack 55 = .ok (.aload_n 0, 1) := by decide +kernel
theorem dX6_goBack_56 : decode cX6_goBack 56 = .ok (.getfield 7, 3) := by decide +kernel
theorem dX6_goBack_59 : decode cX6_goBack 59 = .ok (.iload_n 2, 1) := by decide +kernel
theorem dX6_goBack_60 : decode cX6_goBack 60 = .ok (.aload_n 0, 1) := by decide +kernel
theorem dX6_goBack_61 : decode cX6_goBack 61 = .ok (.getfield 16, 3) := by decide +kernel
theorem dX6_goBack_64 : decode cX6_goBack 64 = .ok (.iload_n 1, 1) := by decide +kernel
theorem dX6_goBack_65 : decode cX6_goBack 65 = .ok (.bipush 119, 2) := by decide +kernel
theorem dX6_goBack_67 : decode cX6_goBack 67 = .ok (.imul, 1) := by decide +kernel
theorem dX6_goBack_68 : decode cX6_goBack 68 = .ok (.iload_n 2, 1) := by decide +kernel
theorem dX6_goBack_69 : decode cX6_goBack 69 = .ok (.iadd, 1) := by decide +kernel
theorem dX6_goBack_70 : decode cX6_goBack 70 = .ok (.iaload, 1) := by decide +kernel
theorem dX6_goBack_71 : decode cX6_goBack 71 = .ok (.iastore, 1) := by decide +kernel
theorem dX6_goBack_72 : decode cX6_goBack 72 = .ok (.iinc 2 1, 3) := by decide +kernel
theorem dX6_goBack_75 : decode cX6_goBack 75 = .ok (.goto (-26), 3) := by decide +kernel
theorem dX6_goBack_78 : decode cX6_goBack 78 = .ok (.aload_n 0, 1) := by decide +kernel
theorem dX6_goBack_79 : decode cX6_goBack 79 = .ok (.getfield 7, 3) := by decide +kernel
theorem dX6_goBack_82 : decode cX6_goBack 82 = .ok (.iconst 3, 1) := by decide +kernel
theorem dX6_goBack_83 : decode cX6_goBack 83 = .ok (.iaload, 1) := by decide +kernel
theorem dX6_goBack_84 : decode cX6_goBack 84 = .ok (.ireturn, 1) := by decide +kernel
theorem dX6_fee_0 : decode cX6_fee 0 = .ok (.aload_n 0, 1) := by decide +kernel
theorem dX6_fee_1 : decode cX6_fee 1 = .ok (.iload_n 1, 1) := by decide +kernel
theorem dX6_fee_2 : decode cX6_fee 2 = .ok (.bipush 6, 2) := by decide +kernel
theorem dX6_fee_4 : decode cX6_fee 4 = .ok (.invokevirtual 47, 3) := by decide +kernel
theorem dX6_fee_7 : decode cX6_fee 7 = .ok (.aload_n 0, 1) := by decide +kernel
theorem dX6_fee_8 : decode cX6_fee 8 = .ok (.getfield 7, 3) := by decide +kernel
theorem dX6_fee_11 : decode cX6_fee 11 = .ok (.iconst 2, 1) := by decide +kernel
theorem dX6_fee_12 : decode cX6_fee 12 = .ok (.iaload, 1) := by decide +kernel
theorem dX6_fee_13 : decode cX6_fee 13 = .ok (.imul, 1) := by decide +kernel
theorem dX6_fee_14 : decode cX6_fee 14 = .ok (.bipush 10, 2) := by decide +kernel
theorem dX6_fee_16 : decode cX6_fee 16 = .ok (.idiv, 1) := by decide +kernel
theorem dX6_fee_17 : decode cX6_fee 17 = .ok (.ireturn, 1) := by decide +kernel
theorem dX6_toldStall_0 : decode cX6_toldStall 0 = .ok (.iload_n 2, 1) := by decide +kernel
theorem dX6_toldStall_1 : decode cX6_toldStall 1 = .ok (.bipush 8, 2) := by decide +kernel
theorem dX6_toldStall_3 : decode cX6_toldStall 3 = .ok (.if_icmp .ge 12, 3) := by decide +kernel
theorem dX6_toldStall_6 : decode cX6_toldStall 6 = .ok (.aload_n 0, 1) := by decide +kernel
theorem dX6_toldStall_7 : decode cX6_toldStall 7 = .ok (.iload_n 1, 1) := by decide +kernel
theorem dX6_toldStall_8 : decode cX6_toldStall 8 = .ok (.iload_n 2, 1) := by decide +kernel
theorem dX6_toldStall_9 : decode cX6_toldStall 9 = .ok (.invokevirtual 47, 3) := by decide +kernel
theorem dX6_toldStall_12 : decode cX6_toldStall 12 = .ok (.goto 22, 3) := by decide +kernel
theorem dX6_toldStall_15 : decode cX6_toldStall 15 = .ok (.iload_n 2, 1) := by decide +kernel
theorem dX6_toldStall_16 : decode cX6_toldStall 16 = .ok (.bipush 8, 2) := by decide +kernel
theorem dX6_toldStall_18 : decode cX6_toldStall 18 = .ok (.if_icmp .ne 11, 3) := by decide +kernel
theorem dX6_toldStall_21 : decode cX6_toldStall 21 = .ok (.aload_n 0, 1) := by decide +kernel
theorem dX6_toldStall_22 : decode cX6_toldStall 22 = .ok (.iload_n 1, 1) := by decide +kernel
theorem dX6_toldStall_23 : decode cX6_toldStall 23 = .ok (.invokevirtual 66, 3) := by decide +kernel
theorem dX6_toldStall_26 : decode cX6_toldStall 26 = .ok (.goto 8, 3) := by decide +kernel
theorem dX6_toldStall_29 : decode cX6_toldStall 29 = .ok (.aload_n 0, 1) := by decide +kernel
theorem dX6_toldStall_30 : decode cX6_toldStall 30 = .ok (.iload_n 1, 1) := by decide +kernel
theorem dX6_toldStall_31 : decode cX6_toldStall 31 = .ok (.invokevirtual 163, 3) := by decide +kernel
theorem dX6_toldStall_34 : decode cX6_toldStall 34 = .ok (.ireturn, 1) := by decide +kernel
theorem dX6_stallOf_0 : decode cX6_stallOf 0 = .ok (.aload_n 0, 1) := by decide +kernel
theorem dX6_stallOf_1 : decode cX6_stallOf 1 = .ok (.aload_n 0, 1) := by decide +kernel
theorem dX6_stallOf_2 : decode cX6_stallOf 2 = .ok (.iload_n 1, 1) := by decide +kernel
theorem dX6_stallOf_3 : decode cX6_stallOf 3 = .ok (.invokevirtual 102, 3) := by decide +kernel
theorem dX6_stallOf_6 : decode cX6_stallOf 6 = .ok (.ifCond .ne 7, 3) := by decide +kernel
theorem dX6_stallOf_9 : decode cX6_stallOf 9 = .ok (.iconst 1, 1) := by decide +kernel
theorem dX6_stallOf_10 : decode cX6_stallOf 10 = .ok (.goto 18, 3) := by decide +kernel
theorem dX6_stallOf_13 : decode cX6_stallOf 13 = .ok (.iload_n 2, 1) := by decide +kernel
theorem dX6_stallOf_14 : decode cX6_stallOf 14 = .ok (.iconst 0, 1) := by decide +kernel
theorem dX6_stallOf_15 : decode cX6_stallOf 15 = .ok (.bipush 9, 2) := by decide +kernel
theorem dX6_stallOf_17 : decode cX6_stallOf 17 = .ok (.invokestatic 40, 3) := by decide +kernel
theorem dX6_stallOf_20 : decode cX6_stallOf 20 = .ok (.ifCond .eq 7, 3) := by decide +kernel
theorem dX6_stallOf_23 : decode cX6_stallOf 23 = .ok (.iconst 0, 1) := by decide +kernel
theorem dX6_stallOf_24 : decode cX6_stallOf 24 = .ok (.goto 4, 3) := by decide +kernel
theorem dX6_stallOf_27 : decode cX6_stallOf 27 = .ok (.iconst 2, 1) := by decide +kernel
theorem dX6_stallOf_28 : decode cX6_stallOf 28 = .ok (.putfield 36, 3) := by decide +kernel
theorem dX6_stallOf_31 : decode cX6_stallOf 31 = .ok (.aload_n 0, 1) := by decide +kernel
theorem dX6_stallOf_32 : decode cX6_stallOf 32 = .ok (.getfield 36, 3) := by decide +kernel
theorem dX6_stallOf_35 : decode cX6_stallOf 35 = .ok (.ifCond .le 7, 3) := by decide +kernel
theorem dX6_stallOf_38 : decode cX6_stallOf 38 = .ok (.iconst 0, 1) := by decide +kernel
theorem dX6_stallOf_39 : decode cX6_stallOf 39 = .ok (.goto 9, 3) := by decide +kernel
theorem dX6_stallOf_42 : decode cX6_stallOf 42 = .ok (.aload_n 0, 1) := by decide +kernel
theorem dX6_stallOf_43 : decode cX6_stallOf 43 = .ok (.iload_n 1, 1) := by decide +kernel
theorem dX6_stallOf_44 : decode cX6_stallOf 44 = .ok (.iload_n 2, 1) := by decide +kernel
theorem dX6_stallOf_45 : decode cX6_stallOf 45 = .ok (.invokevirtual 166, 3) := by decide +kernel
theorem dX6_stallOf_48 : decode cX6_stallOf 48 = .ok (.ireturn, 1) := by decide +kernel
theorem dX6_allLoads_0 : decode cX6_allLoads 0 = .ok (.iconst 0, 1) := by decide +kernel
theorem dX6_allLoads_1 : decode cX6_allLoads 1 = .ok (.istore_n 2, 1) := by decide +kernel
theorem dX6_allLoads_2 : decode cX6_allLoads 2 = .ok (.iconst 0, 1) := by decide +kernel
theorem dX6_allLoads_3 : decode cX6_allLoads 3 = .ok (.istore_n 3, 1) := by decide +kernel
theorem dX6_allLoads_4 : decode cX6_allLoads 4 = .ok (.iload_n 3, 1) := by decide +kernel
theorem dX6_allLoads_5 : decode cX6_allLoads 5 = .ok (.aload_n 0, 1) := by decide +kernel
theorem dX6_allLoads_6 : decode cX6_allLoads 6 = .ok (.getfield 7, 3) := by decide +kernel
theorem dX6_allLoads_9 : decode cX6_allLoads 9 = .ok (.iconst 4, 1) := by decide +kernel
theorem dX6_allLoads_10 : decode cX6_allLoads 10 = .ok (.iaload, 1) := by decide +kernel
theorem dX6_allLoads_11 : decode cX6_allLoads 11 = .ok (.if_icmp .ge 40, 3) := by decide +kernel
theorem dX6_allLoads_14 : decode cX6_allLoads 14 = .ok (.iload_n 2, 1) := by decide +kernel
theorem dX6_allLoads_15 : decode cX6_allLoads 15 = .ok (.aload_n 0, 1) := by decide +kernel
theorem dX6_allLoads_16 : decode cX6_allLoads 16 = .ok (.iload_n 3, 1) := by decide +kernel
theorem dX6_allLoads_17 : decode cX6_allLoads 17 = .ok (.iload_n 1, 1) := by decide +kernel
theorem dX6_allLoads_18 : decode cX6_allLoads 18 = .ok (.invokevirtual 62, 3) := by decide +kernel
theorem dX6_allLoads_21 : decode cX6_allLoads 21 = .ok (.ifCond .eq 21, 3) := by decide +kernel
theorem dX6_allLoads_24 : decode cX6_allLoads 24 = .ok (.aload_n 0, 1) := by decide +kernel
theorem dX6_allLoads_25 : decode cX6_allLoads 25 = .ok (.iload_n 3, 1) := by decide +kernel
theorem dX6_allLoads_26 : decode cX6_allLoads 26 = .ok (.iconst 5, 1) := by decide +kernel
theorem dX6_allLoads_27 : decode cX6_allLoads 27 = .ok (.invokevirtual 47, 3) := by decide +kernel
theorem dX6_allLoads_30 : decode cX6_allLoads 30 = .ok (.ifCond .ne 12, 3) := by decide +kernel
theorem dX6_allLoads_33 : decode cX6_allLoads 33 = .ok (.aload_n 0, 1) := by decide +kernel
theorem dX6_allLoads_34 : decode cX6_allLoads 34 = .ok (.iload_n 3, 1) := by decide +kernel
theorem dX6_allLoads_35 : decode cX6_allLoads 35 = .ok (.iconst 0, 1) := by decide +kernel
theorem dX6_allLoads_36 : decode cX6_allLoads 36 = .ok (.invokevirtual 47, 3) := by decide +kernel
theorem dX6_allLoads_39 : decode cX6_allLoads 39 = .ok (.goto 4, 3) := by decide +kernel
theorem dX6_allLoads_42 : decode cX6_allLoads 42 = .ok (.iconst 0, 1) := by decide +kernel
theorem dX6_allLoads_43 : decode cX6_allLoads 43 = .ok (.iadd, 1) := by decide +kernel
theorem dX6_allLoads_44 : decode cX6_allLoads 44 = .ok (.istore_n 2, 1) := by decide +kernel
theorem dX6_allLoads_45 : decode cX6_allLoads 45 = .ok (.iinc 3 1, 3) := by decide +kernel
theorem dX6_allLoads_48 : decode cX6_allLoads 48 = .ok (.goto (-44), 3) := by decide +kernel
theorem dX6_allLoads_51 : decode cX6_allLoads 51 = .ok (.iload_n 2, 1) := by decide +kernel
theorem dX6_allLoads_52 : decode cX6_allLoads 52 = .ok (.ireturn, 1) := by decide +kernel
theorem dX6_toldBreaker_0 : decode cX6_toldBreaker 0 = .ok (.iload_n 2, 1) := by decide +kernel
theorem dX6_toldBreaker_1 : decode cX6_toldBreaker 1 = .ok (.tableswitch 52 3 6 #[31, 37, 43, 43], 31) := by decide +kernel
theorem dX6_toldBreaker_32 : decode cX6_toldBreaker 32 = .ok (.aload_n 0, 1) := by decide +kernel
theorem dX6_toldBreaker_33 : decode cX6_toldBreaker 33 = .ok (.iload_n 1, 1) := by decide +kernel
theorem dX6_toldBreaker_34 : decode cX6_toldBreaker 34 = .ok (.invokevirtual 72, 3) := by decide +kernel
theorem dX6_toldBreaker_37 : decode cX6_toldBreaker 37 = .ok (.ireturn, 1) := by decide +kernel
theorem dX6_toldBreaker_38 : decode cX6_toldBreaker 38 = .ok (.aload_n 0, 1) := by decide +kernel
theorem dX6_toldBreaker_39 : decode cX6_toldBreaker 39 = .ok (.iload_n 1, 1) := by decide +kernel
theorem dX6_toldBreaker_40 : decode cX6_toldBreaker 40 = .ok (.invokevirtual 169, 3) := by decide +kernel
theorem dX6_toldBreaker_43 : decode cX6_toldBreaker 43 = .ok (.ireturn, 1) := by decide +kernel
theorem dX6_toldBreaker_44 : decode cX6_toldBreaker 44 = .ok (.aload_n 0, 1) := by decide +kernel
theorem dX6_toldBreaker_45 : decode cX6_toldBreaker 45 = .ok (.iload_n 1, 1) := by decide +kernel
theorem dX6_toldBreaker_46 : decode cX6_toldBreaker 46 = .ok (.iload_n 2, 1) := by decide +kernel
theorem dX6_toldBreaker_47 : decode cX6_toldBreaker 47 = .ok (.iconst 2, 1) := by decide +kernel
theorem dX6_toldBreaker_48 : decode cX6_toldBreaker 48 = .ok (.isub, 1) := by decide +kernel
theorem dX6_toldBreaker_49 : decode cX6_toldBreaker 49 = .ok (.invokevirtual 59, 3) := by decide +kernel
theorem dX6_toldBreaker_52 : decode cX6_toldBreaker 52 = .ok (.ireturn, 1) := by decide +kernel
theorem dX6_toldBreaker_53 : decode cX6_toldBreaker 53 = .ok (.aload_n 0, 1) := by decide +kernel
theorem dX6_toldBreaker_54 : decode cX6_toldBreaker 54 = .ok (.iload_n 1, 1) := by decide +kernel
theorem dX6_toldBreaker_55 : decode cX6_toldBreaker 55 = .ok (.iload_n 2, 1) := by decide +kernel
theorem dX6_toldBreaker_56 : decode cX6_toldBreaker 56 = .ok (.invokevirtual 59, 3) := by decide +kernel
theorem dX6_toldBreaker_59 : decode cX6_toldBreaker 59 = .ok (.ireturn, 1) := by decide +kernel
theorem dX6_breaker_0 : decode cX6_breaker 0 = .ok (.aload_n 0, 1) := by decide +kernel
theorem dX6_breaker_1 : decode cX6_breaker 1 = .ok (.iload_n 1, 1) := by decide +kernel
theorem dX6_breaker_2 : decode cX6_breaker 2 = .ok (.invokestatic 114, 3) := by decide +kernel
theorem dX6_breaker_5 : decode cX6_breaker 5 = .ok (.ifCond .eq 17, 3) := by decide +kernel
theorem dX6_breaker_8 : decode cX6_breaker 8 = .ok (.iload_n 2, 1) := by decide +kernel
theorem dX6_breaker_9 : decode cX6_breaker 9 = .ok (.iconst 0, 1) := by decide +kernel
theorem dX6_breaker_10 : decode cX6_breaker 10 = .ok (.bipush 6, 2) := by decide +kernel
theorem dX6_breaker_12 : decode cX6_breaker 12 = .ok (.invokestatic 40, 3) := by decide +kernel
theorem dX6_breaker_15 : decode cX6_breaker 15 = .ok (.ifCond .eq 7, 3) := by decide +kernel
theorem dX6_breaker_18 : decode cX6_breaker 18 = .ok (.iconst 0, 1) := by decide +kernel
theorem dX6_breaker_19 : decode cX6_breaker 19 = .ok (.goto 4, 3) := by decide +kernel
theorem dX6_breaker_22 : decode cX6_breaker 22 = .ok (.iconst 1, 1) := by decide +kernel
theorem dX6_breaker_23 : decode cX6_breaker 23 = .ok (.putfield 36, 3) := by decide +kernel
theorem dX6_breaker_26 : decode cX6_breaker 26 = .ok (.aload_n 0, 1) := by decide +kernel
theorem dX6_breaker_27 : decode cX6_breaker 27 = .ok (.getfield 36, 3) := by decide +kernel
theorem dX6_breaker_30 : decode cX6_breaker 30 = .ok (.ifCond .le 7, 3) := by decide +kernel
theorem dX6_breaker_33 : decode cX6_breaker 33 = .ok (.iconst 0, 1) := by decide +kernel
theorem dX6_breaker_34 : decode cX6_breaker 34 = .ok (.goto 9, 3) := by decide +kernel
theorem dX6_breaker_37 : decode cX6_breaker 37 = .ok (.aload_n 0, 1) := by decide +kernel
theorem dX6_breaker_38 : decode cX6_breaker 38 = .ok (.iload_n 1, 1) := by decide +kernel
theorem dX6_breaker_39 : decode cX6_breaker 39 = .ok (.iload_n 2, 1) := by decide +kernel
theorem dX6_breaker_40 : decode cX6_breaker 40 = .ok (.invokevirtual 172, 3) := by decide +kernel
theorem dX6_breaker_43 : decode cX6_breaker 43 = .ok (.ireturn, 1) := by decide +kernel
theorem dX6_socket_0 : decode cX6_socket 0 = .ok (.aload_n 0, 1) := by decide +kernel
theorem dX6_socket_1 : decode cX6_socket 1 = .ok (.iload_n 1, 1) := by decide +kernel
theorem dX6_socket_2 : decode cX6_socket 2 = .ok (.invokestatic 105, 3) := by decide +kernel
theorem dX6_socket_5 : decode cX6_socket 5 = .ok (.ifCond .eq 16, 3) := by decide +kernel
theorem dX6_socket_8 : decode cX6_socket 8 = .ok (.iload_n 2, 1) := by decide +kernel
theorem dX6_socket_9 : decode cX6_socket 9 = .ok (.iconst 0, 1) := by decide +kernel
theorem dX6_socket_10 : decode cX6_socket 10 = .ok (.iconst 1, 1) := by decide +kernel
theorem dX6_socket_11 : decode cX6_socket 11 = .ok (.invokestatic 40, 3) := by decide +kernel
theorem dX6_socket_14 : decode cX6_socket 14 = .ok (.ifCond .eq 7, 3) := by decide +kernel
theorem dX6_socket_17 : decode cX6_socket 17 = .ok (.iconst 0, 1) := by decide +kernel
theorem dX6_socket_18 : decode cX6_socket 18 = .ok (.goto 4, 3) := by decide +kernel
theorem dX6_socket_21 : decode cX6_socket 21 = .ok (.iconst 1, 1) := by decide +kernel
theorem dX6_socket_22 : decode cX6_socket 22 = .ok (.putfield 36, 3) := by decide +kernel
theorem dX6_socket_25 : decode cX6_socket 25 = .ok (.aload_n 0, 1) := by decide +kernel
theorem dX6_socket_26 : decode cX6_socket 26 = .ok (.getfield 36, 3) := by decide +kernel
theorem dX6_socket_29 : decode cX6_socket 29 = .ok (.ifCond .le 7, 3) := by decide +kernel
theorem dX6_socket_32 : decode cX6_socket 32 = .ok (.iconst 0, 1) := by decide +kernel
theorem dX6_socket_33 : decode cX6_socket 33 = .ok (.goto 20, 3) := by decide +kernel
theorem dX6_socket_36 : decode cX6_socket 36 = .ok (.iload_n 2, 1) := by decide +kernel
theorem dX6_socket_37 : decode cX6_socket 37 = .ok (.ifCond .ne 11, 3) := by decide +kernel
theorem dX6_socket_40 : decode cX6_socket 40 = .ok (.aload_n 0, 1) := by decide +kernel
theorem dX6_socket_41 : decode cX6_socket 41 = .ok (.iload_n 1, 1) := by decide +kernel
theorem dX6_socket_42 : decode cX6_socket 42 = .ok (.invokevirtual 55, 3) := by decide +kernel
theorem dX6_socket_45 : decode cX6_socket 45 = .ok (.goto 8, 3) := by decide +kernel
theorem dX6_socket_48 : decode cX6_socket 48 = .ok (.aload_n 0, 1) := by decide +kernel
theorem dX6_socket_49 : decode cX6_socket 49 = .ok (.iload_n 1, 1) := by decide +kernel
theorem dX6_socket_50 : decode cX6_socket 50 = .ok (.invokevirtual 108, 3) := by decide +kernel
theorem dX6_socket_53 : decode cX6_socket 53 = .ok (.ireturn, 1) := by decide +kernel
theorem dX6_allStalls_0 : decode cX6_allStalls 0 = .ok (.iconst 0, 1) := by decide +kernel
theorem dX6_allStalls_1 : decode cX6_allStalls 1 = .ok (.istore_n 2, 1) := by decide +kernel
theorem dX6_allStalls_2 : decode cX6_allStalls 2 = .ok (.iconst 0, 1) := by decide +kernel
theorem dX6_allStalls_3 : decode cX6_allStalls 3 = .ok (.istore_n 3, 1) := by decide +kernel
theorem dX6_allStalls_4 : decode cX6_allStalls 4 = .ok (.iload_n 3, 1) := by decide +kernel
theorem dX6_allStalls_5 : decode cX6_allStalls 5 = .ok (.aload_n 0, 1) := by decide +kernel
theorem dX6_allStalls_6 : decode cX6_allStalls 6 = .ok (.getfield 7, 3) := by decide +kernel
theorem dX6_allStalls_9 : decode cX6_allStalls 9 = .ok (.iconst 4, 1) := by decide +kernel
theorem dX6_allStalls_10 : decode cX6_allStalls 10 = .ok (.iaload, 1) := by decide +kernel
theorem dX6_allStalls_11 : decode cX6_allStalls 11 = .ok (.if_icmp .ge 18, 3) := by decide +kernel
theorem dX6_allStalls_14 : decode cX6_allStalls 14 = .ok (.iload_n 2, 1) := by decide +kernel
theorem dX6_allStalls_15 : decode cX6_allStalls 15 = .ok (.aload_n 0, 1) := by decide +kernel
theorem dX6_allStalls_16 : decode cX6_allStalls 16 = .ok (.iload_n 3, 1) := by decide +kernel
theorem dX6_allStalls_17 : decode cX6_allStalls 17 = .ok (.iload_n 1, 1) := by decide +kernel
theorem dX6_allStalls_18 : decode cX6_allStalls 18 = .ok (.invokevirtual 166, 3) := by decide +kernel
theorem dX6_allStalls_21 : decode cX6_allStalls 21 = .ok (.iadd, 1) := by decide +kernel
theorem dX6_allStalls_22 : decode cX6_allStalls 22 = .ok (.istore_n 2, 1) := by decide +kernel
theorem dX6_allStalls_23 : decode cX6_allStalls 23 = .ok (.iinc 3 1, 3) := by decide +kernel
theorem dX6_allStalls_26 : decode cX6_allStalls 26 = .ok (.goto (-22), 3) := by decide +kernel
theorem dX6_allStalls_29 : decode cX6_allStalls 29 = .ok (.iload_n 2, 1) := by decide +kernel
theorem dX6_allStalls_30 : decode cX6_allStalls 30 = .ok (.ireturn, 1) := by decide +kernel
theorem dX6_allBreakers_0 : decode cX6_allBreakers 0 = .ok (.iconst 0, 1) := by decide +kernel
theorem dX6_allBreakers_1 : decode cX6_allBreakers 1 = .ok (.istore_n 2, 1) := by decide +kernel
theorem dX6_allBreakers_2 : decode cX6_allBreakers 2 = .ok (.iconst 0, 1) := by decide +kernel
theorem dX6_allBreakers_3 : decode cX6_allBreakers 3 = .ok (.istore_n 3, 1) := by decide +kernel
theorem dX6_allBreakers_4 : decode cX6_allBreakers 4 = .ok (.iload_n 3, 1) := by decide +kernel
theorem dX6_allBreakers_5 : decode cX6_allBreakers 5 = .ok (.iconst 4, 1) := by decide +kernel
theorem dX6_allBreakers_6 : decode cX6_allBreakers 6 = .ok (.if_icmp .ge 18, 3) := by decide +kernel
theorem dX6_allBreakers_9 : decode cX6_allBreakers 9 = .ok (.iload_n 2, 1) := by decide +kernel
theorem dX6_allBreakers_10 : decode cX6_allBreakers 10 = .ok (.aload_n 0, 1) := by decide +kernel
theorem dX6_allBreakers_11 : decode cX6_allBreakers 11 = .ok (.iload_n 3, 1) := by decide +kernel
theorem dX6_allBreakers_12 : decode cX6_allBreakers 12 = .ok (.iload_n 1, 1) := by decide +kernel
theorem dX6_allBreakers_13 : decode cX6_allBreakers 13 = .ok (.invokevirtual 59, 3) := by decide +kernel
theorem dX6_allBreakers_16 : decode cX6_allBreakers 16 = .ok (.iadd, 1) := by decide +kernel
theorem dX6_allBreakers_17 : decode cX6_allBreakers 17 = .ok (.istore_n 2, 1) := by decide +kernel
theorem dX6_allBreakers_18 : decode cX6_allBreakers 18 = .ok (.iinc 3 1, 3) := by decide +kernel
theorem dX6_allBreakers_21 : decode cX6_allBreakers 21 = .ok (.goto (-17), 3) := by decide +kernel
theorem dX6_allBreakers_24 : decode cX6_allBreakers 24 = .ok (.iload_n 2, 1) := by decide +kernel
theorem dX6_allBreakers_25 : decode cX6_allBreakers 25 = .ok (.ireturn, 1) := by decide +kernel
theorem dX6_plugged_0 : decode cX6_plugged 0 = .ok (.iconst 0, 1) := by decide +kernel
theorem dX6_plugged_1 : decode cX6_plugged 1 = .ok (.istore_n 1, 1) := by decide +kernel
theorem dX6_plugged_2 : decode cX6_plugged 2 = .ok (.iconst 0, 1) := by decide +kernel
theorem dX6_plugged_3 : decode cX6_plugged 3 = .ok (.istore_n 2, 1) := by decide +kernel
theorem dX6_plugged_4 : decode cX6_plugged 4 = .ok (.iload_n 2, 1) := by decide +kernel
theorem dX6_plugged_5 : decode cX6_plugged 5 = .ok (.aload_n 0, 1) := by decide +kernel
theorem dX6_plugged_6 : decode cX6_plugged 6 = .ok (.getfield 7, 3) := by decide +kernel
theorem dX6_plugged_9 : decode cX6_plugged 9 = .ok (.iconst 4, 1) := by decide +kernel
theorem dX6_plugged_10 : decode cX6_plugged 10 = .ok (.iaload, 1) := by decide +kernel
theorem dX6_plugged_11 : decode cX6_plugged 11 = .ok (.if_icmp .ge 27, 3) := by decide +kernel
theorem dX6_plugged_14 : decode cX6_plugged 14 = .ok (.iload_n 1, 1) := by decide +kernel
theorem dX6_plugged_15 : decode cX6_plugged 15 = .ok (.aload_n 0, 1) := by decide +kernel
theorem dX6_plugged_16 : decode cX6_plugged 16 = .ok (.iload_n 2, 1) := by decide +kernel
theorem dX6_plugged_17 : decode cX6_plugged 17 = .ok (.iconst 4, 1) := by decide +kernel
theorem dX6_plugged_18 : decode cX6_plugged 18 = .ok (.invokevirtual 47, 3) := by decide +kernel
theorem dX6_plugged_21 : decode cX6_plugged 21 = .ok (.iconst (-1), 1) := by decide +kernel
theorem dX6_plugged_22 : decode cX6_plugged 22 = .ok (.if_icmp .ne 7, 3) := by decide +kernel
theorem dX6_plugged_25 : decode cX6_plugged 25 = .ok (.iconst 0, 1) := by decide +kernel
theorem dX6_plugged_26 : decode cX6_plugged 26 = .ok (.goto 4, 3) := by decide +kernel
theorem dX6_plugged_29 : decode cX6_plugged 29 = .ok (.iconst 1, 1) := by decide +kernel
theorem dX6_plugged_30 : decode cX6_plugged 30 = .ok (.iadd, 1) := by decide +kernel
theorem dX6_plugged_31 : decode cX6_plugged 31 = .ok (.istore_n 1, 1) := by decide +kernel
theorem dX6_plugged_32 : decode cX6_plugged 32 = .ok (.iinc 2 1, 3) := by decide +kernel
theorem dX6_plugged_35 : decode cX6_plugged 35 = .ok (.goto (-31), 3) := by decide +kernel
theorem dX6_plugged_38 : decode cX6_plugged 38 = .ok (.iload_n 1, 1) := by decide +kernel
theorem dX6_plugged_39 : decode cX6_plugged 39 = .ok (.ireturn, 1) := by decide +kernel
theorem dX6_counted_0 : decode cX6_counted 0 = .ok (.iload_n 1, 1) := by decide +kernel
theorem dX6_counted_1 : decode cX6_counted 1 = .ok (.tableswitch 125 0 10 #[59, 59, 68, 73, 79, 85, 92, 98, 104, 111, 118], 59) := by decide +kernel
theorem dX6_counted_60 : decode cX6_counted 60 = .ok (.aload_n 0, 1) := by decide +kernel
theorem dX6_counted_61 : decode cX6_counted 61 = .ok (.getfield 7, 3) := by decide +kernel
theorem dX6_counted_64 : decode cX6_counted 64 = .ok (.iconst 3, 1) := by decide +kernel
theorem dX6_counted_65 : decode cX6_counted 65 = .ok (.iload_n 1, 1) := by decide +kernel
theorem dX6_counted_66 : decode cX6_counted 66 = .ok (.iadd, 1) := by decide +kernel
theorem dX6_counted_67 : decode cX6_counted 67 = .ok (.iaload, 1) := by decide +kernel
theorem dX6_counted_68 : decode cX6_counted 68 = .ok (.ireturn, 1) := by decide +kernel
theorem dX6_counted_69 : decode cX6_counted 69 = .ok (.aload_n 0, 1) := by decide +kernel
theorem dX6_counted_70 : decode cX6_counted 70 = .ok (.invokevirtual 175, 3) := by decide +kernel
theorem dX6_counted_73 : decode cX6_counted 73 = .ok (.ireturn, 1) := by decide +kernel
theorem dX6_counted_74 : decode cX6_counted 74 = .ok (.aload_n 0, 1) := by decide +kernel
theorem dX6_counted_75 : decode cX6_counted 75 = .ok (.iconst (-1), 1) := by decide +kernel
theorem dX6_counted_76 : decode cX6_counted 76 = .ok (.invokevirtual 120, 3) := by decide +kernel
theorem dX6_counted_79 : decode cX6_counted 79 = .ok (.ireturn, 1) := by decide +kernel
theorem dX6_counted_80 : decode cX6_counted 80 = .ok (.aload_n 0, 1) := by decide +kernel
theorem dX6_counted_81 : decode cX6_counted 81 = .ok (.iconst 1, 1) := by decide +kernel
theorem dX6_counted_82 : decode cX6_counted 82 = .ok (.invokevirtual 178, 3) := by decide +kernel
theorem dX6_counted_85 : decode cX6_counted 85 = .ok (.ireturn, 1) := by decide +kernel
theorem dX6_counted_86 : decode cX6_counted 86 = .ok (.aload_n 0, 1) := by decide +kernel
theorem dX6_counted_87 : decode cX6_counted 87 = .ok (.bipush 6, 2) := by decide +kernel
theorem dX6_counted_89 : decode cX6_counted 89 = .ok (.invokevirtual 181, 3) := by decide +kernel
theorem dX6_counted_92 : decode cX6_counted 92 = .ok (.ireturn, 1) := by decide +kernel
theorem dX6_counted_93 : decode cX6_counted 93 = .ok (.aload_n 0, 1) := by decide +kernel
theorem dX6_counted_94 : decode cX6_counted 94 = .ok (.iconst 4, 1) := by decide +kernel
theorem dX6_counted_95 : decode cX6_counted 95 = .ok (.invokevirtual 178, 3) := by decide +kernel
theorem dX6_counted_98 : decode cX6_counted 98 = .ok (.ireturn, 1) := by decide +kernel
theorem dX6_counted_99 : decode cX6_counted 99 = .ok (.aload_n 0, 1) := by decide +kernel
theorem dX6_counted_100 : decode cX6_counted 100 = .ok (.iconst 3, 1) := by decide +kernel
theorem dX6_counted_101 : decode cX6_counted 101 = .ok (.invokevirtual 178, 3) := by decide +kernel
theorem dX6_counted_104 : decode cX6_counted 104 = .ok (.ireturn, 1) := by decide +kernel
theorem dX6_counted_105 : decode cX6_counted 105 = .ok (.aload_n 0, 1) := by decide +kernel
theorem dX6_counted_106 : decode cX6_counted 106 = .ok (.bipush 7, 2) := by decide +kernel
theorem dX6_counted_108 : decode cX6_counted 108 = .ok (.invokevirtual 181, 3) := by decide +kernel
theorem dX6_counted_111 : decode cX6_counted 111 = .ok (.ireturn, 1) := by decide +kernel
theorem dX6_counted_112 : decode cX6_counted 112 = .ok (.aload_n 0, 1) := by decide +kernel
theorem dX6_counted_113 : decode cX6_counted 113 = .ok (.bipush 9, 2) := by decide +kernel
theorem dX6_counted_115 : decode cX6_counted 115 = .ok (.invokevirtual 181, 3) := by decide +kernel
theorem dX6_counted_118 : decode cX6_counted 118 = .ok (.ireturn, 1) := by decide +kernel
theorem dX6_counted_119 : decode cX6_counted 119 = .ok (.aload_n 0, 1) := by decide +kernel
theorem dX6_counted_120 : decode cX6_counted 120 = .ok (.getfield 7, 3) := by decide +kernel
theorem dX6_counted_123 : decode cX6_counted 123 = .ok (.iconst 5, 1) := by decide +kernel
theorem dX6_counted_124 : decode cX6_counted 124 = .ok (.iaload, 1) := by decide +kernel
theorem dX6_counted_125 : decode cX6_counted 125 = .ok (.ireturn, 1) := by decide +kernel
theorem dX6_counted_126 : decode cX6_counted 126 = .ok (.aload_n 0, 1) := by decide +kernel
theorem dX6_counted_127 : decode cX6_counted 127 = .ok (.getfield 44, 3) := by decide +kernel
theorem dX6_counted_130 : decode cX6_counted 130 = .ok (.ireturn, 1) := by decide +kernel
theorem dX6_count_0 : decode cX6_count 0 = .ok (.aload_n 0, 1) := by decide +kernel
theorem dX6_count_1 : decode cX6_count 1 = .ok (.iload_n 1, 1) := by decide +kernel
theorem dX6_count_2 : decode cX6_count 2 = .ok (.iconst 0, 1) := by decide +kernel
theorem dX6_count_3 : decode cX6_count 3 = .ok (.bipush 11, 2) := by decide +kernel
theorem dX6_count_5 : decode cX6_count 5 = .ok (.invokestatic 40, 3) := by decide +kernel
theorem dX6_count_8 : decode cX6_count 8 = .ok (.ifCond .eq 7, 3) := by decide +kernel
theorem dX6_count_11 : decode cX6_count 11 = .ok (.iconst 0, 1) := by decide +kernel
theorem dX6_count_12 : decode cX6_count 12 = .ok (.goto 4, 3) := by decide +kernel
theorem dX6_count_15 : decode cX6_count 15 = .ok (.iconst 1, 1) := by decide +kernel
theorem dX6_count_16 : decode cX6_count 16 = .ok (.putfield 36, 3) := by decide +kernel
theorem dX6_count_19 : decode cX6_count 19 = .ok (.aload_n 0, 1) := by decide +kernel
theorem dX6_count_20 : decode cX6_count 20 = .ok (.getfield 36, 3) := by decide +kernel
theorem dX6_count_23 : decode cX6_count 23 = .ok (.ifCond .le 7, 3) := by decide +kernel
theorem dX6_count_26 : decode cX6_count 26 = .ok (.iconst 0, 1) := by decide +kernel
theorem dX6_count_27 : decode cX6_count 27 = .ok (.goto 8, 3) := by decide +kernel
theorem dX6_count_30 : decode cX6_count 30 = .ok (.aload_n 0, 1) := by decide +kernel
theorem dX6_count_31 : decode cX6_count 31 = .ok (.iload_n 1, 1) := by decide +kernel
theorem dX6_count_32 : decode cX6_count 32 = .ok (.invokevirtual 184, 3) := by decide +kernel
theorem dX6_count_35 : decode cX6_count 35 = .ok (.ireturn, 1) := by decide +kernel
theorem dX6_setting_0 : decode cX6_setting 0 = .ok (.aload_n 0, 1) := by decide +kernel
theorem dX6_setting_1 : decode cX6_setting 1 = .ok (.iload_n 1, 1) := by decide +kernel
theorem dX6_setting_2 : decode cX6_setting 2 = .ok (.iconst 0, 1) := by decide +kernel
theorem dX6_setting_3 : decode cX6_setting 3 = .ok (.iconst 2, 1) := by decide +kernel
theorem dX6_setting_4 : decode cX6_setting 4 = .ok (.invokestatic 40, 3) := by decide +kernel
theorem dX6_setting_7 : decode cX6_setting 7 = .ok (.ifCond .eq 7, 3) := by decide +kernel
theorem dX6_setting_10 : decode cX6_setting 10 = .ok (.iconst 0, 1) := by decide +kernel
theorem dX6_setting_11 : decode cX6_setting 11 = .ok (.goto 4, 3) := by decide +kernel
theorem dX6_setting_14 : decode cX6_setting 14 = .ok (.iconst 1, 1) := by decide +kernel
theorem dX6_setting_15 : decode cX6_setting 15 = .ok (.putfield 36, 3) := by decide +kernel
theorem dX6_setting_18 : decode cX6_setting 18 = .ok (.aload_n 0, 1) := by decide +kernel
theorem dX6_setting_19 : decode cX6_setting 19 = .ok (.getfield 36, 3) := by decide +kernel
theorem dX6_setting_22 : decode cX6_setting 22 = .ok (.ifCond .le 7, 3) := by decide +kernel
theorem dX6_setting_25 : decode cX6_setting 25 = .ok (.iconst 0, 1) := by decide +kernel
theorem dX6_setting_26 : decode cX6_setting 26 = .ok (.goto 11, 3) := by decide +kernel
theorem dX6_setting_29 : decode cX6_setting 29 = .ok (.aload_n 0, 1) := by decide +kernel
theorem dX6_setting_30 : decode cX6_setting 30 = .ok (.getfield 7, 3) := by decide +kernel
theorem dX6_setting_33 : decode cX6_setting 33 = .ok (.iconst 0, 1) := by decide +kernel
theorem dX6_setting_34 : decode cX6_setting 34 = .ok (.iload_n 1, 1) := by decide +kernel
theorem dX6_setting_35 : decode cX6_setting 35 = .ok (.iadd, 1) := by decide +kernel
theorem dX6_setting_36 : decode cX6_setting 36 = .ok (.iaload, 1) := by decide +kernel
theorem dX6_setting_37 : decode cX6_setting 37 = .ok (.ireturn, 1) := by decide +kernel
theorem dX6_isTaken_0 : decode cX6_isTaken 0 = .ok (.aload_n 0, 1) := by decide +kernel
theorem dX6_isTaken_1 : decode cX6_isTaken 1 = .ok (.iload_n 2, 1) := by decide +kernel
theorem dX6_isTaken_2 : decode cX6_isTaken 2 = .ok (.invokevirtual 108, 3) := by decide +kernel
theorem dX6_isTaken_5 : decode cX6_isTaken 5 = .ok (.iconst (-1), 1) := by decide +kernel
theorem dX6_isTaken_6 : decode cX6_isTaken 6 = .ok (.if_icmp .eq 16, 3) := by decide +kernel
theorem dX6_isTaken_9 : decode cX6_isTaken 9 = .ok (.aload_n 0, 1) := by decide +kernel
theorem dX6_isTaken_10 : decode cX6_isTaken 10 = .ok (.iload_n 2, 1) := by decide +kernel
theorem dX6_isTaken_11 : decode cX6_isTaken 11 = .ok (.invokevirtual 108, 3) := by decide +kernel
theorem dX6_isTaken_14 : decode cX6_isTaken 14 = .ok (.iload_n 1, 1) := by decide +kernel
theorem dX6_isTaken_15 : decode cX6_isTaken 15 = .ok (.if_icmp .eq 7, 3) := by decide +kernel
theorem dX6_isTaken_18 : decode cX6_isTaken 18 = .ok (.iconst 1, 1) := by decide +kernel
theorem dX6_isTaken_19 : decode cX6_isTaken 19 = .ok (.goto 4, 3) := by decide +kernel
theorem dX6_isTaken_22 : decode cX6_isTaken 22 = .ok (.iconst 0, 1) := by decide +kernel
theorem dX6_isTaken_23 : decode cX6_isTaken 23 = .ok (.ireturn, 1) := by decide +kernel
theorem dX6_wouldPlug_0 : decode cX6_wouldPlug 0 = .ok (.aload_n 0, 1) := by decide +kernel
theorem dX6_wouldPlug_1 : decode cX6_wouldPlug 1 = .ok (.iload_n 1, 1) := by decide +kernel
theorem dX6_wouldPlug_2 : decode cX6_wouldPlug 2 = .ok (.iload_n 2, 1) := by decide +kernel
theorem dX6_wouldPlug_3 : decode cX6_wouldPlug 3 = .ok (.invokevirtual 187, 3) := by decide +kernel
theorem dX6_wouldPlug_6 : decode cX6_wouldPlug 6 = .ok (.ifCond .eq 5, 3) := by decide +kernel
theorem dX6_wouldPlug_9 : decode cX6_wouldPlug 9 = .ok (.iconst (-1), 1) := by decide +kernel
theorem dX6_wouldPlug_10 : decode cX6_wouldPlug 10 = .ok (.ireturn, 1) := by decide +kernel
theorem dX6_wouldPlug_11 : decode cX6_wouldPlug 11 = .ok (.aload_n 0, 1) := by decide +kernel
theorem dX6_wouldPlug_12 : decode cX6_wouldPlug 12 = .ok (.invokevirtual 190, 3) := by decide +kernel
theorem dX6_wouldPlug_15 : decode cX6_wouldPlug 15 = .ok (.aload_n 0, 1) := by decide +kernel
theorem dX6_wouldPlug_16 : decode cX6_wouldPlug 16 = .ok (.iload_n 1, 1) := by decide +kernel
theorem dX6_wouldPlug_17 : decode cX6_wouldPlug 17 = .ok (.iconst 4, 1) := by decide +kernel
theorem dX6_wouldPlug_18 : decode cX6_wouldPlug 18 = .ok (.iload_n 2, 1) := by decide +kernel
theorem dX6_wouldPlug_19 : decode cX6_wouldPlug 19 = .ok (.invokevirtual 78, 3) := by decide +kernel
theorem dX6_wouldPlug_22 : decode cX6_wouldPlug 22 = .ok (.aload_n 0, 1) := by decide +kernel
theorem dX6_wouldPlug_23 : decode cX6_wouldPlug 23 = .ok (.iload_n 3, 1) := by decide +kernel
theorem dX6_wouldPlug_24 : decode cX6_wouldPlug 24 = .ok (.invokevirtual 123, 3) := by decide +kernel
theorem dX6_wouldPlug_27 : decode cX6_wouldPlug 27 = .ok (.istore 5, 2) := by decide +kernel
theorem dX6_wouldPlug_29 : decode cX6_wouldPlug 29 = .ok (.aload_n 0, 1) := by decide +kernel
theorem dX6_wouldPlug_30 : decode cX6_wouldPlug 30 = .ok (.bipush 7, 2) := by decide +kernel
theorem dX6_wouldPlug_32 : decode cX6_wouldPlug 32 = .ok (.invokevirtual 181, 3) := by decide +kernel
theorem dX6_wouldPlug_35 : decode cX6_wouldPlug 35 = .ok (.istore 6, 2) := by decide +kernel
theorem dX6_wouldPlug_37 : decode cX6_wouldPlug 37 = .ok (.aload_n 0, 1) := by decide +kernel
theorem dX6_wouldPlug_38 : decode cX6_wouldPlug 38 = .ok (.iload_n 1, 1) := by decide +kernel
theorem dX6_wouldPlug_39 : decode cX6_wouldPlug 39 = .ok (.bipush 6, 2) := by decide +kernel
theorem dX6_wouldPlug_41 : decode cX6_wouldPlug 41 = .ok (.invokevirtual 47, 3) := by decide +kernel
theorem dX6_wouldPlug_44 : decode cX6_wouldPlug 44 = .ok (.istore 7, 2) := by decide +kernel
theorem dX6_wouldPlug_46 : decode cX6_wouldPlug 46 = .ok (.aload_n 0, 1) := by decide +kernel
theorem dX6_wouldPlug_47 : decode cX6_wouldPlug 47 = .ok (.invokevirtual 193, 3) := by decide +kernel
theorem dX6_wouldPlug_50 : decode cX6_wouldPlug 50 = .ok (.iload 4, 2) := by decide +kernel
theorem dX6_wouldPlug_52 : decode cX6_wouldPlug 52 = .ok (.ifCond .ne 8, 3) := by decide +kernel
theorem dX6_wouldPlug_55 : decode cX6_wouldPlug 55 = .ok (.iload 5, 2) := by decide +kernel
theorem dX6_wouldPlug_57 : decode cX6_wouldPlug 57 = .ok (.goto 31, 3) := by decide +kernel
theorem dX6_wouldPlug_60 : decode cX6_wouldPlug 60 = .ok (.iload 4, 2) := by decide +kernel
theorem dX6_wouldPlug_62 : decode cX6_wouldPlug 62 = .ok (.iconst 1, 1) := by decide +kernel
theorem dX6_wouldPlug_63 : decode cX6_wouldPlug 63 = .ok (.if_icmp .ne 15, 3) := by decide +kernel
theorem dX6_wouldPlug_66 : decode cX6_wouldPlug 66 = .ok (.iload 6, 2) := by decide +kernel
theorem dX6_wouldPlug_68 : decode cX6_wouldPlug 68 = .ok (.aload_n 0, 1) := by decide +kernel
theorem dX6_wouldPlug_69 : decode cX6_wouldPlug 69 = .ok (.bipush 7, 2) := by decide +kernel
theorem dX6_wouldPlug_71 : decode cX6_wouldPlug 71 = .ok (.invokevirtual 181, 3) := by decide +kernel
theorem dX6_wouldPlug_74 : decode cX6_wouldPlug 74 = .ok (.isub, 1) := by decide +kernel
theorem dX6_wouldPlug_75 : decode cX6_wouldPlug 75 = .ok (.goto 13, 3) := by decide +kernel
theorem dX6_wouldPlug_78 : decode cX6_wouldPlug 78 = .ok (.iload 7, 2) := by decide +kernel
theorem dX6_wouldPlug_80 : decode cX6_wouldPlug 80 = .ok (.aload_n 0, 1) := by decide +kernel
theorem dX6_wouldPlug_81 : decode cX6_wouldPlug 81 = .ok (.iload_n 1, 1) := by decide +kernel
theorem dX6_wouldPlug_82 : decode cX6_wouldPlug 82 = .ok (.bipush 6, 2) := by decide +kernel
theorem dX6_wouldPlug_84 : decode cX6_wouldPlug 84 = .ok (.invokevirtual 47, 3) := by decide +kernel
theorem dX6_wouldPlug_87 : decode cX6_wouldPlug 87 = .ok (.isub, 1) := by decide +kernel
theorem dX6_wouldPlug_88 : decode cX6_wouldPlug 88 = .ok (.ireturn, 1) := by decide +kernel
theorem dX6_ifPlugged_0 : decode cX6_ifPlugged 0 = .ok (.aload_n 0, 1) := by decide +kernel
theorem dX6_ifPlugged_1 : decode cX6_ifPlugged 1 = .ok (.aload_n 0, 1) := by decide +kernel
theorem dX6_ifPlugged_2 : decode cX6_ifPlugged 2 = .ok (.iload_n 1, 1) := by decide +kernel
theorem dX6_ifPlugged_3 : decode cX6_ifPlugged 3 = .ok (.invokevirtual 102, 3) := by decide +kernel
theorem dX6_ifPlugged_6 : decode cX6_ifPlugged 6 = .ok (.ifCond .ne 7, 3) := by decide +kernel
theorem dX6_ifPlugged_9 : decode cX6_ifPlugged 9 = .ok (.iconst 1, 1) := by decide +kernel
theorem dX6_ifPlugged_10 : decode cX6_ifPlugged 10 = .ok (.goto 35, 3) := by decide +kernel
theorem dX6_ifPlugged_13 : decode cX6_ifPlugged 13 = .ok (.iload_n 2, 1) := by decide +kernel
theorem dX6_ifPlugged_14 : decode cX6_ifPlugged 14 = .ok (.invokestatic 105, 3) := by decide +kernel
theorem dX6_ifPlugged_17 : decode cX6_ifPlugged 17 = .ok (.ifCond .eq 27, 3) := by decide +kernel
theorem dX6_ifPlugged_20 : decode cX6_ifPlugged 20 = .ok (.iload_n 3, 1) := by decide +kernel
theorem dX6_ifPlugged_21 : decode cX6_ifPlugged 21 = .ok (.iconst 1, 1) := by decide +kernel
theorem dX6_ifPlugged_22 : decode cX6_ifPlugged 22 = .ok (.bipush 48, 2) := by decide +kernel
theorem dX6_ifPlugged_24 : decode cX6_ifPlugged 24 = .ok (.invokestatic 40, 3) := by decide +kernel
theorem dX6_ifPlugged_27 : decode cX6_ifPlugged 27 = .ok (.ifCond .eq 17, 3) := by decide +kernel
theorem dX6_ifPlugged_30 : decode cX6_ifPlugged 30 = .ok (.iload 4, 2) := by decide +kernel
theorem dX6_ifPlugged_32 : decode cX6_ifPlugged 32 = .ok (.iconst 0, 1) := by decide +kernel
theorem dX6_ifPlugged_33 : decode cX6_ifPlugged 33 = .ok (.iconst 2, 1) := by decide +kernel
theorem dX6_ifPlugged_34 : decode cX6_ifPlugged 34 = .ok (.invokestatic 40, 3) := by decide +kernel
theorem dX6_ifPlugged_37 : decode cX6_ifPlugged 37 = .ok (.ifCond .eq 7, 3) := by decide +kernel
theorem dX6_ifPlugged_40 : decode cX6_ifPlugged 40 = .ok (.iconst 0, 1) := by decide +kernel
theorem dX6_ifPlugged_41 : decode cX6_ifPlugged 41 = .ok (.goto 4, 3) := by decide +kernel
theorem dX6_ifPlugged_44 : decode cX6_ifPlugged 44 = .ok (.iconst 2, 1) := by decide +kernel
theorem dX6_ifPlugged_45 : decode cX6_ifPlugged 45 = .ok (.putfield 36, 3) := by decide +kernel
theorem dX6_ifPlugged_48 : decode cX6_ifPlugged 48 = .ok (.aload_n 0, 1) := by decide +kernel
theorem dX6_ifPlugged_49 : decode cX6_ifPlugged 49 = .ok (.getfield 36, 3) := by decide +kernel
theorem dX6_ifPlugged_52 : decode cX6_ifPlugged 52 = .ok (.ifCond .le 7, 3) := by decide +kernel
theorem dX6_ifPlugged_55 : decode cX6_ifPlugged 55 = .ok (.iconst 0, 1) := by decide +kernel
theorem dX6_ifPlugged_56 : decode cX6_ifPlugged 56 = .ok (.goto 12, 3) := by decide +kernel
theorem dX6_ifPlugged_59 : decode cX6_ifPlugged 59 = .ok (.aload_n 0, 1) := by decide +kernel
theorem dX6_ifPlugged_60 : decode cX6_ifPlugged 60 = .ok (.iload_n 1, 1) := by decide +kernel
theorem dX6_ifPlugged_61 : decode cX6_ifPlugged 61 = .ok (.iload_n 2, 1) := by decide +kernel
theorem dX6_ifPlugged_62 : decode cX6_ifPlugged 62 = .ok (.iload_n 3, 1) := by decide +kernel
theorem dX6_ifPlugged_63 : decode cX6_ifPlugged 63 = .ok (.iload 4, 2) := by decide +kernel
theorem dX6_ifPlugged_65 : decode cX6_ifPlugged 65 = .ok (.invokevirtual 196, 3) := by decide +kernel
theorem dX6_ifPlugged_68 : decode cX6_ifPlugged 68 = .ok (.ireturn, 1) := by decide +kernel
theorem dX6_hoursToTrip_0 : decode cX6_hoursToTrip 0 = .ok (.aload_n 0, 1) := by decide +kernel
theorem dX6_hoursToTrip_1 : decode cX6_hoursToTrip 1 = .ok (.invokevirtual 190, 3) := by decide +kernel
theorem dX6_hoursToTrip_4 : decode cX6_hoursToTrip 4 = .ok (.iconst 0, 1) := by decide +kernel
theorem dX6_hoursToTrip_5 : decode cX6_hoursToTrip 5 = .ok (.istore_n 2, 1) := by decide +kernel
theorem dX6_hoursToTrip_6 : decode cX6_hoursToTrip 6 = .ok (.iload_n 2, 1) := by decide +kernel
theorem dX6_hoursToTrip_7 : decode cX6_hoursToTrip 7 = .ok (.bipush 96, 2) := by decide +kernel
theorem dX6_hoursToTrip_9 : decode cX6_hoursToTrip 9 = .ok (.if_icmp .gt 24, 3) := by decide +kernel
theorem dX6_hoursToTrip_12 : decode cX6_hoursToTrip 12 = .ok (.aload_n 0, 1) := by decide +kernel
theorem dX6_hoursToTrip_13 : decode cX6_hoursToTrip 13 = .ok (.iload_n 1, 1) := by decide +kernel
theorem dX6_hoursToTrip_14 : decode cX6_hoursToTrip 14 = .ok (.iconst 1, 1) := by decide +kernel
theorem dX6_hoursToTrip_15 : decode cX6_hoursToTrip 15 = .ok (.invokevirtual 59, 3) := by decide +kernel
theorem dX6_hoursToTrip_18 : decode cX6_hoursToTrip 18 = .ok (.iconst 1, 1) := by decide +kernel
theorem dX6_hoursToTrip_19 : decode cX6_hoursToTrip 19 = .ok (.if_icmp .ne 14, 3) := by decide +kernel
theorem dX6_hoursToTrip_22 : decode cX6_hoursToTrip 22 = .ok (.aload_n 0, 1) := by decide +kernel
theorem dX6_hoursToTrip_23 : decode cX6_hoursToTrip 23 = .ok (.invokevirtual 91, 3) := by decide +kernel
theorem dX6_hoursToTrip_26 : decode cX6_hoursToTrip 26 = .ok (.pop, 1) := by decide +kernel
theorem dX6_hoursToTrip_27 : decode cX6_hoursToTrip 27 = .ok (.iinc 2 1, 3) := by decide +kernel
theorem dX6_hoursToTrip_30 : decode cX6_hoursToTrip 30 = .ok (.goto (-24), 3) := by decide +kernel
theorem dX6_hoursToTrip_33 : decode cX6_hoursToTrip 33 = .ok (.aload_n 0, 1) := by decide +kernel
theorem dX6_hoursToTrip_34 : decode cX6_hoursToTrip 34 = .ok (.invokevirtual 193, 3) := by decide +kernel
theorem dX6_hoursToTrip_37 : decode cX6_hoursToTrip 37 = .ok (.iload_n 2, 1) := by decide +kernel
theorem dX6_hoursToTrip_38 : decode cX6_hoursToTrip 38 = .ok (.bipush 96, 2) := by decide +kernel
theorem dX6_hoursToTrip_40 : decode cX6_hoursToTrip 40 = .ok (.if_icmp .gt 7, 3) := by decide +kernel
theorem dX6_hoursToTrip_43 : decode cX6_hoursToTrip 43 = .ok (.iload_n 2, 1) := by decide +kernel
theorem dX6_hoursToTrip_44 : decode cX6_hoursToTrip 44 = .ok (.goto 4, 3) := by decide +kernel
theorem dX6_hoursToTrip_47 : decode cX6_hoursToTrip 47 = .ok (.iconst (-1), 1) := by decide +kernel
theorem dX6_hoursToTrip_48 : decode cX6_hoursToTrip 48 = .ok (.ireturn, 1) := by decide +kernel
theorem dX6_tripsIn_0 : decode cX6_tripsIn 0 = .ok (.aload_n 0, 1) := by decide +kernel
theorem dX6_tripsIn_1 : decode cX6_tripsIn 1 = .ok (.iload_n 1, 1) := by decide +kernel
theorem dX6_tripsIn_2 : decode cX6_tripsIn 2 = .ok (.invokestatic 114, 3) := by decide +kernel
theorem dX6_tripsIn_5 : decode cX6_tripsIn 5 = .ok (.ifCond .eq 7, 3) := by decide +kernel
theorem dX6_tripsIn_8 : decode cX6_tripsIn 8 = .ok (.iconst 0, 1) := by decide +kernel
theorem dX6_tripsIn_9 : decode cX6_tripsIn 9 = .ok (.goto 4, 3) := by decide +kernel
theorem dX6_tripsIn_12 : decode cX6_tripsIn 12 = .ok (.iconst 1, 1) := by decide +kernel
theorem dX6_tripsIn_13 : decode cX6_tripsIn 13 = .ok (.putfield 36, 3) := by decide +kernel
theorem dX6_tripsIn_16 : decode cX6_tripsIn 16 = .ok (.aload_n 0, 1) := by decide +kernel
theorem dX6_tripsIn_17 : decode cX6_tripsIn 17 = .ok (.getfield 36, 3) := by decide +kernel
theorem dX6_tripsIn_20 : decode cX6_tripsIn 20 = .ok (.ifCond .le 7, 3) := by decide +kernel
theorem dX6_tripsIn_23 : decode cX6_tripsIn 23 = .ok (.iconst 0, 1) := by decide +kernel
theorem dX6_tripsIn_24 : decode cX6_tripsIn 24 = .ok (.goto 8, 3) := by decide +kernel
theorem dX6_tripsIn_27 : decode cX6_tripsIn 27 = .ok (.aload_n 0, 1) := by decide +kernel
theorem dX6_tripsIn_28 : decode cX6_tripsIn 28 = .ok (.iload_n 1, 1) := by decide +kernel
theorem dX6_tripsIn_29 : decode cX6_tripsIn 29 = .ok (.invokevirtual 199, 3) := by decide +kernel
theorem dX6_tripsIn_32 : decode cX6_tripsIn 32 = .ok (.ireturn, 1) := by decide +kernel
theorem dX6_bestFor_0 : decode cX6_bestFor 0 = .ok (.iconst (-1), 1) := by decide +kernel
theorem dX6_bestFor_1 : decode cX6_bestFor 1 = .ok (.istore_n 2, 1) := by decide +kernel
theorem dX6_bestFor_2 : decode cX6_bestFor 2 = .ok (.iconst 0, 1) := by decide +kernel
theorem dX6_bestFor_3 : decode cX6_bestFor 3 = .ok (.istore_n 3, 1) := by decide +kernel
theorem dX6_bestFor_4 : decode cX6_bestFor 4 = .ok (.iconst 0, 1) := by decide +kernel
theorem dX6_bestFor_5 : decode cX6_bestFor 5 = .ok (.istore 4, 2) := by decide +kernel
theorem dX6_bestFor_7 : decode cX6_bestFor 7 = .ok (.iconst 0, 1) := by decide +kernel
theorem dX6_bestFor_8 : decode cX6_bestFor 8 = .ok (.istore 5, 2) := by decide +kernel
theorem dX6_bestFor_10 : decode cX6_bestFor 10 = .ok (.iload 5, 2) := by decide +kernel
theorem dX6_bestFor_12 : decode cX6_bestFor 12 = .ok (.bipush 12, 2) := by decide +kernel
theorem dX6_bestFor_14 : decode cX6_bestFor 14 = .ok (.if_icmp .ge 112, 3) := by decide +kernel
theorem dX6_bestFor_17 : decode cX6_bestFor 17 = .ok (.aload_n 0, 1) := by decide +kernel
theorem dX6_bestFor_18 : decode cX6_bestFor 18 = .ok (.iload_n 1, 1) := by decide +kernel
theorem dX6_bestFor_19 : decode cX6_bestFor 19 = .ok (.iload 5, 2) := by decide +kernel
theorem dX6_bestFor_21 : decode cX6_bestFor 21 = .ok (.invokevirtual 187, 3) := by decide +kernel
theorem dX6_bestFor_24 : decode cX6_bestFor 24 = .ok (.ifCond .ne 96, 3) := by decide +kernel
theorem dX6_bestFor_27 : decode cX6_bestFor 27 = .ok (.aload_n 0, 1) := by decide +kernel
theorem dX6_bestFor_28 : decode cX6_bestFor 28 = .ok (.iload_n 1, 1) := by decide +kernel
theorem dX6_bestFor_29 : decode cX6_bestFor 29 = .ok (.iload 5, 2) := by decide +kernel
theorem dX6_bestFor_31 : decode cX6_bestFor 31 = .ok (.bipush 24, 2) := by decide +kernel
theorem dX6_bestFor_33 : decode cX6_bestFor 33 = .ok (.iconst 1, 1) := by decide +kernel
theorem dX6_bestFor_34 : decode cX6_bestFor 34 = .ok (.invokevirtual 196, 3) := by decide +kernel
theorem dX6_bestFor_37 : decode cX6_bestFor 37 = .ok (.istore 6, 2) := by decide +kernel
theorem dX6_bestFor_39 : decode cX6_bestFor 39 = .ok (.aload_n 0, 1) := by decide +kernel
theorem dX6_bestFor_40 : decode cX6_bestFor 40 = .ok (.iload_n 1, 1) := by decide +kernel
theorem dX6_bestFor_41 : decode cX6_bestFor 41 = .ok (.iload 5, 2) := by decide +kernel
theorem dX6_bestFor_43 : decode cX6_bestFor 43 = .ok (.bipush 24, 2) := by decide +kernel
theorem dX6_bestFor_45 : decode cX6_bestFor 45 = .ok (.iconst 0, 1) := by decide +kernel
theorem dX6_bestFor_46 : decode cX6_bestFor 46 = .ok (.invokevirtual 196, 3) := by decide +kernel
theorem dX6_bestFor_49 : decode cX6_bestFor 49 = .ok (.istore 7, 2) := by decide +kernel
theorem dX6_bestFor_51 : decode cX6_bestFor 51 = .ok (.iload_n 2, 1) := by decide +kernel
theorem dX6_bestFor_52 : decode cX6_bestFor 52 = .ok (.iconst (-1), 1) := by decide +kernel
theorem dX6_bestFor_53 : decode cX6_bestFor 53 = .ok (.if_icmp .eq 22, 3) := by decide +kernel
theorem dX6_bestFor_56 : decode cX6_bestFor 56 = .ok (.iload 6, 2) := by decide +kernel
theorem dX6_bestFor_58 : decode cX6_bestFor 58 = .ok (.iload_n 3, 1) := by decide +kernel
theorem dX6_bestFor_59 : decode cX6_bestFor 59 = .ok (.if_icmp .lt 16, 3) := by decide +kernel
theorem dX6_bestFor_62 : decode cX6_bestFor 62 = .ok (.iload 6, 2) := by decide +kernel
theorem dX6_bestFor_64 : decode cX6_bestFor 64 = .ok (.iload_n 3, 1) := by decide +kernel
theorem dX6_bestFor_65 : decode cX6_bestFor 65 = .ok (.if_icmp .ne 14, 3) := by decide +kernel
theorem dX6_bestFor_68 : decode cX6_bestFor 68 = .ok (.iload 7, 2) := by decide +kernel
theorem dX6_bestFor_70 : decode cX6_bestFor 70 = .ok (.iload 4, 2) := by decide +kernel
theorem dX6_bestFor_72 : decode cX6_bestFor 72 = .ok (.if_icmp .ge 7, 3) := by decide +kernel
theorem dX6_bestFor_75 : decode cX6_bestFor 75 = .ok (.iconst 1, 1) := by decide +kernel
theorem dX6_bestFor_76 : decode cX6_bestFor 76 = .ok (.goto 4, 3) := by decide +kernel
theorem dX6_bestFor_79 : decode cX6_bestFor 79 = .ok (.iconst 0, 1) := by decide +kernel
theorem dX6_bestFor_80 : decode cX6_bestFor 80 = .ok (.istore 8, 2) := by decide +kernel
theorem dX6_bestFor_82 : decode cX6_bestFor 82 = .ok (.iload 8, 2) := by decide +kernel
theorem dX6_bestFor_84 : decode cX6_bestFor 84 = .ok (.ifCond .eq 8, 3) := by decide +kernel
theorem dX6_bestFor_87 : decode cX6_bestFor 87 = .ok (.iload 5, 2) := by decide +kernel
theorem dX6_bestFor_89 : decode cX6_bestFor 89 = .ok (.goto 4, 3) := by decide +kernel
theorem dX6_bestFor_92 : decode cX6_bestFor 92 = .ok (.iload_n 2, 1) := by decide +kernel
theorem dX6_bestFor_93 : decode cX6_bestFor 93 = .ok (.istore_n 2, 1) := by decide +kernel
theorem dX6_bestFor_94 : decode cX6_bestFor 94 = .ok (.iload 8, 2) := by decide +kernel
theorem dX6_bestFor_96 : decode cX6_bestFor 96 = .ok (.ifCond .eq 8, 3) := by decide +kernel
theorem dX6_bestFor_99 : decode cX6_bestFor 99 = .ok (.iload 6, 2) := by decide +kernel
theorem dX6_bestFor_101 : decode cX6_bestFor 101 = .ok (.goto 4, 3) := by decide +kernel
theorem dX6_bestFor_104 : decode cX6_bestFor 104 = .ok (.iload_n 3, 1) := by decide +kernel
theorem dX6_bestFor_105 : decode cX6_bestFor 105 = .ok (.istore_n 3, 1) := by decide +kernel
theorem dX6_bestFor_106 : decode cX6_bestFor 106 = .ok (.iload 8, 2) := by decide +kernel
theorem dX6_bestFor_108 : decode cX6_bestFor 108 = .ok (.ifCond .eq 8, 3) := by decide +kernel
theorem dX6_bestFor_111 : decode cX6_bestFor 111 = .ok (.iload 7, 2) := by decide +kernel
theorem dX6_bestFor_113 : decode cX6_bestFor 113 = .ok (.goto 5, 3) := by decide +kernel
theorem dX6_bestFor_116 : decode cX6_bestFor 116 = .ok (.iload 4, 2) := by decide +kernel
theorem dX6_bestFor_118 : decode cX6_bestFor 118 = .ok (.istore 4, 2) := by decide +kernel
theorem dX6_bestFor_120 : decode cX6_bestFor 120 = .ok (.iinc 5 1, 3) := by decide +kernel
theorem dX6_bestFor_123 : decode cX6_bestFor 123 = .ok (.goto (-113), 3) := by decide +kernel
theorem dX6_bestFor_126 : decode cX6_bestFor 126 = .ok (.iload_n 2, 1) := by decide +kernel
theorem dX6_bestFor_127 : decode cX6_bestFor 127 = .ok (.ireturn, 1) := by decide +kernel
theorem dX6_bestSocket_0 : decode cX6_bestSocket 0 = .ok (.aload_n 0, 1) := by decide +kernel
theorem dX6_bestSocket_1 : decode cX6_bestSocket 1 = .ok (.aload_n 0, 1) := by decide +kernel
theorem dX6_bestSocket_2 : decode cX6_bestSocket 2 = .ok (.iload_n 1, 1) := by decide +kernel
theorem dX6_bestSocket_3 : decode cX6_bestSocket 3 = .ok (.invokevirtual 102, 3) := by decide +kernel
theorem dX6_bestSocket_6 : decode cX6_bestSocket 6 = .ok (.ifCond .eq 7, 3) := by decide +kernel
theorem dX6_bestSocket_9 : decode cX6_bestSocket 9 = .ok (.iconst 0, 1) := by decide +kernel
theorem dX6_bestSocket_10 : decode cX6_bestSocket 10 = .ok (.goto 4, 3) := by decide +kernel
theorem dX6_bestSocket_13 : decode cX6_bestSocket 13 = .ok (.iconst 1, 1) := by decide +kernel
theorem dX6_bestSocket_14 : decode cX6_bestSocket 14 = .ok (.putfield 36, 3) := by decide +kernel
theorem dX6_bestSocket_17 : decode cX6_bestSocket 17 = .ok (.aload_n 0, 1) := by decide +kernel
theorem dX6_bestSocket_18 : decode cX6_bestSocket 18 = .ok (.getfield 36, 3) := by decide +kernel
theorem dX6_bestSocket_21 : decode cX6_bestSocket 21 = .ok (.ifCond .le 7, 3) := by decide +kernel
theorem dX6_bestSocket_24 : decode cX6_bestSocket 24 = .ok (.iconst 0, 1) := by decide +kernel
theorem dX6_bestSocket_25 : decode cX6_bestSocket 25 = .ok (.goto 8, 3) := by decide +kernel
theorem dX6_bestSocket_28 : decode cX6_bestSocket 28 = .ok (.aload_n 0, 1) := by decide +kernel
theorem dX6_bestSocket_29 : decode cX6_bestSocket 29 = .ok (.iload_n 1, 1) := by decide +kernel
theorem dX6_bestSocket_30 : decode cX6_bestSocket 30 = .ok (.invokevirtual 202, 3) := by decide +kernel
theorem dX6_bestSocket_33 : decode cX6_bestSocket 33 = .ok (.ireturn, 1) := by decide +kernel
theorem dX6_least_0 : decode cX6_least 0 = .ok (.iconst (-1), 1) := by decide +kernel
theorem dX6_least_1 : decode cX6_least 1 = .ok (.istore_n 2, 1) := by decide +kernel
theorem dX6_least_2 : decode cX6_least 2 = .ok (.bipush 10, 2) := by decide +kernel
theorem dX6_least_4 : decode cX6_least 4 = .ok (.istore_n 3, 1) := by decide +kernel
theorem dX6_least_5 : decode cX6_least 5 = .ok (.iload_n 3, 1) := by decide +kernel
theorem dX6_least_6 : decode cX6_least 6 = .ok (.sipush 999, 3) := by decide +kernel
theorem dX6_least_9 : decode cX6_least 9 = .ok (.if_icmp .gt 81, 3) := by decide +kernel
theorem dX6_least_12 : decode cX6_least 12 = .ok (.iload_n 2, 1) := by decide +kernel
theorem dX6_least_13 : decode cX6_least 13 = .ok (.iconst (-1), 1) := by decide +kernel
theorem dX6_least_14 : decode cX6_least 14 = .ok (.if_icmp .ne 76, 3) := by decide +kernel
theorem dX6_least_17 : decode cX6_least 17 = .ok (.aload_n 0, 1) := by decide +kernel
theorem dX6_least_18 : decode cX6_least 18 = .ok (.invokevirtual 190, 3) := by decide +kernel
theorem dX6_least_21 : decode cX6_least 21 = .ok (.aload_n 0, 1) := by decide +kernel
theorem dX6_least_22 : decode cX6_least 22 = .ok (.iload_n 1, 1) := by decide +kernel
theorem dX6_least_23 : decode cX6_least 23 = .ok (.iconst 0, 1) := by decide +kernel
theorem dX6_least_24 : decode cX6_least 24 = .ok (.iload_n 3, 1) := by decide +kernel
theorem dX6_least_25 : decode cX6_least 25 = .ok (.invokevirtual 32, 3) := by decide +kernel
theorem dX6_least_28 : decode cX6_least 28 = .ok (.aload_n 0, 1) := by decide +kernel
theorem dX6_least_29 : decode cX6_least 29 = .ok (.iload_n 1, 1) := by decide +kernel
theorem dX6_least_30 : decode cX6_least 30 = .ok (.invokevirtual 117, 3) := by decide +kernel
theorem dX6_least_33 : decode cX6_least 33 = .ok (.iconst 0, 1) := by decide +kernel
theorem dX6_least_34 : decode cX6_least 34 = .ok (.istore 4, 2) := by decide +kernel
theorem dX6_least_36 : decode cX6_least 36 = .ok (.iload 4, 2) := by decide +kernel
theorem dX6_least_38 : decode cX6_least 38 = .ok (.bipush 48, 2) := by decide +kernel
theorem dX6_least_40 : decode cX6_least 40 = .ok (.if_icmp .ge 24, 3) := by decide +kernel
theorem dX6_least_43 : decode cX6_least 43 = .ok (.aload_n 0, 1) := by decide +kernel
theorem dX6_least_44 : decode cX6_least 44 = .ok (.iload_n 1, 1) := by decide +kernel
theorem dX6_least_45 : decode cX6_least 45 = .ok (.iconst 1, 1) := by decide +kernel
theorem dX6_least_46 : decode cX6_least 46 = .ok (.invokevirtual 59, 3) := by decide +kernel
theorem dX6_least_49 : decode cX6_least 49 = .ok (.iconst 1, 1) := by decide +kernel
theorem dX6_least_50 : decode cX6_least 50 = .ok (.if_icmp .ne 14, 3) := by decide +kernel
theorem dX6_least_53 : decode cX6_least 53 = .ok (.aload_n 0, 1) := by decide +kernel
theorem dX6_least_54 : decode cX6_least 54 = .ok (.invokevirtual 91, 3) := by decide +kernel
theorem dX6_least_57 : decode cX6_least 57 = .ok (.pop, 1) := by decide +kernel
theorem dX6_least_58 : decode cX6_least 58 = .ok (.iinc 4 1, 3) := by decide +kernel
theorem dX6_least_61 : decode cX6_least 61 = .ok (.goto (-25), 3) := by decide +kernel
theorem dX6_least_64 : decode cX6_least 64 = .ok (.aload_n 0, 1) := by decide +kernel
theorem dX6_least_65 : decode cX6_least 65 = .ok (.iload_n 1, 1) := by decide +kernel
theorem dX6_least_66 : decode cX6_least 66 = .ok (.iconst 1, 1) := by decide +kernel
theorem dX6_least_67 : decode cX6_least 67 = .ok (.invokevirtual 59, 3) := by decide +kernel
theorem dX6_least_70 : decode cX6_least 70 = .ok (.iconst 1, 1) := by decide +kernel
theorem dX6_least_71 : decode cX6_least 71 = .ok (.if_icmp .ne 7, 3) := by decide +kernel
theorem dX6_least_74 : decode cX6_least 74 = .ok (.iload_n 3, 1) := by decide +kernel
theorem dX6_least_75 : decode cX6_least 75 = .ok (.goto 4, 3) := by decide +kernel
theorem dX6_least_78 : decode cX6_least 78 = .ok (.iconst (-1), 1) := by decide +kernel
theorem dX6_least_79 : decode cX6_least 79 = .ok (.istore_n 2, 1) := by decide +kernel
theorem dX6_least_80 : decode cX6_least 80 = .ok (.aload_n 0, 1) := by decide +kernel
theorem dX6_least_81 : decode cX6_least 81 = .ok (.invokevirtual 193, 3) := by decide +kernel
theorem dX6_least_84 : decode cX6_least 84 = .ok (.iinc 3 1, 3) := by decide +kernel
theorem dX6_least_87 : decode cX6_least 87 = .ok (.goto (-82), 3) := by decide +kernel
theorem dX6_least_90 : decode cX6_least 90 = .ok (.iload_n 2, 1) := by decide +kernel
theorem dX6_least_91 : decode cX6_least 91 = .ok (.ireturn, 1) := by decide +kernel
theorem dX6_leastBound_0 : decode cX6_leastBound 0 = .ok (.aload_n 0, 1) := by decide +kernel
theorem dX6_leastBound_1 : decode cX6_leastBound 1 = .ok (.iload_n 1, 1) := by decide +kernel
theorem dX6_leastBound_2 : decode cX6_leastBound 2 = .ok (.invokestatic 114, 3) := by decide +kernel
theorem dX6_leastBound_5 : decode cX6_leastBound 5 = .ok (.ifCond .eq 7, 3) := by decide +kernel
theorem dX6_leastBound_8 : decode cX6_leastBound 8 = .ok (.iconst 0, 1) := by decide +kernel
theorem dX6_leastBound_9 : decode cX6_leastBound 9 = .ok (.goto 4, 3) := by decide +kernel
theorem dX6_leastBound_12 : decode cX6_leastBound 12 = .ok (.iconst 1, 1) := by decide +kernel
theorem dX6_leastBound_13 : decode cX6_leastBound 13 = .ok (.putfield 36, 3) := by decide +kernel
theorem dX6_leastBound_16 : decode cX6_leastBound 16 = .ok (.aload_n 0, 1) := by decide +kernel
theorem dX6_leastBound_17 : decode cX6_leastBound 17 = .ok (.getfield 36, 3) := by decide +kernel
theorem dX6_leastBound_20 : decode cX6_leastBound 20 = .ok (.ifCond .le 7, 3) := by decide +kernel
theorem dX6_leastBound_23 : decode cX6_leastBound 23 = .ok (.iconst 0, 1) := by decide +kernel
theorem dX6_leastBound_24 : decode cX6_leastBound 24 = .ok (.goto 8, 3) := by decide +kernel
theorem dX6_leastBound_27 : decode cX6_leastBound 27 = .ok (.aload_n 0, 1) := by decide +kernel
theorem dX6_leastBound_28 : decode cX6_leastBound 28 = .ok (.iload_n 1, 1) := by decide +kernel
theorem dX6_leastBound_29 : decode cX6_leastBound 29 = .ok (.invokevirtual 205, 3) := by decide +kernel
theorem dX6_leastBound_32 : decode cX6_leastBound 32 = .ok (.ireturn, 1) := by decide +kernel
theorem dX6_share_0 : decode cX6_share 0 = .ok (.aload_n 0, 1) := by decide +kernel
theorem dX6_share_1 : decode cX6_share 1 = .ok (.getfield 7, 3) := by decide +kernel
theorem dX6_share_4 : decode cX6_share 4 = .ok (.bipush 6, 2) := by decide +kernel
theorem dX6_share_6 : decode cX6_share 6 = .ok (.iaload, 1) := by decide +kernel
theorem dX6_share_7 : decode cX6_share 7 = .ok (.aload_n 0, 1) := by decide +kernel
theorem dX6_share_8 : decode cX6_share 8 = .ok (.bipush 7, 2) := by decide +kernel
theorem dX6_share_10 : decode cX6_share 10 = .ok (.invokevirtual 181, 3) := by decide +kernel
theorem dX6_share_13 : decode cX6_share 13 = .ok (.iadd, 1) := by decide +kernel
theorem dX6_share_14 : decode cX6_share 14 = .ok (.istore_n 1, 1) := by decide +kernel
theorem dX6_share_15 : decode cX6_share 15 = .ok (.iload_n 1, 1) := by decide +kernel
theorem dX6_share_16 : decode cX6_share 16 = .ok (.ifCond .ne 7, 3) := by decide +kernel
theorem dX6_share_19 : decode cX6_share 19 = .ok (.dconst 1, 1) := by decide +kernel
theorem dX6_share_20 : decode cX6_share 20 = .ok (.goto 14, 3) := by decide +kernel
theorem dX6_share_23 : decode cX6_share 23 = .ok (.aload_n 0, 1) := by decide +kernel
theorem dX6_share_24 : decode cX6_share 24 = .ok (.getfield 7, 3) := by decide +kernel
theorem dX6_share_27 : decode cX6_share 27 = .ok (.bipush 6, 2) := by decide +kernel
theorem dX6_share_29 : decode cX6_share 29 = .ok (.iaload, 1) := by decide +kernel
theorem dX6_share_30 : decode cX6_share 30 = .ok (.i2d, 1) := by decide +kernel
theorem dX6_share_31 : decode cX6_share 31 = .ok (.iload_n 1, 1) := by decide +kernel
theorem dX6_share_32 : decode cX6_share 32 = .ok (.i2d, 1) := by decide +kernel
theorem dX6_share_33 : decode cX6_share 33 = .ok (.ddiv, 1) := by decide +kernel
theorem dX6_share_34 : decode cX6_share 34 = .ok (.dreturn, 1) := by decide +kernel
theorem dX6_servedShare_0 : decode cX6_servedShare 0 = .ok (.aload_n 0, 1) := by decide +kernel
theorem dX6_servedShare_1 : decode cX6_servedShare 1 = .ok (.iconst 0, 1) := by decide +kernel
theorem dX6_servedShare_2 : decode cX6_servedShare 2 = .ok (.putfield 36, 3) := by decide +kernel
theorem dX6_servedShare_5 : decode cX6_servedShare 5 = .ok (.aload_n 0, 1) := by decide +kernel
theorem dX6_servedShare_6 : decode cX6_servedShare 6 = .ok (.invokevirtual 208, 3) := by decide +kernel
theorem dX6_servedShare_9 : decode cX6_servedShare 9 = .ok (.dreturn, 1) := by decide +kernel
theorem dX6_bitsOf_0 : decode cX6_bitsOf 0 = .ok (.dload_n 0, 1) := by decide +kernel
theorem dX6_bitsOf_1 : decode cX6_bitsOf 1 = .ok (.dconst 0, 1) := by decide +kernel
theorem dX6_bitsOf_2 : decode cX6_bitsOf 2 = .ok (.dcmp .l, 1) := by decide +kernel
theorem dX6_bitsOf_3 : decode cX6_bitsOf 3 = .ok (.ifCond .ne 5, 3) := by decide +kernel
theorem dX6_bitsOf_6 : decode cX6_bitsOf 6 = .ok (.lconst 0, 1) := by decide +kernel
theorem dX6_bitsOf_7 : decode cX6_bitsOf 7 = .ok (.lreturn, 1) := by decide +kernel
theorem dX6_bitsOf_8 : decode cX6_bitsOf 8 = .ok (.dload_n 0, 1) := by decide +kernel
theorem dX6_bitsOf_9 : decode cX6_bitsOf 9 = .ok (.dstore_n 2, 1) := by decide +kernel
theorem dX6_bitsOf_10 : decode cX6_bitsOf 10 = .ok (.ldc2_w 212, 3) := by decide +kernel
theorem dX6_bitsOf_13 : decode cX6_bitsOf 13 = .ok (.lstore 4, 2) := by decide +kernel
theorem dX6_bitsOf_15 : decode cX6_bitsOf 15 = .ok (.dload_n 2, 1) := by decide +kernel
theorem dX6_bitsOf_16 : decode cX6_bitsOf 16 = .ok (.ldc2_w 214, 3) := by decide +kernel
theorem dX6_bitsOf_19 : decode cX6_bitsOf 19 = .ok (.dcmp .l, 1) := by decide +kernel
theorem dX6_bitsOf_20 : decode cX6_bitsOf 20 = .ok (.ifCond .lt 18, 3) := by decide +kernel
theorem dX6_bitsOf_23 : decode cX6_bitsOf 23 = .ok (.dload_n 2, 1) := by decide +kernel
theorem dX6_bitsOf_24 : decode cX6_bitsOf 24 = .ok (.ldc2_w 214, 3) := by decide +kernel
theorem dX6_bitsOf_27 : decode cX6_bitsOf 27 = .ok (.ddiv, 1) := by decide +kernel
theorem dX6_bitsOf_28 : decode cX6_bitsOf 28 = .ok (.dstore_n 2, 1) := by decide +kernel
theorem dX6_bitsOf_29 : decode cX6_bitsOf 29 = .ok (.lload 4, 2) := by decide +kernel
theorem dX6_bitsOf_31 : decode cX6_bitsOf 31 = .ok (.lconst 1, 1) := by decide +kernel
theorem dX6_bitsOf_32 : decode cX6_bitsOf 32 = .ok (.ladd, 1) := by decide +kernel
theorem dX6_bitsOf_33 : decode cX6_bitsOf 33 = .ok (.lstore 4, 2) := by decide +kernel
theorem dX6_bitsOf_35 : decode cX6_bitsOf 35 = .ok (.goto (-20), 3) := by decide +kernel
theorem dX6_bitsOf_38 : decode cX6_bitsOf 38 = .ok (.dload_n 2, 1) := by decide +kernel
theorem dX6_bitsOf_39 : decode cX6_bitsOf 39 = .ok (.dconst 1, 1) := by decide +kernel
theorem dX6_bitsOf_40 : decode cX6_bitsOf 40 = .ok (.dcmp .g, 1) := by decide +kernel
theorem dX6_bitsOf_41 : decode cX6_bitsOf 41 = .ok (.ifCond .ge 18, 3) := by decide +kernel
theorem dX6_bitsOf_44 : decode cX6_bitsOf 44 = .ok (.dload_n 2, 1) := by decide +kernel
theorem dX6_bitsOf_45 : decode cX6_bitsOf 45 = .ok (.ldc2_w 214, 3) := by decide +kernel
theorem dX6_bitsOf_48 : decode cX6_bitsOf 48 = .ok (.dmul, 1) := by decide +kernel
theorem dX6_bitsOf_49 : decode cX6_bitsOf 49 = .ok (.dstore_n 2, 1) := by decide +kernel
theorem dX6_bitsOf_50 : decode cX6_bitsOf 50 = .ok (.lload 4, 2) := by decide +kernel
theorem dX6_bitsOf_52 : decode cX6_bitsOf 52 = .ok (.lconst 1, 1) := by decide +kernel
theorem dX6_bitsOf_53 : decode cX6_bitsOf 53 = .ok (.lsub, 1) := by decide +kernel
theorem dX6_bitsOf_54 : decode cX6_bitsOf 54 = .ok (.lstore 4, 2) := by decide +kernel
theorem dX6_bitsOf_56 : decode cX6_bitsOf 56 = .ok (.goto (-18), 3) := by decide +kernel
theorem dX6_bitsOf_59 : decode cX6_bitsOf 59 = .ok (.lload 4, 2) := by decide +kernel
theorem dX6_bitsOf_61 : decode cX6_bitsOf 61 = .ok (.bipush 52, 2) := by decide +kernel
theorem dX6_bitsOf_63 : decode cX6_bitsOf 63 = .ok (.lshl, 1) := by decide +kernel
theorem dX6_bitsOf_64 : decode cX6_bitsOf 64 = .ok (.dload_n 2, 1) := by decide +kernel
theorem dX6_bitsOf_65 : decode cX6_bitsOf 65 = .ok (.ldc2_w 216, 3) := by decide +kernel
theorem dX6_bitsOf_68 : decode cX6_bitsOf 68 = .ok (.dmul, 1) := by decide +kernel
theorem dX6_bitsOf_69 : decode cX6_bitsOf 69 = .ok (.d2l, 1) := by decide +kernel
theorem dX6_bitsOf_70 : decode cX6_bitsOf 70 = .ok (.ladd, 1) := by decide +kernel
theorem dX6_bitsOf_71 : decode cX6_bitsOf 71 = .ok (.ldc2_w 218, 3) := by decide +kernel
theorem dX6_bitsOf_74 : decode cX6_bitsOf 74 = .ok (.lsub, 1) := by decide +kernel
theorem dX6_bitsOf_75 : decode cX6_bitsOf 75 = .ok (.lreturn, 1) := by decide +kernel
theorem dX6_mix_0 : decode cX6_mix 0 = .ok (.aload_n 0, 1) := by decide +kernel
theorem dX6_mix_1 : decode cX6_mix 1 = .ok (.ldc2_w 220, 3) := by decide +kernel
theorem dX6_mix_4 : decode cX6_mix 4 = .ok (.aload_n 0, 1) := by decide +kernel
theorem dX6_mix_5 : decode cX6_mix 5 = .ok (.getfield 222, 3) := by decide +kernel
theorem dX6_mix_8 : decode cX6_mix 8 = .ok (.lmul, 1) := by decide +kernel
theorem dX6_mix_9 : decode cX6_mix 9 = .ok (.lload_n 1, 1) := by decide +kernel
theorem dX6_mix_10 : decode cX6_mix 10 = .ok (.ladd, 1) := by decide +kernel
theorem dX6_mix_11 : decode cX6_mix 11 = .ok (.putfield 222, 3) := by decide +kernel
theorem dX6_mix_14 : decode cX6_mix 14 = .ok (.return_, 1) := by decide +kernel
theorem dX6_mixStall_0 : decode cX6_mixStall 0 = .ok (.iconst 0, 1) := by decide +kernel
theorem dX6_mixStall_1 : decode cX6_mixStall 1 = .ok (.istore_n 2, 1) := by decide +kernel
theorem dX6_mixStall_2 : decode cX6_mixStall 2 = .ok (.iload_n 2, 1) := by decide +kernel
theorem dX6_mixStall_3 : decode cX6_mixStall 3 = .ok (.bipush 9, 2) := by decide +kernel
theorem dX6_mixStall_5 : decode cX6_mixStall 5 = .ok (.if_icmp .gt 20, 3) := by decide +kernel
theorem dX6_mixStall_8 : decode cX6_mixStall 8 = .ok (.aload_n 0, 1) := by decide +kernel
theorem dX6_mixStall_9 : decode cX6_mixStall 9 = .ok (.aload_n 0, 1) := by decide +kernel
theorem dX6_mixStall_10 : decode cX6_mixStall 10 = .ok (.iload_n 1, 1) := by decide +kernel
theorem dX6_mixStall_11 : decode cX6_mixStall 11 = .ok (.iload_n 2, 1) := by decide +kernel
theorem dX6_mixStall_12 : decode cX6_mixStall 12 = .ok (.invokevirtual 166, 3) := by decide +kernel
theorem dX6_mixStall_15 : decode cX6_mixStall 15 = .ok (.i2l, 1) := by decide +kernel
theorem dX6_mixStall_16 : decode cX6_mixStall 16 = .ok (.invokevirtual 226, 3) := by decide +kernel
theorem dX6_mixStall_19 : decode cX6_mixStall 19 = .ok (.iinc 2 1, 3) := by decide +kernel
theorem dX6_mixStall_22 : decode cX6_mixStall 22 = .ok (.goto (-20), 3) := by decide +kernel
theorem dX6_mixStall_25 : decode cX6_mixStall 25 = .ok (.iconst 0, 1) := by decide +kernel
theorem dX6_mixStall_26 : decode cX6_mixStall 26 = .ok (.istore_n 2, 1) := by decide +kernel
theorem dX6_mixStall_27 : decode cX6_mixStall 27 = .ok (.iload_n 2, 1) := by decide +kernel
theorem dX6_mixStall_28 : decode cX6_mixStall 28 = .ok (.iconst 2, 1) := by decide +kernel
theorem dX6_mixStall_29 : decode cX6_mixStall 29 = .ok (.if_icmp .gt 24, 3) := by decide +kernel
theorem dX6_mixStall_32 : decode cX6_mixStall 32 = .ok (.aload_n 0, 1) := by decide +kernel
theorem dX6_mixStall_33 : decode cX6_mixStall 33 = .ok (.aload_n 0, 1) := by decide +kernel
theorem dX6_mixStall_34 : decode cX6_mixStall 34 = .ok (.iload_n 1, 1) := by decide +kernel
theorem dX6_mixStall_35 : decode cX6_mixStall 35 = .ok (.bipush 10, 2) := by decide +kernel
theorem dX6_mixStall_37 : decode cX6_mixStall 37 = .ok (.bipush 12, 2) := by decide +kernel
theorem dX6_mixStall_39 : decode cX6_mixStall 39 = .ok (.iload_n 2, 1) := by decide +kernel
theorem dX6_mixStall_40 : decode cX6_mixStall 40 = .ok (.invokevirtual 196, 3) := by decide +kernel
theorem dX6_mixStall_43 : decode cX6_mixStall 43 = .ok (.i2l, 1) := by decide +kernel
theorem dX6_mixStall_44 : decode cX6_mixStall 44 = .ok (.invokevirtual 226, 3) := by decide +kernel
theorem dX6_mixStall_47 : decode cX6_mixStall 47 = .ok (.iinc 2 1, 3) := by decide +kernel
theorem dX6_mixStall_50 : decode cX6_mixStall 50 = .ok (.goto (-23), 3) := by decide +kernel
theorem dX6_mixStall_53 : decode cX6_mixStall 53 = .ok (.aload_n 0, 1) := by decide +kernel
theorem dX6_mixStall_54 : decode cX6_mixStall 54 = .ok (.aload_n 0, 1) := by decide +kernel
theorem dX6_mixStall_55 : decode cX6_mixStall 55 = .ok (.iload_n 1, 1) := by decide +kernel
theorem dX6_mixStall_56 : decode cX6_mixStall 56 = .ok (.invokevirtual 202, 3) := by decide +kernel
theorem dX6_mixStall_59 : decode cX6_mixStall 59 = .ok (.i2l, 1) := by decide +kernel
theorem dX6_mixStall_60 : decode cX6_mixStall 60 = .ok (.invokevirtual 226, 3) := by decide +kernel
theorem dX6_mixStall_63 : decode cX6_mixStall 63 = .ok (.return_, 1) := by decide +kernel
theorem dX6_mixBreaker_0 : decode cX6_mixBreaker 0 = .ok (.iconst 0, 1) := by decide +kernel
theorem dX6_mixBreaker_1 : decode cX6_mixBreaker 1 = .ok (.istore_n 2, 1) := by decide +kernel
theorem dX6_mixBreaker_2 : decode cX6_mixBreaker 2 = .ok (.iload_n 2, 1) := by decide +kernel
theorem dX6_mixBreaker_3 : decode cX6_mixBreaker 3 = .ok (.bipush 6, 2) := by decide +kernel
theorem dX6_mixBreaker_5 : decode cX6_mixBreaker 5 = .ok (.if_icmp .gt 20, 3) := by decide +kernel
theorem dX6_mixBreaker_8 : decode cX6_mixBreaker 8 = .ok (.aload_n 0, 1) := by decide +kernel
theorem dX6_mixBreaker_9 : decode cX6_mixBreaker 9 = .ok (.aload_n 0, 1) := by decide +kernel
theorem dX6_mixBreaker_10 : decode cX6_mixBreaker 10 = .ok (.iload_n 1, 1) := by decide +kernel
theorem dX6_mixBreaker_11 : decode cX6_mixBreaker 11 = .ok (.iload_n 2, 1) := by decide +kernel
theorem dX6_mixBreaker_12 : decode cX6_mixBreaker 12 = .ok (.invokevirtual 172, 3) := by decide +kernel
theorem dX6_mixBreaker_15 : decode cX6_mixBreaker 15 = .ok (.i2l, 1) := by decide +kernel
theorem dX6_mixBreaker_16 : decode cX6_mixBreaker 16 = .ok (.invokevirtual 226, 3) := by decide +kernel
theorem dX6_mixBreaker_19 : decode cX6_mixBreaker 19 = .ok (.iinc 2 1, 3) := by decide +kernel
theorem dX6_mixBreaker_22 : decode cX6_mixBreaker 22 = .ok (.goto (-20), 3) := by decide +kernel
theorem dX6_mixBreaker_25 : decode cX6_mixBreaker 25 = .ok (.aload_n 0, 1) := by decide +kernel
theorem dX6_mixBreaker_26 : decode cX6_mixBreaker 26 = .ok (.aload_n 0, 1) := by decide +kernel
theorem dX6_mixBreaker_27 : decode cX6_mixBreaker 27 = .ok (.iload_n 1, 1) := by decide +kernel
theorem dX6_mixBreaker_28 : decode cX6_mixBreaker 28 = .ok (.invokevirtual 199, 3) := by decide +kernel
theorem dX6_mixBreaker_31 : decode cX6_mixBreaker 31 = .ok (.i2l, 1) := by decide +kernel
theorem dX6_mixBreaker_32 : decode cX6_mixBreaker 32 = .ok (.invokevirtual 226, 3) := by decide +kernel
theorem dX6_mixBreaker_35 : decode cX6_mixBreaker 35 = .ok (.return_, 1) := by decide +kernel
theorem dX6_digest_0 : decode cX6_digest 0 = .ok (.aload_n 0, 1) := by decide +kernel
theorem dX6_digest_1 : decode cX6_digest 1 = .ok (.iconst 0, 1) := by decide +kernel
theorem dX6_digest_2 : decode cX6_digest 2 = .ok (.putfield 36, 3) := by decide +kernel
theorem dX6_digest_5 : decode cX6_digest 5 = .ok (.aload_n 0, 1) := by decide +kernel
theorem dX6_digest_6 : decode cX6_digest 6 = .ok (.ldc2_w 230, 3) := by decide +kernel
theorem dX6_digest_9 : decode cX6_digest 9 = .ok (.putfield 222, 3) := by decide +kernel
theorem dX6_digest_12 : decode cX6_digest 12 = .ok (.iconst 0, 1) := by decide +kernel
theorem dX6_digest_13 : decode cX6_digest 13 = .ok (.istore_n 1, 1) := by decide +kernel
theorem dX6_digest_14 : decode cX6_digest 14 = .ok (.iload_n 1, 1) := by decide +kernel
theorem dX6_digest_15 : decode cX6_digest 15 = .ok (.bipush 11, 2) := by decide +kernel
theorem dX6_digest_17 : decode cX6_digest 17 = .ok (.if_icmp .gt 19, 3) := by decide +kernel
theorem dX6_digest_20 : decode cX6_digest 20 = .ok (.aload_n 0, 1) := by decide +kernel
theorem dX6_digest_21 : decode cX6_digest 21 = .ok (.aload_n 0, 1) := by decide +kernel
theorem dX6_digest_22 : decode cX6_digest 22 = .ok (.iload_n 1, 1) := by decide +kernel
theorem dX6_digest_23 : decode cX6_digest 23 = .ok (.invokevirtual 184, 3) := by decide +kernel
theorem dX6_digest_26 : decode cX6_digest 26 = .ok (.i2l, 1) := by decide +kernel
theorem dX6_digest_27 : decode cX6_digest 27 = .ok (.invokevirtual 226, 3) := by decide +kernel
theorem dX6_digest_30 : decode cX6_digest 30 = .ok (.iinc 1 1, 3) := by decide +kernel
theorem dX6_digest_33 : decode cX6_digest 33 = .ok (.goto (-19), 3) := by decide +kernel
theorem dX6_digest_36 : decode cX6_digest 36 = .ok (.iconst 0, 1) := by decide +kernel
theorem dX6_digest_37 : decode cX6_digest 37 = .ok (.istore_n 1, 1) := by decide +kernel
theorem dX6_digest_38 : decode cX6_digest 38 = .ok (.iload_n 1, 1) := by decide +kernel
theorem dX6_digest_39 : decode cX6_digest 39 = .ok (.iconst 3, 1) := by decide +kernel
theorem dX6_digest_40 : decode cX6_digest 40 = .ok (.if_icmp .ge 22, 3) := by decide +kernel
theorem dX6_digest_43 : decode cX6_digest 43 = .ok (.aload_n 0, 1) := by decide +kernel
theorem dX6_digest_44 : decode cX6_digest 44 = .ok (.aload_n 0, 1) := by decide +kernel
theorem dX6_digest_45 : decode cX6_digest 45 = .ok (.getfield 7, 3) := by decide +kernel
theorem dX6_digest_48 : decode cX6_digest 48 = .ok (.iconst 0, 1) := by decide +kernel
theorem dX6_digest_49 : decode cX6_digest 49 = .ok (.iload_n 1, 1) := by decide +kernel
theorem dX6_digest_50 : decode cX6_digest 50 = .ok (.iadd, 1) := by decide +kernel
theorem dX6_digest_51 : decode cX6_digest 51 = .ok (.iaload, 1) := by decide +kernel
theorem dX6_digest_52 : decode cX6_digest 52 = .ok (.i2l, 1) := by decide +kernel
theorem dX6_digest_53 : decode cX6_digest 53 = .ok (.invokevirtual 226, 3) := by decide +kernel
theorem dX6_digest_56 : decode cX6_digest 56 = .ok (.iinc 1 1, 3) := by decide +kernel
theorem dX6_digest_59 : decode cX6_digest 59 = .ok (.goto (-21), 3) := by decide +kernel
theorem dX6_digest_62 : decode cX6_digest 62 = .ok (.iconst 0, 1) := by decide +kernel
theorem dX6_digest_63 : decode cX6_digest 63 = .ok (.istore_n 1, 1) := by decide +kernel
theorem dX6_digest_64 : decode cX6_digest 64 = .ok (.iload_n 1, 1) := by decide +kernel
theorem dX6_digest_65 : decode cX6_digest 65 = .ok (.aload_n 0, 1) := by decide +kernel
theorem dX6_digest_66 : decode cX6_digest 66 = .ok (.getfield 7, 3) := by decide +kernel
theorem dX6_digest_69 : decode cX6_digest 69 = .ok (.iconst 4, 1) := by decide +kernel
theorem dX6_digest_70 : decode cX6_digest 70 = .ok (.iaload, 1) := by decide +kernel
theorem dX6_digest_71 : decode cX6_digest 71 = .ok (.if_icmp .ge 14, 3) := by decide +kernel
theorem dX6_digest_74 : decode cX6_digest 74 = .ok (.aload_n 0, 1) := by decide +kernel
theorem dX6_digest_75 : decode cX6_digest 75 = .ok (.iload_n 1, 1) := by decide +kernel
theorem dX6_digest_76 : decode cX6_digest 76 = .ok (.invokevirtual 232, 3) := by decide +kernel
theorem dX6_digest_79 : decode cX6_digest 79 = .ok (.iinc 1 1, 3) := by decide +kernel
theorem dX6_digest_82 : decode cX6_digest 82 = .ok (.goto (-18), 3) := by decide +kernel
theorem dX6_digest_85 : decode cX6_digest 85 = .ok (.iconst 0, 1) := by decide +kernel
theorem dX6_digest_86 : decode cX6_digest 86 = .ok (.istore_n 1, 1) := by decide +kernel
theorem dX6_digest_87 : decode cX6_digest 87 = .ok (.iload_n 1, 1) := by decide +kernel
theorem dX6_digest_88 : decode cX6_digest 88 = .ok (.iconst 4, 1) := by decide +kernel
theorem dX6_digest_89 : decode cX6_digest 89 = .ok (.if_icmp .ge 14, 3) := by decide +kernel
theorem dX6_digest_92 : decode cX6_digest 92 = .ok (.aload_n 0, 1) := by decide +kernel
theorem dX6_digest_93 : decode cX6_digest 93 = .ok (.iload_n 1, 1) := by decide +kernel
theorem dX6_digest_94 : decode cX6_digest 94 = .ok (.invokevirtual 235, 3) := by decide +kernel
theorem dX6_digest_97 : decode cX6_digest 97 = .ok (.iinc 1 1, 3) := by decide +kernel
theorem dX6_digest_100 : decode cX6_digest 100 = .ok (.goto (-13), 3) := by decide +kernel
theorem dX6_digest_103 : decode cX6_digest 103 = .ok (.iconst 0, 1) := by decide +kernel
theorem dX6_digest_104 : decode cX6_digest 104 = .ok (.istore_n 1, 1) := by decide +kernel
theorem dX6_digest_105 : decode cX6_digest 105 = .ok (.iload_n 1, 1) := by decide +kernel
theorem dX6_digest_106 : decode cX6_digest 106 = .ok (.bipush 12, 2) := by decide +kernel
theorem dX6_digest_108 : decode cX6_digest 108 = .ok (.if_icmp .ge 29, 3) := by decide +kernel
theorem dX6_digest_111 : decode cX6_digest 111 = .ok (.aload_n 0, 1) := by decide +kernel
theorem dX6_digest_112 : decode cX6_digest 112 = .ok (.aload_n 0, 1) := by decide +kernel
theorem dX6_digest_113 : decode cX6_digest 113 = .ok (.iload_n 1, 1) := by decide +kernel
theorem dX6_digest_114 : decode cX6_digest 114 = .ok (.invokevirtual 55, 3) := by decide +kernel
theorem dX6_digest_117 : decode cX6_digest 117 = .ok (.i2l, 1) := by decide +kernel
theorem dX6_digest_118 : decode cX6_digest 118 = .ok (.invokevirtual 226, 3) := by decide +kernel
theorem dX6_digest_121 : decode cX6_digest 121 = .ok (.aload_n 0, 1) := by decide +kernel
theorem dX6_digest_122 : decode cX6_digest 122 = .ok (.aload_n 0, 1) := by decide +kernel
theorem dX6_digest_123 : decode cX6_digest 123 = .ok (.iload_n 1, 1) := by decide +kernel
theorem dX6_digest_124 : decode cX6_digest 124 = .ok (.invokevirtual 108, 3) := by decide +kernel
theorem dX6_digest_127 : decode cX6_digest 127 = .ok (.i2l, 1) := by decide +kernel
theorem dX6_digest_128 : decode cX6_digest 128 = .ok (.invokevirtual 226, 3) := by decide +kernel
theorem dX6_digest_131 : decode cX6_digest 131 = .ok (.iinc 1 1, 3) := by decide +kernel
theorem dX6_digest_134 : decode cX6_digest 134 = .ok (.goto (-29), 3) := by decide +kernel
theorem dX6_digest_137 : decode cX6_digest 137 = .ok (.aload_n 0, 1) := by decide +kernel
theorem dX6_digest_138 : decode cX6_digest 138 = .ok (.aload_n 0, 1) := by decide +kernel
theorem dX6_digest_139 : decode cX6_digest 139 = .ok (.iconst 0, 1) := by decide +kernel
theorem dX6_digest_140 : decode cX6_digest 140 = .ok (.invokevirtual 205, 3) := by decide +kernel
theorem dX6_digest_143 : decode cX6_digest 143 = .ok (.i2l, 1) := by decide +kernel
theorem dX6_digest_144 : decode cX6_digest 144 = .ok (.invokevirtual 226, 3) := by decide +kernel
theorem dX6_digest_147 : decode cX6_digest 147 = .ok (.aload_n 0, 1) := by decide +kernel
theorem dX6_digest_148 : decode cX6_digest 148 = .ok (.aload_n 0, 1) := by decide +kernel
theorem dX6_digest_149 : decode cX6_digest 149 = .ok (.invokevirtual 208, 3) := by decide +kernel
theorem dX6_digest_152 : decode cX6_digest 152 = .ok (.invokestatic 238, 3) := by decide +kernel
theorem dX6_digest_155 : decode cX6_digest 155 = .ok (.invokevirtual 226, 3) := by decide +kernel
theorem dX6_digest_158 : decode cX6_digest 158 = .ok (.aload_n 0, 1) := by decide +kernel
theorem dX6_digest_159 : decode cX6_digest 159 = .ok (.aload_n 0, 1) := by decide +kernel
theorem dX6_digest_160 : decode cX6_digest 160 = .ok (.getfield 19, 3) := by decide +kernel
theorem dX6_digest_163 : decode cX6_digest 163 = .ok (.iconst 0, 1) := by decide +kernel
theorem dX6_digest_164 : decode cX6_digest 164 = .ok (.baload, 1) := by decide +kernel
theorem dX6_digest_165 : decode cX6_digest 165 = .ok (.ifCond .eq 7, 3) := by decide +kernel
theorem dX6_digest_168 : decode cX6_digest 168 = .ok (.lconst 1, 1) := by decide +kernel
theorem dX6_digest_169 : decode cX6_digest 169 = .ok (.goto 4, 3) := by decide +kernel
theorem dX6_digest_172 : decode cX6_digest 172 = .ok (.lconst 0, 1) := by decide +kernel
theorem dX6_digest_173 : decode cX6_digest 173 = .ok (.invokevirtual 226, 3) := by decide +kernel
theorem dX6_digest_176 : decode cX6_digest 176 = .ok (.aload_n 0, 1) := by decide +kernel
theorem dX6_digest_177 : decode cX6_digest 177 = .ok (.aload_n 0, 1) := by decide +kernel
theorem dX6_digest_178 : decode cX6_digest 178 = .ok (.getfield 19, 3) := by decide +kernel
theorem dX6_digest_181 : decode cX6_digest 181 = .ok (.iconst 1, 1) := by decide +kernel
theorem dX6_digest_182 : decode cX6_digest 182 = .ok (.baload, 1) := by decide +kernel
theorem dX6_digest_183 : decode cX6_digest 183 = .ok (.ifCond .eq 7, 3) := by decide +kernel
theorem dX6_digest_186 : decode cX6_digest 186 = .ok (.lconst 1, 1) := by decide +kernel
theorem dX6_digest_187 : decode cX6_digest 187 = .ok (.goto 4, 3) := by decide +kernel
theorem dX6_digest_190 : decode cX6_digest 190 = .ok (.lconst 0, 1) := by decide +kernel
theorem dX6_digest_191 : decode cX6_digest 191 = .ok (.invokevirtual 226, 3) := by decide +kernel
theorem dX6_digest_194 : decode cX6_digest 194 = .ok (.aload_n 0, 1) := by decide +kernel
theorem dX6_digest_195 : decode cX6_digest 195 = .ok (.aload_n 0, 1) := by decide +kernel
theorem dX6_digest_196 : decode cX6_digest 196 = .ok (.getfield 129, 3) := by decide +kernel
theorem dX6_digest_199 : decode cX6_digest 199 = .ok (.i2l, 1) := by decide +kernel
theorem dX6_digest_200 : decode cX6_digest 200 = .ok (.invokevirtual 226, 3) := by decide +kernel
theorem dX6_digest_203 : decode cX6_digest 203 = .ok (.iconst 0, 1) := by decide +kernel
theorem dX6_digest_204 : decode cX6_digest 204 = .ok (.istore_n 1, 1) := by decide +kernel
theorem dX6_digest_205 : decode cX6_digest 205 = .ok (.iload_n 1, 1) := by decide +kernel
theorem dX6_digest_206 : decode cX6_digest 206 = .ok (.aload_n 0, 1) := by decide +kernel
theorem dX6_digest_207 : decode cX6_digest 207 = .ok (.getfield 129, 3) := by decide +kernel
theorem dX6_digest_210 : decode cX6_digest 210 = .ok (.if_icmp .ge 20, 3) := by decide +kernel
theorem dX6_digest_213 : decode cX6_digest 213 = .ok (.aload_n 0, 1) := by decide +kernel
theorem dX6_digest_214 : decode cX6_digest 214 = .ok (.aload_n 0, 1) := by decide +kernel
theorem dX6_digest_215 : decode cX6_digest 215 = .ok (.getfield 26, 3) := by decide +kernel
theorem dX6_digest_218 : decode cX6_digest 218 = .ok (.iload_n 1, 1) := by decide +kernel
theorem dX6_digest_219 : decode cX6_digest 219 = .ok (.iaload, 1) := by decide +kernel
theorem dX6_digest_220 : decode cX6_digest 220 = .ok (.i2l, 1) := by decide +kernel
theorem dX6_digest_221 : decode cX6_digest 221 = .ok (.invokevirtual 226, 3) := by decide +kernel
theorem dX6_digest_224 : decode cX6_digest 224 = .ok (.iinc 1 1, 3) := by decide +kernel
theorem dX6_digest_227 : decode cX6_digest 227 = .ok (.goto (-22), 3) := by decide +kernel
theorem dX6_digest_230 : decode cX6_digest 230 = .ok (.aload_n 0, 1) := by decide +kernel
theorem dX6_digest_231 : decode cX6_digest 231 = .ok (.getfield 222, 3) := by decide +kernel
theorem dX6_digest_234 : decode cX6_digest 234 = .ok (.lreturn, 1) := by decide +kernel
end
section
theorem dL_stall_0 : decode cL_stall 0 = .ok (.aload 5, 2) := by decide +kernel
theorem dL_stall_2 : decode cL_stall 2 = .ok (.iconst 0, 1) := by decide +kernel
theorem dL_stall_3 : decode cL_stall 3 = .ok (.aload_n 0, 1) := by decide +kernel
theorem dL_stall_4 : decode cL_stall 4 = .ok (.iload_n 1, 1) := by decide +kernel
theorem dL_stall_5 : decode cL_stall 5 = .ok (.iload_n 2, 1) := by decide +kernel
theorem dL_stall_6 : decode cL_stall 6 = .ok (.iload_n 3, 1) := by decide +kernel
theorem dL_stall_7 : decode cL_stall 7 = .ok (.iload 4, 2) := by decide +kernel
theorem dL_stall_9 : decode cL_stall 9 = .ok (.invokevirtual 7, 3) := by decide +kernel
theorem dL_stall_12 : decode cL_stall 12 = .ok (.i2l, 1) := by decide +kernel
theorem dL_stall_13 : decode cL_stall 13 = .ok (.lastore, 1) := by decide +kernel
theorem dL_stall_14 : decode cL_stall 14 = .ok (.goto 11, 3) := by decide +kernel
theorem dL_stall_17 : decode cL_stall 17 = .ok (.astore 6, 2) := by decide +kernel
theorem dL_stall_19 : decode cL_stall 19 = .ok (.iconst 1, 1) := by decide +kernel
theorem dL_stall_20 : decode cL_stall 20 = .ok (.ireturn, 1) := by decide +kernel
theorem dL_stall_21 : decode cL_stall 21 = .ok (.astore 6, 2) := by decide +kernel
theorem dL_stall_23 : decode cL_stall 23 = .ok (.iconst 2, 1) := by decide +kernel
theorem dL_stall_24 : decode cL_stall 24 = .ok (.ireturn, 1) := by decide +kernel
theorem dL_stall_25 : decode cL_stall 25 = .ok (.iconst 0, 1) := by decide +kernel
theorem dL_stall_26 : decode cL_stall 26 = .ok (.ireturn, 1) := by decide +kernel
theorem dL_plug_0 : decode cL_plug 0 = .ok (.aload_n 3, 1) := by decide +kernel
theorem dL_plug_1 : decode cL_plug 1 = .ok (.iconst 0, 1) := by decide +kernel
theorem dL_plug_2 : decode cL_plug 2 = .ok (.aload_n 0, 1) := by decide +kernel
theorem dL_plug_3 : decode cL_plug 3 = .ok (.iload_n 1, 1) := by decide +kernel
theorem dL_plug_4 : decode cL_plug 4 = .ok (.iload_n 2, 1) := by decide +kernel
theorem dL_plug_5 : decode cL_plug 5 = .ok (.invokevirtual 17, 3) := by decide +kernel
theorem dL_plug_8 : decode cL_plug 8 = .ok (.i2l, 1) := by decide +kernel
theorem dL_plug_9 : decode cL_plug 9 = .ok (.lastore, 1) := by decide +kernel
theorem dL_plug_10 : decode cL_plug 10 = .ok (.goto 15, 3) := by decide +kernel
theorem dL_plug_13 : decode cL_plug 13 = .ok (.astore 4, 2) := by decide +kernel
theorem dL_plug_15 : decode cL_plug 15 = .ok (.iconst 1, 1) := by decide +kernel
theorem dL_plug_16 : decode cL_plug 16 = .ok (.ireturn, 1) := by decide +kernel
theorem dL_plug_17 : decode cL_plug 17 = .ok (.astore 4, 2) := by decide +kernel
theorem dL_plug_19 : decode cL_plug 19 = .ok (.iconst 2, 1) := by decide +kernel
theorem dL_plug_20 : decode cL_plug 20 = .ok (.ireturn, 1) := by decide +kernel
theorem dL_plug_21 : decode cL_plug 21 = .ok (.astore 4, 2) := by decide +kernel
theorem dL_plug_23 : decode cL_plug 23 = .ok (.iconst 3, 1) := by decide +kernel
theorem dL_plug_24 : decode cL_plug 24 = .ok (.ireturn, 1) := by decide +kernel
theorem dL_plug_25 : decode cL_plug 25 = .ok (.iconst 0, 1) := by decide +kernel
theorem dL_plug_26 : decode cL_plug 26 = .ok (.ireturn, 1) := by decide +kernel
theorem dL_pull_0 : decode cL_pull 0 = .ok (.aload_n 2, 1) := by decide +kernel
theorem dL_pull_1 : decode cL_pull 1 = .ok (.iconst 0, 1) := by decide +kernel
theorem dL_pull_2 : decode cL_pull 2 = .ok (.aload_n 0, 1) := by decide +kernel
theorem dL_pull_3 : decode cL_pull 3 = .ok (.iload_n 1, 1) := by decide +kernel
theorem dL_pull_4 : decode cL_pull 4 = .ok (.invokevirtual 23, 3) := by decide +kernel
theorem dL_pull_7 : decode cL_pull 7 = .ok (.i2l, 1) := by decide +kernel
theorem dL_pull_8 : decode cL_pull 8 = .ok (.lastore, 1) := by decide +kernel
theorem dL_pull_9 : decode cL_pull 9 = .ok (.goto 9, 3) := by decide +kernel
theorem dL_pull_12 : decode cL_pull 12 = .ok (.astore_n 3, 1) := by decide +kernel
theorem dL_pull_13 : decode cL_pull 13 = .ok (.iconst 1, 1) := by decide +kernel
theorem dL_pull_14 : decode cL_pull 14 = .ok (.ireturn, 1) := by decide +kernel
theorem dL_pull_15 : decode cL_pull 15 = .ok (.astore_n 3, 1) := by decide +kernel
theorem dL_pull_16 : decode cL_pull 16 = .ok (.iconst 2, 1) := by decide +kernel
theorem dL_pull_17 : decode cL_pull 17 = .ok (.ireturn, 1) := by decide +kernel
theorem dL_pull_18 : decode cL_pull 18 = .ok (.iconst 0, 1) := by decide +kernel
theorem dL_pull_19 : decode cL_pull 19 = .ok (.ireturn, 1) := by decide +kernel
theorem dL_shed_0 : decode cL_shed 0 = .ok (.aload_n 2, 1) := by decide +kernel
theorem dL_shed_1 : decode cL_shed 1 = .ok (.iconst 0, 1) := by decide +kernel
theorem dL_shed_2 : decode cL_shed 2 = .ok (.aload_n 0, 1) := by decide +kernel
theorem dL_shed_3 : decode cL_shed 3 = .ok (.iload_n 1, 1) := by decide +kernel
theorem dL_shed_4 : decode cL_shed 4 = .ok (.invokevirtual 27, 3) := by decide +kernel
theorem dL_shed_7 : decode cL_shed 7 = .ok (.i2l, 1) := by decide +kernel
theorem dL_shed_8 : decode cL_shed 8 = .ok (.lastore, 1) := by decide +kernel
theorem dL_shed_9 : decode cL_shed 9 = .ok (.goto 6, 3) := by decide +kernel
theorem dL_shed_12 : decode cL_shed 12 = .ok (.astore_n 3, 1) := by decide +kernel
theorem dL_shed_13 : decode cL_shed 13 = .ok (.iconst 1, 1) := by decide +kernel
theorem dL_shed_14 : decode cL_shed 14 = .ok (.ireturn, 1) := by decide +kernel
theorem dL_shed_15 : decode cL_shed 15 = .ok (.iconst 0, 1) := by decide +kernel
theorem dL_shed_16 : decode cL_shed 16 = .ok (.ireturn, 1) := by decide +kernel
theorem dL_bound_0 : decode cL_bound 0 = .ok (.aload_n 3, 1) := by decide +kernel
theorem dL_bound_1 : decode cL_bound 1 = .ok (.iconst 0, 1) := by decide +kernel
theorem dL_bound_2 : decode cL_bound 2 = .ok (.aload_n 0, 1) := by decide +kernel
theorem dL_bound_3 : decode cL_bound 3 = .ok (.iload_n 1, 1) := by decide +kernel
theorem dL_bound_4 : decode cL_bound 4 = .ok (.iload_n 2, 1) := by decide +kernel
theorem dL_bound_5 : decode cL_bound 5 = .ok (.invokevirtual 30, 3) := by decide +kernel
theorem dL_bound_8 : decode cL_bound 8 = .ok (.i2l, 1) := by decide +kernel
theorem dL_bound_9 : decode cL_bound 9 = .ok (.lastore, 1) := by decide +kernel
theorem dL_bound_10 : decode cL_bound 10 = .ok (.goto 7, 3) := by decide +kernel
theorem dL_bound_13 : decode cL_bound 13 = .ok (.astore 4, 2) := by decide +kernel
theorem dL_bound_15 : decode cL_bound 15 = .ok (.iconst 1, 1) := by decide +kernel
theorem dL_bound_16 : decode cL_bound 16 = .ok (.ireturn, 1) := by decide +kernel
theorem dL_bound_17 : decode cL_bound 17 = .ok (.iconst 0, 1) := by decide +kernel
theorem dL_bound_18 : decode cL_bound 18 = .ok (.ireturn, 1) := by decide +kernel
theorem dL_reset_0 : decode cL_reset 0 = .ok (.aload_n 2, 1) := by decide +kernel
theorem dL_reset_1 : decode cL_reset 1 = .ok (.iconst 0, 1) := by decide +kernel
theorem dL_reset_2 : decode cL_reset 2 = .ok (.aload_n 0, 1) := by decide +kernel
theorem dL_reset_3 : decode cL_reset 3 = .ok (.iload_n 1, 1) := by decide +kernel
theorem dL_reset_4 : decode cL_reset 4 = .ok (.invokevirtual 33, 3) := by decide +kernel
theorem dL_reset_7 : decode cL_reset 7 = .ok (.i2l, 1) := by decide +kernel
theorem dL_reset_8 : decode cL_reset 8 = .ok (.lastore, 1) := by decide +kernel
theorem dL_reset_9 : decode cL_reset 9 = .ok (.goto 9, 3) := by decide +kernel
theorem dL_reset_12 : decode cL_reset 12 = .ok (.astore_n 3, 1) := by decide +kernel
theorem dL_reset_13 : decode cL_reset 13 = .ok (.iconst 1, 1) := by decide +kernel
theorem dL_reset_14 : decode cL_reset 14 = .ok (.ireturn, 1) := by decide +kernel
theorem dL_reset_15 : decode cL_reset 15 = .ok (.astore_n 3, 1) := by decide +kernel
theorem dL_reset_16 : decode cL_reset 16 = .ok (.iconst 2, 1) := by decide +kernel
theorem dL_reset_17 : decode cL_reset 17 = .ok (.ireturn, 1) := by decide +kernel
theorem dL_reset_18 : decode cL_reset 18 = .ok (.iconst 0, 1) := by decide +kernel
theorem dL_reset_19 : decode cL_reset 19 = .ok (.ireturn, 1) := by decide +kernel
theorem dL_over_0 : decode cL_over 0 = .ok (.aload_n 2, 1) := by decide +kernel
theorem dL_over_1 : decode cL_over 1 = .ok (.iconst 0, 1) := by decide +kernel
theorem dL_over_2 : decode cL_over 2 = .ok (.aload_n 0, 1) := by decide +kernel
theorem dL_over_3 : decode cL_over 3 = .ok (.iload_n 1, 1) := by decide +kernel
theorem dL_over_4 : decode cL_over 4 = .ok (.invokevirtual 36, 3) := by decide +kernel
theorem dL_over_7 : decode cL_over 7 = .ok (.i2l, 1) := by decide +kernel
theorem dL_over_8 : decode cL_over 8 = .ok (.lastore, 1) := by decide +kernel
theorem dL_over_9 : decode cL_over 9 = .ok (.goto 6, 3) := by decide +kernel
theorem dL_over_12 : decode cL_over 12 = .ok (.astore_n 3, 1) := by decide +kernel
theorem dL_over_13 : decode cL_over 13 = .ok (.iconst 1, 1) := by decide +kernel
theorem dL_over_14 : decode cL_over 14 = .ok (.ireturn, 1) := by decide +kernel
theorem dL_over_15 : decode cL_over 15 = .ok (.iconst 0, 1) := by decide +kernel
theorem dL_over_16 : decode cL_over 16 = .ok (.ireturn, 1) := by decide +kernel
theorem dL_pass_0 : decode cL_pass 0 = .ok (.aload_n 2, 1) := by decide +kernel
theorem dL_pass_1 : decode cL_pass 1 = .ok (.iconst 0, 1) := by decide +kernel
theorem dL_pass_2 : decode cL_pass 2 = .ok (.aload_n 0, 1) := by decide +kernel
theorem dL_pass_3 : decode cL_pass 3 = .ok (.iload_n 1, 1) := by decide +kernel
theorem dL_pass_4 : decode cL_pass 4 = .ok (.invokevirtual 39, 3) := by decide +kernel
theorem dL_pass_7 : decode cL_pass 7 = .ok (.i2l, 1) := by decide +kernel
theorem dL_pass_8 : decode cL_pass 8 = .ok (.lastore, 1) := by decide +kernel
theorem dL_pass_9 : decode cL_pass 9 = .ok (.goto 9, 3) := by decide +kernel
theorem dL_pass_12 : decode cL_pass 12 = .ok (.astore_n 3, 1) := by decide +kernel
theorem dL_pass_13 : decode cL_pass 13 = .ok (.iconst 1, 1) := by decide +kernel
theorem dL_pass_14 : decode cL_pass 14 = .ok (.ireturn, 1) := by decide +kernel
theorem dL_pass_15 : decode cL_pass 15 = .ok (.astore_n 3, 1) := by decide +kernel
theorem dL_pass_16 : decode cL_pass 16 = .ok (.iconst 2, 1) := by decide +kernel
theorem dL_pass_17 : decode cL_pass 17 = .ok (.ireturn, 1) := by decide +kernel
theorem dL_pass_18 : decode cL_pass 18 = .ok (.iconst 0, 1) := by decide +kernel
theorem dL_pass_19 : decode cL_pass 19 = .ok (.ireturn, 1) := by decide +kernel
theorem dL_set_0 : decode cL_set 0 = .ok (.aload_n 3, 1) := by decide +kernel
theorem dL_set_1 : decode cL_set 1 = .ok (.iconst 0, 1) := by decide +kernel
theorem dL_set_2 : decode cL_set 2 = .ok (.aload_n 0, 1) := by decide +kernel
theorem dL_set_3 : decode cL_set 3 = .ok (.iload_n 1, 1) := by decide +kernel
theorem dL_set_4 : decode cL_set 4 = .ok (.iload_n 2, 1) := by decide +kernel
theorem dL_set_5 : decode cL_set 5 = .ok (.invokevirtual 42, 3) := by decide +kernel
theorem dL_set_8 : decode cL_set 8 = .ok (.i2l, 1) := by decide +kernel
theorem dL_set_9 : decode cL_set 9 = .ok (.lastore, 1) := by decide +kernel
theorem dL_set_10 : decode cL_set 10 = .ok (.goto 11, 3) := by decide +kernel
theorem dL_set_13 : decode cL_set 13 = .ok (.astore 4, 2) := by decide +kernel
theorem dL_set_15 : decode cL_set 15 = .ok (.iconst 1, 1) := by decide +kernel
theorem dL_set_16 : decode cL_set 16 = .ok (.ireturn, 1) := by decide +kernel
theorem dL_set_17 : decode cL_set 17 = .ok (.astore 4, 2) := by decide +kernel
theorem dL_set_19 : decode cL_set 19 = .ok (.iconst 2, 1) := by decide +kernel
theorem dL_set_20 : decode cL_set 20 = .ok (.ireturn, 1) := by decide +kernel
theorem dL_set_21 : decode cL_set 21 = .ok (.iconst 0, 1) := by decide +kernel
theorem dL_set_22 : decode cL_set 22 = .ok (.ireturn, 1) := by decide +kernel
theorem dL_append_0 : decode cL_append 0 = .ok (.aload_n 2, 1) := by decide +kernel
theorem dL_append_1 : decode cL_append 1 = .ok (.iconst 0, 1) := by decide +kernel
theorem dL_append_2 : decode cL_append 2 = .ok (.aload_n 0, 1) := by decide +kernel
theorem dL_append_3 : decode cL_append 3 = .ok (.iload_n 1, 1) := by decide +kernel
theorem dL_append_4 : decode cL_append 4 = .ok (.invokevirtual 45, 3) := by decide +kernel
theorem dL_append_7 : decode cL_append 7 = .ok (.i2l, 1) := by decide +kernel
theorem dL_append_8 : decode cL_append 8 = .ok (.lastore, 1) := by decide +kernel
theorem dL_append_9 : decode cL_append 9 = .ok (.goto 9, 3) := by decide +kernel
theorem dL_append_12 : decode cL_append 12 = .ok (.astore_n 3, 1) := by decide +kernel
theorem dL_append_13 : decode cL_append 13 = .ok (.iconst 1, 1) := by decide +kernel
theorem dL_append_14 : decode cL_append 14 = .ok (.ireturn, 1) := by decide +kernel
theorem dL_append_15 : decode cL_append 15 = .ok (.astore_n 3, 1) := by decide +kernel
theorem dL_append_16 : decode cL_append 16 = .ok (.iconst 2, 1) := by decide +kernel
theorem dL_append_17 : decode cL_append 17 = .ok (.ireturn, 1) := by decide +kernel
theorem dL_append_18 : decode cL_append 18 = .ok (.iconst 0, 1) := by decide +kernel
theorem dL_append_19 : decode cL_append 19 = .ok (.ireturn, 1) := by decide +kernel
theorem dL_open_0 : decode cL_open 0 = .ok (.aload_n 1, 1) := by decide +kernel
theorem dL_open_1 : decode cL_open 1 = .ok (.iconst 0, 1) := by decide +kernel
theorem dL_open_2 : decode cL_open 2 = .ok (.aload_n 0, 1) := by decide +kernel
theorem dL_open_3 : decode cL_open 3 = .ok (.invokevirtual 48, 3) := by decide +kernel
theorem dL_open_6 : decode cL_open 6 = .ok (.i2l, 1) := by decide +kernel
theorem dL_open_7 : decode cL_open 7 = .ok (.lastore, 1) := by decide +kernel
theorem dL_open_8 : decode cL_open 8 = .ok (.goto 6, 3) := by decide +kernel
theorem dL_open_11 : decode cL_open 11 = .ok (.astore_n 2, 1) := by decide +kernel
theorem dL_open_12 : decode cL_open 12 = .ok (.iconst 1, 1) := by decide +kernel
theorem dL_open_13 : decode cL_open 13 = .ok (.ireturn, 1) := by decide +kernel
theorem dL_open_14 : decode cL_open 14 = .ok (.iconst 0, 1) := by decide +kernel
theorem dL_open_15 : decode cL_open 15 = .ok (.ireturn, 1) := by decide +kernel
theorem dL_keep_0 : decode cL_keep 0 = .ok (.aload_n 2, 1) := by decide +kernel
theorem dL_keep_1 : decode cL_keep 1 = .ok (.iconst 0, 1) := by decide +kernel
theorem dL_keep_2 : decode cL_keep 2 = .ok (.aload_n 0, 1) := by decide +kernel
theorem dL_keep_3 : decode cL_keep 3 = .ok (.iload_n 1, 1) := by decide +kernel
theorem dL_keep_4 : decode cL_keep 4 = .ok (.invokevirtual 52, 3) := by decide +kernel
theorem dL_keep_7 : decode cL_keep 7 = .ok (.i2l, 1) := by decide +kernel
theorem dL_keep_8 : decode cL_keep 8 = .ok (.lastore, 1) := by decide +kernel
theorem dL_keep_9 : decode cL_keep 9 = .ok (.goto 6, 3) := by decide +kernel
theorem dL_keep_12 : decode cL_keep 12 = .ok (.astore_n 3, 1) := by decide +kernel
theorem dL_keep_13 : decode cL_keep 13 = .ok (.iconst 1, 1) := by decide +kernel
theorem dL_keep_14 : decode cL_keep 14 = .ok (.ireturn, 1) := by decide +kernel
theorem dL_keep_15 : decode cL_keep 15 = .ok (.iconst 0, 1) := by decide +kernel
theorem dL_keep_16 : decode cL_keep 16 = .ok (.ireturn, 1) := by decide +kernel
theorem dL_goBack_0 : decode cL_goBack 0 = .ok (.aload_n 2, 1) := by decide +kernel
theorem dL_goBack_1 : decode cL_goBack 1 = .ok (.iconst 0, 1) := by decide +kernel
theorem dL_goBack_2 : decode cL_goBack 2 = .ok (.aload_n 0, 1) := by decide +kernel
theorem dL_goBack_3 : decode cL_goBack 3 = .ok (.iload_n 1, 1) := by decide +kernel
theorem dL_goBack_4 : decode cL_goBack 4 = .ok (.invokevirtual 55, 3) := by decide +kernel
theorem dL_goBack_7 : decode cL_goBack 7 = .ok (.i2l, 1) := by decide +kernel
theorem dL_goBack_8 : decode cL_goBack 8 = .ok (.lastore, 1) := by decide +kernel
theorem dL_goBack_9 : decode cL_goBack 9 = .ok (.goto 9, 3) := by decide +kernel
theorem dL_goBack_12 : decode cL_goBack 12 = .ok (.astore_n 3, 1) := by decide +kernel
theorem dL_goBack_13 : decode cL_goBack 13 = .ok (.iconst 1, 1) := by decide +kernel
theorem dL_goBack_14 : decode cL_goBack 14 = .ok (.ireturn, 1) := by decide +kernel
theorem dL_goBack_15 : decode cL_goBack 15 = .ok (.astore_n 3, 1) := by decide +kernel
theorem dL_goBack_16 : decode cL_goBack 16 = .ok (.iconst 2, 1) := by decide +kernel
theorem dL_goBack_17 : decode cL_goBack 17 = .ok (.ireturn, 1) := by decide +kernel
theorem dL_goBack_18 : decode cL_goBack 18 = .ok (.iconst 0, 1) := by decide +kernel
theorem dL_goBack_19 : decode cL_goBack 19 = .ok (.ireturn, 1) := by decide +kernel
theorem dL_undo_0 : decode cL_undo 0 = .ok (.aload_n 1, 1) := by decide +kernel
theorem dL_undo_1 : decode cL_undo 1 = .ok (.iconst 0, 1) := by decide +kernel
theorem dL_undo_2 : decode cL_undo 2 = .ok (.aload_n 0, 1) := by decide +kernel
theorem dL_undo_3 : decode cL_undo 3 = .ok (.invokevirtual 58, 3) := by decide +kernel
theorem dL_undo_6 : decode cL_undo 6 = .ok (.i2l, 1) := by decide +kernel
theorem dL_undo_7 : decode cL_undo 7 = .ok (.lastore, 1) := by decide +kernel
theorem dL_undo_8 : decode cL_undo 8 = .ok (.goto 6, 3) := by decide +kernel
theorem dL_undo_11 : decode cL_undo 11 = .ok (.astore_n 2, 1) := by decide +kernel
theorem dL_undo_12 : decode cL_undo 12 = .ok (.iconst 1, 1) := by decide +kernel
theorem dL_undo_13 : decode cL_undo 13 = .ok (.ireturn, 1) := by decide +kernel
theorem dL_undo_14 : decode cL_undo 14 = .ok (.iconst 0, 1) := by decide +kernel
theorem dL_undo_15 : decode cL_undo 15 = .ok (.ireturn, 1) := by decide +kernel
theorem dL_stallOf_0 : decode cL_stallOf 0 = .ok (.aload_n 3, 1) := by decide +kernel
theorem dL_stallOf_1 : decode cL_stallOf 1 = .ok (.iconst 0, 1) := by decide +kernel
theorem dL_stallOf_2 : decode cL_stallOf 2 = .ok (.aload_n 0, 1) := by decide +kernel
theorem dL_stallOf_3 : decode cL_stallOf 3 = .ok (.iload_n 1, 1) := by decide +kernel
theorem dL_stallOf_4 : decode cL_stallOf 4 = .ok (.iload_n 2, 1) := by decide +kernel
theorem dL_stallOf_5 : decode cL_stallOf 5 = .ok (.invokevirtual 61, 3) := by decide +kernel
theorem dL_stallOf_8 : decode cL_stallOf 8 = .ok (.i2l, 1) := by decide +kernel
theorem dL_stallOf_9 : decode cL_stallOf 9 = .ok (.lastore, 1) := by decide +kernel
theorem dL_stallOf_10 : decode cL_stallOf 10 = .ok (.goto 11, 3) := by decide +kernel
theorem dL_stallOf_13 : decode cL_stallOf 13 = .ok (.astore 4, 2) := by decide +kernel
theorem dL_stallOf_15 : decode cL_stallOf 15 = .ok (.iconst 1, 1) := by decide +kernel
theorem dL_stallOf_16 : decode cL_stallOf 16 = .ok (.ireturn, 1) := by decide +kernel
theorem dL_stallOf_17 : decode cL_stallOf 17 = .ok (.astore 4, 2) := by decide +kernel
theorem dL_stallOf_19 : decode cL_stallOf 19 = .ok (.iconst 2, 1) := by decide +kernel
theorem dL_stallOf_20 : decode cL_stallOf 20 = .ok (.ireturn, 1) := by decide +kernel
theorem dL_stallOf_21 : decode cL_stallOf 21 = .ok (.iconst 0, 1) := by decide +kernel
theorem dL_stallOf_22 : decode cL_stallOf 22 = .ok (.ireturn, 1) := by decide +kernel
theorem dL_breaker_0 : decode cL_breaker 0 = .ok (.aload_n 3, 1) := by decide +kernel
theorem dL_breaker_1 : decode cL_breaker 1 = .ok (.iconst 0, 1) := by decide +kernel
theorem dL_breaker_2 : decode cL_breaker 2 = .ok (.aload_n 0, 1) := by decide +kernel
theorem dL_breaker_3 : decode cL_breaker 3 = .ok (.iload_n 1, 1) := by decide +kernel
theorem dL_breaker_4 : decode cL_breaker 4 = .ok (.iload_n 2, 1) := by decide +kernel
theorem dL_breaker_5 : decode cL_breaker 5 = .ok (.invokevirtual 64, 3) := by decide +kernel
theorem dL_breaker_8 : decode cL_breaker 8 = .ok (.i2l, 1) := by decide +kernel
theorem dL_breaker_9 : decode cL_breaker 9 = .ok (.lastore, 1) := by decide +kernel
theorem dL_breaker_10 : decode cL_breaker 10 = .ok (.goto 7, 3) := by decide +kernel
theorem dL_breaker_13 : decode cL_breaker 13 = .ok (.astore 4, 2) := by decide +kernel
theorem dL_breaker_15 : decode cL_breaker 15 = .ok (.iconst 1, 1) := by decide +kernel
theorem dL_breaker_16 : decode cL_breaker 16 = .ok (.ireturn, 1) := by decide +kernel
theorem dL_breaker_17 : decode cL_breaker 17 = .ok (.iconst 0, 1) := by decide +kernel
theorem dL_breaker_18 : decode cL_breaker 18 = .ok (.ireturn, 1) := by decide +kernel
theorem dL_socket_0 : decode cL_socket 0 = .ok (.aload_n 3, 1) := by decide +kernel
theorem dL_socket_1 : decode cL_socket 1 = .ok (.iconst 0, 1) := by decide +kernel
theorem dL_socket_2 : decode cL_socket 2 = .ok (.aload_n 0, 1) := by decide +kernel
theorem dL_socket_3 : decode cL_socket 3 = .ok (.iload_n 1, 1) := by decide +kernel
theorem dL_socket_4 : decode cL_socket 4 = .ok (.iload_n 2, 1) := by decide +kernel
theorem dL_socket_5 : decode cL_socket 5 = .ok (.invokevirtual 67, 3) := by decide +kernel
theorem dL_socket_8 : decode cL_socket 8 = .ok (.i2l, 1) := by decide +kernel
theorem dL_socket_9 : decode cL_socket 9 = .ok (.lastore, 1) := by decide +kernel
theorem dL_socket_10 : decode cL_socket 10 = .ok (.goto 7, 3) := by decide +kernel
theorem dL_socket_13 : decode cL_socket 13 = .ok (.astore 4, 2) := by decide +kernel
theorem dL_socket_15 : decode cL_socket 15 = .ok (.iconst 1, 1) := by decide +kernel
theorem dL_socket_16 : decode cL_socket 16 = .ok (.ireturn, 1) := by decide +kernel
theorem dL_socket_17 : decode cL_socket 17 = .ok (.iconst 0, 1) := by decide +kernel
theorem dL_socket_18 : decode cL_socket 18 = .ok (.ireturn, 1) := by decide +kernel
theorem dL_count_0 : decode cL_count 0 = .ok (.aload_n 2, 1) := by decide +kernel
theorem dL_count_1 : decode cL_count 1 = .ok (.iconst 0, 1) := by decide +kernel
theorem dL_count_2 : decode cL_count 2 = .ok (.aload_n 0, 1) := by decide +kernel
theorem dL_count_3 : decode cL_count 3 = .ok (.iload_n 1, 1) := by decide +kernel
theorem dL_count_4 : decode cL_count 4 = .ok (.invokevirtual 70, 3) := by decide +kernel
theorem dL_count_7 : decode cL_count 7 = .ok (.i2l, 1) := by decide +kernel
theorem dL_count_8 : decode cL_count 8 = .ok (.lastore, 1) := by decide +kernel
theorem dL_count_9 : decode cL_count 9 = .ok (.goto 6, 3) := by decide +kernel
theorem dL_count_12 : decode cL_count 12 = .ok (.astore_n 3, 1) := by decide +kernel
theorem dL_count_13 : decode cL_count 13 = .ok (.iconst 1, 1) := by decide +kernel
theorem dL_count_14 : decode cL_count 14 = .ok (.ireturn, 1) := by decide +kernel
theorem dL_count_15 : decode cL_count 15 = .ok (.iconst 0, 1) := by decide +kernel
theorem dL_count_16 : decode cL_count 16 = .ok (.ireturn, 1) := by decide +kernel
theorem dL_setting_0 : decode cL_setting 0 = .ok (.aload_n 2, 1) := by decide +kernel
theorem dL_setting_1 : decode cL_setting 1 = .ok (.iconst 0, 1) := by decide +kernel
theorem dL_setting_2 : decode cL_setting 2 = .ok (.aload_n 0, 1) := by decide +kernel
theorem dL_setting_3 : decode cL_setting 3 = .ok (.iload_n 1, 1) := by decide +kernel
theorem dL_setting_4 : decode cL_setting 4 = .ok (.invokevirtual 73, 3) := by decide +kernel
theorem dL_setting_7 : decode cL_setting 7 = .ok (.i2l, 1) := by decide +kernel
theorem dL_setting_8 : decode cL_setting 8 = .ok (.lastore, 1) := by decide +kernel
theorem dL_setting_9 : decode cL_setting 9 = .ok (.goto 6, 3) := by decide +kernel
theorem dL_setting_12 : decode cL_setting 12 = .ok (.astore_n 3, 1) := by decide +kernel
theorem dL_setting_13 : decode cL_setting 13 = .ok (.iconst 1, 1) := by decide +kernel
theorem dL_setting_14 : decode cL_setting 14 = .ok (.ireturn, 1) := by decide +kernel
theorem dL_setting_15 : decode cL_setting 15 = .ok (.iconst 0, 1) := by decide +kernel
theorem dL_setting_16 : decode cL_setting 16 = .ok (.ireturn, 1) := by decide +kernel
theorem dL_ifPlugged_0 : decode cL_ifPlugged 0 = .ok (.aload 5, 2) := by decide +kernel
theorem dL_ifPlugged_2 : decode cL_ifPlugged 2 = .ok (.iconst 0, 1) := by decide +kernel
theorem dL_ifPlugged_3 : decode cL_ifPlugged 3 = .ok (.aload_n 0, 1) := by decide +kernel
theorem dL_ifPlugged_4 : decode cL_ifPlugged 4 = .ok (.iload_n 1, 1) := by decide +kernel
theorem dL_ifPlugged_5 : decode cL_ifPlugged 5 = .ok (.iload_n 2, 1) := by decide +kernel
theorem dL_ifPlugged_6 : decode cL_ifPlugged 6 = .ok (.iload_n 3, 1) := by decide +kernel
theorem dL_ifPlugged_7 : decode cL_ifPlugged 7 = .ok (.iload 4, 2) := by decide +kernel
theorem dL_ifPlugged_9 : decode cL_ifPlugged 9 = .ok (.invokevirtual 76, 3) := by decide +kernel
theorem dL_ifPlugged_12 : decode cL_ifPlugged 12 = .ok (.i2l, 1) := by decide +kernel
theorem dL_ifPlugged_13 : decode cL_ifPlugged 13 = .ok (.lastore, 1) := by decide +kernel
theorem dL_ifPlugged_14 : decode cL_ifPlugged 14 = .ok (.goto 11, 3) := by decide +kernel
theorem dL_ifPlugged_17 : decode cL_ifPlugged 17 = .ok (.astore 6, 2) := by decide +kernel
theorem dL_ifPlugged_19 : decode cL_ifPlugged 19 = .ok (.iconst 1, 1) := by decide +kernel
theorem dL_ifPlugged_20 : decode cL_ifPlugged 20 = .ok (.ireturn, 1) := by decide +kernel
theorem dL_ifPlugged_21 : decode cL_ifPlugged 21 = .ok (.astore 6, 2) := by decide +kernel
theorem dL_ifPlugged_23 : decode cL_ifPlugged 23 = .ok (.iconst 2, 1) := by decide +kernel
theorem dL_ifPlugged_24 : decode cL_ifPlugged 24 = .ok (.ireturn, 1) := by decide +kernel
theorem dL_ifPlugged_25 : decode cL_ifPlugged 25 = .ok (.iconst 0, 1) := by decide +kernel
theorem dL_ifPlugged_26 : decode cL_ifPlugged 26 = .ok (.ireturn, 1) := by decide +kernel
theorem dL_tripsIn_0 : decode cL_tripsIn 0 = .ok (.aload_n 2, 1) := by decide +kernel
theorem dL_tripsIn_1 : decode cL_tripsIn 1 = .ok (.iconst 0, 1) := by decide +kernel
theorem dL_tripsIn_2 : decode cL_tripsIn 2 = .ok (.aload_n 0, 1) := by decide +kernel
theorem dL_tripsIn_3 : decode cL_tripsIn 3 = .ok (.iload_n 1, 1) := by decide +kernel
theorem dL_tripsIn_4 : decode cL_tripsIn 4 = .ok (.invokevirtual 79, 3) := by decide +kernel
theorem dL_tripsIn_7 : decode cL_tripsIn 7 = .ok (.i2l, 1) := by decide +kernel
theorem dL_tripsIn_8 : decode cL_tripsIn 8 = .ok (.lastore, 1) := by decide +kernel
theorem dL_tripsIn_9 : decode cL_tripsIn 9 = .ok (.goto 6, 3) := by decide +kernel
theorem dL_tripsIn_12 : decode cL_tripsIn 12 = .ok (.astore_n 3, 1) := by decide +kernel
theorem dL_tripsIn_13 : decode cL_tripsIn 13 = .ok (.iconst 1, 1) := by decide +kernel
theorem dL_tripsIn_14 : decode cL_tripsIn 14 = .ok (.ireturn, 1) := by decide +kernel
theorem dL_tripsIn_15 : decode cL_tripsIn 15 = .ok (.iconst 0, 1) := by decide +kernel
theorem dL_tripsIn_16 : decode cL_tripsIn 16 = .ok (.ireturn, 1) := by decide +kernel
theorem dL_bestSocket_0 : decode cL_bestSocket 0 = .ok (.aload_n 2, 1) := by decide +kernel
theorem dL_bestSocket_1 : decode cL_bestSocket 1 = .ok (.iconst 0, 1) := by decide +kernel
theorem dL_bestSocket_2 : decode cL_bestSocket 2 = .ok (.aload_n 0, 1) := by decide +kernel
theorem dL_bestSocket_3 : decode cL_bestSocket 3 = .ok (.iload_n 1, 1) := by decide +kernel
theorem dL_bestSocket_4 : decode cL_bestSocket 4 = .ok (.invokevirtual 82, 3) := by decide +kernel
theorem dL_bestSocket_7 : decode cL_bestSocket 7 = .ok (.i2l, 1) := by decide +kernel
theorem dL_bestSocket_8 : decode cL_bestSocket 8 = .ok (.lastore, 1) := by decide +kernel
theorem dL_bestSocket_9 : decode cL_bestSocket 9 = .ok (.goto 6, 3) := by decide +kernel
theorem dL_bestSocket_12 : decode cL_bestSocket 12 = .ok (.astore_n 3, 1) := by decide +kernel
theorem dL_bestSocket_13 : decode cL_bestSocket 13 = .ok (.iconst 1, 1) := by decide +kernel
theorem dL_bestSocket_14 : decode cL_bestSocket 14 = .ok (.ireturn, 1) := by decide +kernel
theorem dL_bestSocket_15 : decode cL_bestSocket 15 = .ok (.iconst 0, 1) := by decide +kernel
theorem dL_bestSocket_16 : decode cL_bestSocket 16 = .ok (.ireturn, 1) := by decide +kernel
theorem dL_leastBound_0 : decode cL_leastBound 0 = .ok (.aload_n 2, 1) := by decide +kernel
theorem dL_leastBound_1 : decode cL_leastBound 1 = .ok (.iconst 0, 1) := by decide +kernel
theorem dL_leastBound_2 : decode cL_leastBound 2 = .ok (.aload_n 0, 1) := by decide +kernel
theorem dL_leastBound_3 : decode cL_leastBound 3 = .ok (.iload_n 1, 1) := by decide +kernel
theorem dL_leastBound_4 : decode cL_leastBound 4 = .ok (.invokevirtual 85, 3) := by decide +kernel
theorem dL_leastBound_7 : decode cL_leastBound 7 = .ok (.i2l, 1) := by decide +kernel
theorem dL_leastBound_8 : decode cL_leastBound 8 = .ok (.lastore, 1) := by decide +kernel
theorem dL_leastBound_9 : decode cL_leastBound 9 = .ok (.goto 6, 3) := by decide +kernel
theorem dL_leastBound_12 : decode cL_leastBound 12 = .ok (.astore_n 3, 1) := by decide +kernel
theorem dL_leastBound_13 : decode cL_leastBound 13 = .ok (.iconst 1, 1) := by decide +kernel
theorem dL_leastBound_14 : decode cL_leastBound 14 = .ok (.ireturn, 1) := by decide +kernel
theorem dL_leastBound_15 : decode cL_leastBound 15 = .ok (.iconst 0, 1) := by decide +kernel
theorem dL_leastBound_16 : decode cL_leastBound 16 = .ok (.ireturn, 1) := by decide +kernel
end
section
theorem dL_law_0 : decode cL_law 0 = .ok (.new 8, 3) := by decide +kernel
theorem dL_law_3 : decode cL_law 3 = .ok (.dup, 1) := by decide +kernel
theorem dL_law_4 : decode cL_law 4 = .ok (.invokespecial 88, 3) := by decide +kernel
theorem dL_law_7 : decode cL_law 7 = .ok (.astore_n 1, 1) := by decide +kernel
theorem dL_law_8 : decode cL_law 8 = .ok (.new 89, 3) := by decide +kernel
theorem dL_law_11 : decode cL_law 11 = .ok (.dup, 1) := by decide +kernel
theorem dL_law_12 : decode cL_law 12 = .ok (.invokespecial 91, 3) := by decide +kernel
theorem dL_law_15 : decode cL_law 15 = .ok (.astore_n 2, 1) := by decide +kernel
theorem dL_law_16 : decode cL_law 16 = .ok (.iconst 1, 1) := by decide +kernel
theorem dL_law_17 : decode cL_law 17 = .ok (.newarray .long, 2) := by decide +kernel
theorem dL_law_19 : decode cL_law 19 = .ok (.astore_n 3, 1) := by decide +kernel
theorem dL_law_20 : decode cL_law 20 = .ok (.iconst 0, 1) := by decide +kernel
theorem dL_law_21 : decode cL_law 21 = .ok (.istore 4, 2) := by decide +kernel
theorem dL_law_23 : decode cL_law 23 = .ok (.iload 4, 2) := by decide +kernel
theorem dL_law_25 : decode cL_law 25 = .ok (.aload_n 0, 1) := by decide +kernel
theorem dL_law_26 : decode cL_law 26 = .ok (.arraylength, 1) := by decide +kernel
theorem dL_law_27 : decode cL_law 27 = .ok (.iconst 5, 1) := by decide +kernel
theorem dL_law_28 : decode cL_law 28 = .ok (.isub, 1) := by decide +kernel
theorem dL_law_29 : decode cL_law 29 = .ok (.if_icmp .gt 1626, 3) := by decide +kernel
theorem dL_law_32 : decode cL_law 32 = .ok (.aload_n 0, 1) := by decide +kernel
theorem dL_law_33 : decode cL_law 33 = .ok (.iload 4, 2) := by decide +kernel
theorem dL_law_35 : decode cL_law 35 = .ok (.iaload, 1) := by decide +kernel
theorem dL_law_36 : decode cL_law 36 = .ok (.bipush 31, 2) := by decide +kernel
theorem dL_law_38 : decode cL_law 38 = .ok (.iand, 1) := by decide +kernel
theorem dL_law_39 : decode cL_law 39 = .ok (.tableswitch 1610 0 26 #[121, 213, 281, 337, 393, 461, 517, 573, 629, 697, 753, 766, 779, 823, 879, 935, 979, 1047, 1115, 1183, 1239, 1295, 1387, 1443, 1499, 1555, 1596], 121) := by decide +kernel
theorem dL_law_160 : decode cL_law 160 = .ok (.aload_n 1, 1) := by decide +kernel
theorem dL_law_161 : decode cL_law 161 = .ok (.aload_n 0, 1) := by decide +kernel
theorem dL_law_162 : decode cL_law 162 = .ok (.iload 4, 2) := by decide +kernel
theorem dL_law_164 : decode cL_law 164 = .ok (.iconst 1, 1) := by decide +kernel
theorem dL_law_165 : decode cL_law 165 = .ok (.iadd, 1) := by decide +kernel
theorem dL_law_166 : decode cL_law 166 = .ok (.iaload, 1) := by decide +kernel
theorem dL_law_167 : decode cL_law 167 = .ok (.aload_n 0, 1) := by decide +kernel
theorem dL_law_168 : decode cL_law 168 = .ok (.iload 4, 2) := by decide +kernel
theorem dL_law_170 : decode cL_law 170 = .ok (.iconst 2, 1) := by decide +kernel
theorem dL_law_171 : decode cL_law 171 = .ok (.iadd, 1) := by decide +kernel
theorem dL_law_172 : decode cL_law 172 = .ok (.iaload, 1) := by decide +kernel
theorem dL_law_173 : decode cL_law 173 = .ok (.aload_n 0, 1) := by decide +kernel
theorem dL_law_174 : decode cL_law 174 = .ok (.iload 4, 2) := by decide +kernel
theorem dL_law_176 : decode cL_law 176 = .ok (.iconst 3, 1) := by decide +kernel
theorem dL_law_177 : decode cL_law 177 = .ok (.iadd, 1) := by decide +kernel
theorem dL_law_178 : decode cL_law 178 = .ok (.iaload, 1) := by decide +kernel
theorem dL_law_179 : decode cL_law 179 = .ok (.aload_n 0, 1) := by decide +kernel
theorem dL_law_180 : decode cL_law 180 = .ok (.iload 4, 2) := by decide +kernel
theorem dL_law_182 : decode cL_law 182 = .ok (.iconst 4, 1) := by decide +kernel
theorem dL_law_183 : decode cL_law 183 = .ok (.iadd, 1) := by decide +kernel
theorem dL_law_184 : decode cL_law 184 = .ok (.iaload, 1) := by decide +kernel
theorem dL_law_185 : decode cL_law 185 = .ok (.aload_n 3, 1) := by decide +kernel
theorem dL_law_186 : decode cL_law 186 = .ok (.invokestatic 92, 3) := by decide +kernel
theorem dL_law_189 : decode cL_law 189 = .ok (.istore 5, 2) := by decide +kernel
theorem dL_law_191 : decode cL_law 191 = .ok (.aload_n 2, 1) := by decide +kernel
theorem dL_law_192 : decode cL_law 192 = .ok (.aload_n 0, 1) := by decide +kernel
theorem dL_law_193 : decode cL_law 193 = .ok (.iload 4, 2) := by decide +kernel
theorem dL_law_195 : decode cL_law 195 = .ok (.iconst 1, 1) := by decide +kernel
theorem dL_law_196 : decode cL_law 196 = .ok (.iadd, 1) := by decide +kernel
theorem dL_law_197 : decode cL_law 197 = .ok (.iaload, 1) := by decide +kernel
theorem dL_law_198 : decode cL_law 198 = .ok (.aload_n 0, 1) := by decide +kernel
theorem dL_law_199 : decode cL_law 199 = .ok (.iload 4, 2) := by decide +kernel
theorem dL_law_201 : decode cL_law 201 = .ok (.iconst 2, 1) := by decide +kernel
theorem dL_law_202 : decode cL_law 202 = .ok (.iadd, 1) := by decide +kernel
theorem dL_law_203 : decode cL_law 203 = .ok (.iaload, 1) := by decide +kernel
theorem dL_law_204 : decode cL_law 204 = .ok (.aload_n 0, 1) := by decide +kernel
theorem dL_law_205 : decode cL_law 205 = .ok (.iload 4, 2) := by decide +kernel
theorem dL_law_207 : decode cL_law 207 = .ok (.iconst 3, 1) := by decide +kernel
theorem dL_law_208 : decode cL_law 208 = .ok (.iadd, 1) := by decide +kernel
theorem dL_law_209 : decode cL_law 209 = .ok (.iaload, 1) := by decide +kernel
theorem dL_law_210 : decode cL_law 210 = .ok (.aload_n 0, 1) := by decide +kernel
theorem dL_law_211 : decode cL_law 211 = .ok (.iload 4, 2) := by decide +kernel
theorem dL_law_213 : decode cL_law 213 = .ok (.iconst 4, 1) := by decide +kernel
theorem dL_law_214 : decode cL_law 214 = .ok (.iadd, 1) := by decide +kernel
theorem dL_law_215 : decode cL_law 215 = .ok (.iaload, 1) := by decide +kernel
theorem dL_law_216 : decode cL_law 216 = .ok (.invokevirtual 97, 3) := by decide +kernel
theorem dL_law_219 : decode cL_law 219 = .ok (.istore 6, 2) := by decide +kernel
theorem dL_law_221 : decode cL_law 221 = .ok (.aload_n 2, 1) := by decide +kernel
theorem dL_law_222 : decode cL_law 222 = .ok (.invokevirtual 98, 3) := by decide +kernel
theorem dL_law_225 : decode cL_law 225 = .ok (.iload 5, 2) := by decide +kernel
theorem dL_law_227 : decode cL_law 227 = .ok (.if_icmp .eq 5, 3) := by decide +kernel
theorem dL_law_230 : decode cL_law 230 = .ok (.iconst 0, 1) := by decide +kernel
theorem dL_law_231 : decode cL_law 231 = .ok (.ireturn, 1) := by decide +kernel
theorem dL_law_232 : decode cL_law 232 = .ok (.iload 5, 2) := by decide +kernel
theorem dL_law_234 : decode cL_law 234 = .ok (.ifCond .ne 15, 3) := by decide +kernel
theorem dL_law_237 : decode cL_law 237 = .ok (.aload_n 3, 1) := by decide +kernel
theorem dL_law_238 : decode cL_law 238 = .ok (.iconst 0, 1) := by decide +kernel
theorem dL_law_239 : decode cL_law 239 = .ok (.laload, 1) := by decide +kernel
theorem dL_law_240 : decode cL_law 240 = .ok (.iload 6, 2) := by decide +kernel
theorem dL_law_242 : decode cL_law 242 = .ok (.i2l, 1) := by decide +kernel
theorem dL_law_243 : decode cL_law 243 = .ok (.lcmp, 1) := by decide +kernel
theorem dL_law_244 : decode cL_law 244 = .ok (.ifCond .eq 5, 3) := by decide +kernel
theorem dL_law_247 : decode cL_law 247 = .ok (.iconst 0, 1) := by decide +kernel
theorem dL_law_248 : decode cL_law 248 = .ok (.ireturn, 1) := by decide +kernel
theorem dL_law_249 : decode cL_law 249 = .ok (.goto 1400, 3) := by decide +kernel
theorem dL_law_252 : decode cL_law 252 = .ok (.aload_n 1, 1) := by decide +kernel
theorem dL_law_253 : decode cL_law 253 = .ok (.aload_n 0, 1) := by decide +kernel
theorem dL_law_254 : decode cL_law 254 = .ok (.iload 4, 2) := by decide +kernel
theorem dL_law_256 : decode cL_law 256 = .ok (.iconst 1, 1) := by decide +kernel
theorem dL_law_257 : decode cL_law 257 = .ok (.iadd, 1) := by decide +kernel
theorem dL_law_258 : decode cL_law 258 = .ok (.iaload, 1) := by decide +kernel
theorem dL_law_259 : decode cL_law 259 = .ok (.aload_n 0, 1) := by decide +kernel
theorem dL_law_260 : decode cL_law 260 = .ok (.iload 4, 2) := by decide +kernel
theorem dL_law_262 : decode cL_law 262 = .ok (.iconst 2, 1) := by decide +kernel
theorem dL_law_263 : decode cL_law 263 = .ok (.iadd, 1) := by decide +kernel
theorem dL_law_264 : decode cL_law 264 = .ok (.iaload, 1) := by decide +kernel
theorem dL_law_265 : decode cL_law 265 = .ok (.aload_n 3, 1) := by decide +kernel
theorem dL_law_266 : decode cL_law 266 = .ok (.invokestatic 101, 3) := by decide +kernel
theorem dL_law_269 : decode cL_law 269 = .ok (.istore 5, 2) := by decide +kernel
theorem dL_law_271 : decode cL_law 271 = .ok (.aload_n 2, 1) := by decide +kernel
theorem dL_law_272 : decode cL_law 272 = .ok (.aload_n 0, 1) := by decide +kernel
theorem dL_law_273 : decode cL_law 273 = .ok (.iload 4, 2) := by decide +kernel
theorem dL_law_275 : decode cL_law 275 = .ok (.iconst 1, 1) := by decide +kernel
theorem dL_law_276 : decode cL_law 276 = .ok (.iadd, 1) := by decide +kernel
theorem dL_law_277 : decode cL_law 277 = .ok (.iaload, 1) := by decide +kernel
theorem dL_law_278 : decode cL_law 278 = .ok (.aload_n 0, 1) := by decide +kernel
theorem dL_law_279 : decode cL_law 279 = .ok (.iload 4, 2) := by decide +kernel
theorem dL_law_281 : decode cL_law 281 = .ok (.iconst 2, 1) := by decide +kernel
theorem dL_law_282 : decode cL_law 282 = .ok (.iadd, 1) := by decide +kernel
theorem dL_law_283 : decode cL_law 283 = .ok (.iaload, 1) := by decide +kernel
theorem dL_law_284 : decode cL_law 284 = .ok (.invokevirtual 104, 3) := by decide +kernel
theorem dL_law_287 : decode cL_law 287 = .ok (.istore 6, 2) := by decide +kernel
theorem dL_law_289 : decode cL_law 289 = .ok (.aload_n 2, 1) := by decide +kernel
theorem dL_law_290 : decode cL_law 290 = .ok (.invokevirtual 98, 3) := by decide +kernel
theorem dL_law_293 : decode cL_law 293 = .ok (.iload 5, 2) := by decide +kernel
theorem dL_law_295 : decode cL_law 295 = .ok (.if_icmp .eq 5, 3) := by decide +kernel
theorem dL_law_298 : decode cL_law 298 = .ok (.iconst 0, 1) := by decide +kernel
theorem dL_law_299 : decode cL_law 299 = .ok (.ireturn, 1) := by decide +kernel
theorem dL_law_300 : decode cL_law 300 = .ok (.iload 5, 2) := by decide +kernel
theorem dL_law_302 : decode cL_law 302 = .ok (.ifCond .ne 15, 3) := by decide +kernel
theorem dL_law_305 : decode cL_law 305 = .ok (.aload_n 3, 1) := by decide +kernel
theorem dL_law_306 : decode cL_law 306 = .ok (.iconst 0, 1) := by decide +kernel
theorem dL_law_307 : decode cL_law 307 = .ok (.laload, 1) := by decide +kernel
theorem dL_law_308 : decode cL_law 308 = .ok (.iload 6, 2) := by decide +kernel
theorem dL_law_310 : decode cL_law 310 = .ok (.i2l, 1) := by decide +kernel
theorem dL_law_311 : decode cL_law 311 = .ok (.lcmp, 1) := by decide +kernel
theorem dL_law_312 : decode cL_law 312 = .ok (.ifCond .eq 5, 3) := by decide +kernel
theorem dL_law_315 : decode cL_law 315 = .ok (.iconst 0, 1) := by decide +kernel
theorem dL_law_316 : decode cL_law 316 = .ok (.ireturn, 1) := by decide +kernel
theorem dL_law_317 : decode cL_law 317 = .ok (.goto 1332, 3) := by decide +kernel
theorem dL_law_320 : decode cL_law 320 = .ok (.aload_n 1, 1) := by decide +kernel
theorem dL_law_321 : decode cL_law 321 = .ok (.aload_n 0, 1) := by decide +kernel
theorem dL_law_322 : decode cL_law 322 = .ok (.iload 4, 2) := by decide +kernel
theorem dL_law_324 : decode cL_law 324 = .ok (.iconst 1, 1) := by decide +kernel
theorem dL_law_325 : decode cL_law 325 = .ok (.iadd, 1) := by decide +kernel
theorem dL_law_326 : decode cL_law 326 = .ok (.iaload, 1) := by decide +kernel
theorem dL_law_327 : decode cL_law 327 = .ok (.aload_n 3, 1) := by decide +kernel
theorem dL_law_328 : decode cL_law 328 = .ok (.invokestatic 105, 3) := by decide +kernel
theorem dL_law_331 : decode cL_law 331 = .ok (.istore 5, 2) := by decide +kernel
theorem dL_law_333 : decode cL_law 333 = .ok (.aload_n 2, 1) := by decide +kernel
theorem dL_law_334 : decode cL_law 334 = .ok (.aload_n 0, 1) := by decide +kernel
theorem dL_law_335 : decode cL_law 335 = .ok (.iload 4, 2) := by decide +kernel
theorem dL_law_337 : decode cL_law 337 = .ok (.iconst 1, 1) := by decide +kernel
theorem dL_law_338 : decode cL_law 338 = .ok (.iadd, 1) := by decide +kernel
theorem dL_law_339 : decode cL_law 339 = .ok (.iaload, 1) := by decide +kernel
theorem dL_law_340 : decode cL_law 340 = .ok (.invokevirtual 108, 3) := by decide +kernel
theorem dL_law_343 : decode cL_law 343 = .ok (.istore 6, 2) := by decide +kernel
theorem dL_law_345 : decode cL_law 345 = .ok (.aload_n 2, 1) := by decide +kernel
theorem dL_law_346 : decode cL_law 346 = .ok (.invokevirtual 98, 3) := by decide +kernel
theorem dL_law_349 : decode cL_law 349 = .ok (.iload 5, 2) := by decide +kernel
theorem dL_law_351 : decode cL_law 351 = .ok (.if_icmp .eq 5, 3) := by decide +kernel
theorem dL_law_354 : decode cL_law 354 = .ok (.iconst 0, 1) := by decide +kernel
theorem dL_law_355 : decode cL_law 355 = .ok (.ireturn, 1) := by decide +kernel
theorem dL_law_356 : decode cL_law 356 = .ok (.iload 5, 2) := by decide +kernel
theorem dL_law_358 : decode cL_law 358 = .ok (.ifCond .ne 15, 3) := by decide +kernel
theorem dL_law_361 : decode cL_law 361 = .ok (.aload_n 3, 1) := by decide +kernel
theorem dL_law_362 : decode cL_law 362 = .ok (.iconst 0, 1) := by decide +kernel
theorem dL_law_363 : decode cL_law 363 = .ok (.laload, 1) := by decide +kernel
theorem dL_law_364 : decode cL_law 364 = .ok (.iload 6, 2) := by decide +kernel
theorem dL_law_366 : decode cL_law 366 = .ok (.i2l, 1) := by decide +kernel
theorem dL_law_367 : decode cL_law 367 = .ok (.lcmp, 1) := by decide +kernel
theorem dL_law_368 : decode cL_law 368 = .ok (.ifCond .eq 5, 3) := by decide +kernel
theorem dL_law_371 : decode cL_law 371 = .ok (.iconst 0, 1) := by decide +kernel
theorem dL_law_372 : decode cL_law 372 = .ok (.ireturn, 1) := by decide +kernel
theorem dL_law_373 : decode cL_law 373 = .ok (.goto 1276, 3) := by decide +kernel
theorem dL_law_376 : decode cL_law 376 = .ok (.aload_n 1, 1) := by decide +kernel
theorem dL_law_377 : decode cL_law 377 = .ok (.aload_n 0, 1) := by decide +kernel
theorem dL_law_378 : decode cL_law 378 = .ok (.iload 4, 2) := by decide +kernel
theorem dL_law_380 : decode cL_law 380 = .ok (.iconst 1, 1) := by decide +kernel
theorem dL_law_381 : decode cL_law 381 = .ok (.iadd, 1) := by decide +kernel
theorem dL_law_382 : decode cL_law 382 = .ok (.iaload, 1) := by decide +kernel
theorem dL_law_383 : decode cL_law 383 = .ok (.aload_n 3, 1) := by decide +kernel
theorem dL_law_384 : decode cL_law 384 = .ok (.invokestatic 109, 3) := by decide +kernel
theorem dL_law_387 : decode cL_law 387 = .ok (.istore 5, 2) := by decide +kernel
theorem dL_law_389 : decode cL_law 389 = .ok (.aload_n 2, 1) := by decide +kernel
theorem dL_law_390 : decode cL_law 390 = .ok (.aload_n 0, 1) := by decide +kernel
theorem dL_law_391 : decode cL_law 391 = .ok (.iload 4, 2) := by decide +kernel
theorem dL_law_393 : decode cL_law 393 = .ok (.iconst 1, 1) := by decide +kernel
theorem dL_law_394 : decode cL_law 394 = .ok (.iadd, 1) := by decide +kernel
theorem dL_law_395 : decode cL_law 395 = .ok (.iaload, 1) := by decide +kernel
theorem dL_law_396 : decode cL_law 396 = .ok (.invokevirtual 111, 3) := by decide +kernel
theorem dL_law_399 : decode cL_law 399 = .ok (.istore 6, 2) := by decide +kernel
theorem dL_law_401 : decode cL_law 401 = .ok (.aload_n 2, 1) := by decide +kernel
theorem dL_law_402 : decode cL_law 402 = .ok (.invokevirtual 98, 3) := by decide +kernel
theorem dL_law_405 : decode cL_law 405 = .ok (.iload 5, 2) := by decide +kernel
theorem dL_law_407 : decode cL_law 407 = .ok (.if_icmp .eq 5, 3) := by decide +kernel
theorem dL_law_410 : decode cL_law 410 = .ok (.iconst 0, 1) := by decide +kernel
theorem dL_law_411 : decode cL_law 411 = .ok (.ireturn, 1) := by decide +kernel
theorem dL_law_412 : decode cL_law 412 = .ok (.iload 5, 2) := by decide +kernel
theorem dL_law_414 : decode cL_law 414 = .ok (.ifCond .ne 15, 3) := by decide +kernel
theorem dL_law_417 : decode cL_law 417 = .ok (.aload_n 3, 1) := by decide +kernel
theorem dL_law_418 : decode cL_law 418 = .ok (.iconst 0, 1) := by decide +kernel
theorem dL_law_419 : decode cL_law 419 = .ok (.laload, 1) := by decide +kernel
theorem dL_law_420 : decode cL_law 420 = .ok (.iload 6, 2) := by decide +kernel
theorem dL_law_422 : decode cL_law 422 = .ok (.i2l, 1) := by decide +kernel
theorem dL_law_423 : decode cL_law 423 = .ok (.lcmp, 1) := by decide +kernel
theorem dL_law_424 : decode cL_law 424 = .ok (.ifCond .eq 5, 3) := by decide +kernel
theorem dL_law_427 : decode cL_law 427 = .ok (.iconst 0, 1) := by decide +kernel
theorem dL_law_428 : decode cL_law 428 = .ok (.ireturn, 1) := by decide +kernel
theorem dL_law_429 : decode cL_law 429 = .ok (.goto 1220, 3) := by decide +kernel
theorem dL_law_432 : decode cL_law 432 = .ok (.aload_n 1, 1) := by decide +kernel
theorem dL_law_433 : decode cL_law 433 = .ok (.aload_n 0, 1) := by decide +kernel
theorem dL_law_434 : decode cL_law 434 = .ok (.iload 4, 2) := by decide +kernel
theorem dL_law_436 : decode cL_law 436 = .ok (.iconst 1, 1) := by decide +kernel
theorem dL_law_437 : decode cL_law 437 = .ok (.iadd, 1) := by decide +kernel
theorem dL_law_438 : decode cL_law 438 = .ok (.iaload, 1) := by decide +kernel
theorem dL_law_439 : decode cL_law 439 = .ok (.aload_n 0, 1) := by decide +kernel
theorem dL_law_440 : decode cL_law 440 = .ok (.iload 4, 2) := by decide +kernel
theorem dL_law_442 : decode cL_law 442 = .ok (.iconst 2, 1) := by decide +kernel
theorem dL_law_443 : decode cL_law 443 = .ok (.iadd, 1) := by decide +kernel
theorem dL_law_444 : decode cL_law 444 = .ok (.iaload, 1) := by decide +kernel
theorem dL_law_445 : decode cL_law 445 = .ok (.aload_n 3, 1) := by decide +kernel
theorem dL_law_446 : decode cL_law 446 = .ok (.invokestatic 112, 3) := by decide +kernel
theorem dL_law_449 : decode cL_law 449 = .ok (.istore 5, 2) := by decide +kernel
theorem dL_law_451 : decode cL_law 451 = .ok (.aload_n 2, 1) := by decide +kernel
theorem dL_law_452 : decode cL_law 452 = .ok (.aload_n 0, 1) := by decide +kernel
theorem dL_law_453 : decode cL_law 453 = .ok (.iload 4, 2) := by decide +kernel
theorem dL_law_455 : decode cL_law 455 = .ok (.iconst 1, 1) := by decide +kernel
theorem dL_law_456 : decode cL_law 456 = .ok (.iadd, 1) := by decide +kernel
theorem dL_law_457 : decode cL_law 457 = .ok (.iaload, 1) := by decide +kernel
theorem dL_law_458 : decode cL_law 458 = .ok (.aload_n 0, 1) := by decide +kernel
theorem dL_law_459 : decode cL_law 459 = .ok (.iload 4, 2) := by decide +kernel
theorem dL_law_461 : decode cL_law 461 = .ok (.iconst 2, 1) := by decide +kernel
theorem dL_law_462 : decode cL_law 462 = .ok (.iadd, 1) := by decide +kernel
theorem dL_law_463 : decode cL_law 463 = .ok (.iaload, 1) := by decide +kernel
theorem dL_law_464 : decode cL_law 464 = .ok (.invokevirtual 114, 3) := by decide +kernel
theorem dL_law_467 : decode cL_law 467 = .ok (.istore 6, 2) := by decide +kernel
theorem dL_law_469 : decode cL_law 469 = .ok (.aload_n 2, 1) := by decide +kernel
theorem dL_law_470 : decode cL_law 470 = .ok (.invokevirtual 98, 3) := by decide +kernel
theorem dL_law_473 : decode cL_law 473 = .ok (.iload 5, 2) := by decide +kernel
theorem dL_law_475 : decode cL_law 475 = .ok (.if_icmp .eq 5, 3) := by decide +kernel
theorem dL_law_478 : decode cL_law 478 = .ok (.iconst 0, 1) := by decide +kernel
theorem dL_law_479 : decode cL_law 479 = .ok (.ireturn, 1) := by decide +kernel
theorem dL_law_480 : decode cL_law 480 = .ok (.iload 5, 2) := by decide +kernel
theorem dL_law_482 : decode cL_law 482 = .ok (.ifCond .ne 15, 3) := by decide +kernel
theorem dL_law_485 : decode cL_law 485 = .ok (.aload_n 3, 1) := by decide +kernel
theorem dL_law_486 : decode cL_law 486 = .ok (.iconst 0, 1) := by decide +kernel
theorem dL_law_487 : decode cL_law 487 = .ok (.laload, 1) := by decide +kernel
theorem dL_law_488 : decode cL_law 488 = .ok (.iload 6, 2) := by decide +kernel
theorem dL_law_490 : decode cL_law 490 = .ok (.i2l, 1) := by decide +kernel
theorem dL_law_491 : decode cL_law 491 = .ok (.lcmp, 1) := by decide +kernel
theorem dL_law_492 : decode cL_law 492 = .ok (.ifCond .eq 5, 3) := by decide +kernel
theorem dL_law_495 : decode cL_law 495 = .ok (.iconst 0, 1) := by decide +kernel
theorem dL_law_496 : decode cL_law 496 = .ok (.ireturn, 1) := by decide +kernel
theorem dL_law_497 : decode cL_law 497 = .ok (.goto 1152, 3) := by decide +kernel
theorem dL_law_500 : decode cL_law 500 = .ok (.aload_n 1, 1) := by decide +kernel
theorem dL_law_501 : decode cL_law 501 = .ok (.aload_n 0, 1) := by decide +kernel
theorem dL_law_502 : decode cL_law 502 = .ok (.iload 4, 2) := by decide +kernel
theorem dL_law_504 : decode cL_law 504 = .ok (.iconst 1, 1) := by decide +kernel
theorem dL_law_505 : decode cL_law 505 = .ok (.iadd, 1) := by decide +kernel
theorem dL_law_506 : decode cL_law 506 = .ok (.iaload, 1) := by decide +kernel
theorem dL_law_507 : decode cL_law 507 = .ok (.aload_n 3, 1) := by decide +kernel
theorem dL_law_508 : decode cL_law 508 = .ok (.invokestatic 115, 3) := by decide +kernel
theorem dL_law_511 : decode cL_law 511 = .ok (.istore 5, 2) := by decide +kernel
theorem dL_law_513 : decode cL_law 513 = .ok (.aload_n 2, 1) := by decide +kernel
theorem dL_law_514 : decode cL_law 514 = .ok (.aload_n 0, 1) := by decide +kernel
theorem dL_law_515 : decode cL_law 515 = .ok (.iload 4, 2) := by decide +kernel
theorem dL_law_517 : decode cL_law 517 = .ok (.iconst 1, 1) := by decide +kernel
theorem dL_law_518 : decode cL_law 518 = .ok (.iadd, 1) := by decide +kernel
theorem dL_law_519 : decode cL_law 519 = .ok (.iaload, 1) := by decide +kernel
theorem dL_law_520 : decode cL_law 520 = .ok (.invokevirtual 117, 3) := by decide +kernel
theorem dL_law_523 : decode cL_law 523 = .ok (.istore 6, 2) := by decide +kernel
theorem dL_law_525 : decode cL_law 525 = .ok (.aload_n 2, 1) := by decide +kernel
theorem dL_law_526 : decode cL_law 526 = .ok (.invokevirtual 98, 3) := by decide +kernel
theorem dL_law_529 : decode cL_law 529 = .ok (.iload 5, 2) := by decide +kernel
theorem dL_law_531 : decode cL_law 531 = .ok (.if_icmp .eq 5, 3) := by decide +kernel
theorem dL_law_534 : decode cL_law 534 = .ok (.iconst 0, 1) := by decide +kernel
theorem dL_law_535 : decode cL_law 535 = .ok (.ireturn, 1) := by decide +kernel
theorem dL_law_536 : decode cL_law 536 = .ok (.iload 5, 2) := by decide +kernel
theorem dL_law_538 : decode cL_law 538 = .ok (.ifCond .ne 15, 3) := by decide +kernel
theorem dL_law_541 : decode cL_law 541 = .ok (.aload_n 3, 1) := by decide +kernel
theorem dL_law_542 : decode cL_law 542 = .ok (.iconst 0, 1) := by decide +kernel
theorem dL_law_543 : decode cL_law 543 = .ok (.laload, 1) := by decide +kernel
theorem dL_law_544 : decode cL_law 544 = .ok (.iload 6, 2) := by decide +kernel
theorem dL_law_546 : decode cL_law 546 = .ok (.i2l, 1) := by decide +kernel
theorem dL_law_547 : decode cL_law 547 = .ok (.lcmp, 1) := by decide +kernel
theorem dL_law_548 : decode cL_law 548 = .ok (.ifCond .eq 5, 3) := by decide +kernel
theorem dL_law_551 : decode cL_law 551 = .ok (.iconst 0, 1) := by decide +kernel
theorem dL_law_552 : decode cL_law 552 = .ok (.ireturn, 1) := by decide +kernel
theorem dL_law_553 : decode cL_law 553 = .ok (.goto 1096, 3) := by decide +kernel
theorem dL_law_556 : decode cL_law 556 = .ok (.aload_n 1, 1) := by decide +kernel
theorem dL_law_557 : decode cL_law 557 = .ok (.aload_n 0, 1) := by decide +kernel
theorem dL_law_558 : decode cL_law 558 = .ok (.iload 4, 2) := by decide +kernel
theorem dL_law_560 : decode cL_law 560 = .ok (.iconst 1, 1) := by decide +kernel
theorem dL_law_561 : decode cL_law 561 = .ok (.iadd, 1) := by decide +kernel
theorem dL_law_562 : decode cL_law 562 = .ok (.iaload, 1) := by decide +kernel
theorem dL_law_563 : decode cL_law 563 = .ok (.aload_n 3, 1) := by decide +kernel
theorem dL_law_564 : decode cL_law 564 = .ok (.invokestatic 118, 3) := by decide +kernel
theorem dL_law_567 : decode cL_law 567 = .ok (.istore 5, 2) := by decide +kernel
theorem dL_law_569 : decode cL_law 569 = .ok (.aload_n 2, 1) := by decide +kernel
theorem dL_law_570 : decode cL_law 570 = .ok (.aload_n 0, 1) := by decide +kernel
theorem dL_law_571 : decode cL_law 571 = .ok (.iload 4, 2) := by decide +kernel
theorem dL_law_573 : decode cL_law 573 = .ok (.iconst 1, 1) := by decide +kernel
theorem dL_law_574 : decode cL_law 574 = .ok (.iadd, 1) := by decide +kernel
theorem dL_law_575 : decode cL_law 575 = .ok (.iaload, 1) := by decide +kernel
theorem dL_law_576 : decode cL_law 576 = .ok (.invokevirtual 120, 3) := by decide +kernel
theorem dL_law_579 : decode cL_law 579 = .ok (.istore 6, 2) := by decide +kernel
theorem dL_law_581 : decode cL_law 581 = .ok (.aload_n 2, 1) := by decide +kernel
theorem dL_law_582 : decode cL_law 582 = .ok (.invokevirtual 98, 3) := by decide +kernel
theorem dL_law_585 : decode cL_law 585 = .ok (.iload 5, 2) := by decide +kernel
theorem dL_law_587 : decode cL_law 587 = .ok (.if_icmp .eq 5, 3) := by decide +kernel
theorem dL_law_590 : decode cL_law 590 = .ok (.iconst 0, 1) := by decide +kernel
theorem dL_law_591 : decode cL_law 591 = .ok (.ireturn, 1) := by decide +kernel
theorem dL_law_592 : decode cL_law 592 = .ok (.iload 5, 2) := by decide +kernel
theorem dL_law_594 : decode cL_law 594 = .ok (.ifCond .ne 15, 3) := by decide +kernel
theorem dL_law_597 : decode cL_law 597 = .ok (.aload_n 3, 1) := by decide +kernel
theorem dL_law_598 : decode cL_law 598 = .ok (.iconst 0, 1) := by decide +kernel
theorem dL_law_599 : decode cL_law 599 = .ok (.laload, 1) := by decide +kernel
theorem dL_law_600 : decode cL_law 600 = .ok (.iload 6, 2) := by decide +kernel
theorem dL_law_602 : decode cL_law 602 = .ok (.i2l, 1) := by decide +kernel
theorem dL_law_603 : decode cL_law 603 = .ok (.lcmp, 1) := by decide +kernel
theorem dL_law_604 : decode cL_law 604 = .ok (.ifCond .eq 5, 3) := by decide +kernel
theorem dL_law_607 : decode cL_law 607 = .ok (.iconst 0, 1) := by decide +kernel
theorem dL_law_608 : decode cL_law 608 = .ok (.ireturn, 1) := by decide +kernel
theorem dL_law_609 : decode cL_law 609 = .ok (.goto 1040, 3) := by decide +kernel
theorem dL_law_612 : decode cL_law 612 = .ok (.aload_n 1, 1) := by decide +kernel
theorem dL_law_613 : decode cL_law 613 = .ok (.aload_n 0, 1) := by decide +kernel
theorem dL_law_614 : decode cL_law 614 = .ok (.iload 4, 2) := by decide +kernel
theorem dL_law_616 : decode cL_law 616 = .ok (.iconst 1, 1) := by decide +kernel
theorem dL_law_617 : decode cL_law 617 = .ok (.iadd, 1) := by decide +kernel
theorem dL_law_618 : decode cL_law 618 = .ok (.iaload, 1) := by decide +kernel
theorem dL_law_619 : decode cL_law 619 = .ok (.aload_n 3, 1) := by decide +kernel
theorem dL_law_620 : decode cL_law 620 = .ok (.invokestatic 121, 3) := by decide +kernel
theorem dL_law_623 : decode cL_law 623 = .ok (.istore 5, 2) := by decide +kernel
theorem dL_law_625 : decode cL_law 625 = .ok (.aload_n 2, 1) := by decide +kernel
theorem dL_law_626 : decode cL_law 626 = .ok (.aload_n 0, 1) := by decide +kernel
theorem dL_law_627 : decode cL_law 627 = .ok (.iload 4, 2) := by decide +kernel
theorem dL_law_629 : decode cL_law 629 = .ok (.iconst 1, 1) := by decide +kernel
theorem dL_law_630 : decode cL_law 630 = .ok (.iadd, 1) := by decide +kernel
theorem dL_law_631 : decode cL_law 631 = .ok (.iaload, 1) := by decide +kernel
theorem dL_law_632 : decode cL_law 632 = .ok (.invokevirtual 123, 3) := by decide +kernel
theorem dL_law_635 : decode cL_law 635 = .ok (.istore 6, 2) := by decide +kernel
theorem dL_law_637 : decode cL_law 637 = .ok (.aload_n 2, 1) := by decide +kernel
theorem dL_law_638 : decode cL_law 638 = .ok (.invokevirtual 98, 3) := by decide +kernel
theorem dL_law_641 : decode cL_law 641 = .ok (.iload 5, 2) := by decide +kernel
theorem dL_law_643 : decode cL_law 643 = .ok (.if_icmp .eq 5, 3) := by decide +kernel
theorem dL_law_646 : decode cL_law 646 = .ok (.iconst 0, 1) := by decide +kernel
theorem dL_law_647 : decode cL_law 647 = .ok (.ireturn, 1) := by decide +kernel
theorem dL_law_648 : decode cL_law 648 = .ok (.iload 5, 2) := by decide +kernel
theorem dL_law_650 : decode cL_law 650 = .ok (.ifCond .ne 15, 3) := by decide +kernel
theorem dL_law_653 : decode cL_law 653 = .ok (.aload_n 3, 1) := by decide +kernel
theorem dL_law_654 : decode cL_law 654 = .ok (.iconst 0, 1) := by decide +kernel
theorem dL_law_655 : decode cL_law 655 = .ok (.laload, 1) := by decide +kernel
theorem dL_law_656 : decode cL_law 656 = .ok (.iload 6, 2) := by decide +kernel
theorem dL_law_658 : decode cL_law 658 = .ok (.i2l, 1) := by decide +kernel
theorem dL_law_659 : decode cL_law 659 = .ok (.lcmp, 1) := by decide +kernel
theorem dL_law_660 : decode cL_law 660 = .ok (.ifCond .eq 5, 3) := by decide +kernel
theorem dL_law_663 : decode cL_law 663 = .ok (.iconst 0, 1) := by decide +kernel
theorem dL_law_664 : decode cL_law 664 = .ok (.ireturn, 1) := by decide +kernel
theorem dL_law_665 : decode cL_law 665 = .ok (.goto 984, 3) := by decide +kernel
theorem dL_law_668 : decode cL_law 668 = .ok (.aload_n 1, 1) := by decide +kernel
theorem dL_law_669 : decode cL_law 669 = .ok (.aload_n 0, 1) := by decide +kernel
theorem dL_law_670 : decode cL_law 670 = .ok (.iload 4, 2) := by decide +kernel
theorem dL_law_672 : decode cL_law 672 = .ok (.iconst 1, 1) := by decide +kernel
theorem dL_law_673 : decode cL_law 673 = .ok (.iadd, 1) := by decide +kernel
theorem dL_law_674 : decode cL_law 674 = .ok (.iaload, 1) := by decide +kernel
theorem dL_law_675 : decode cL_law 675 = .ok (.aload_n 0, 1) := by decide +kernel
theorem dL_law_676 : decode cL_law 676 = .ok (.iload 4, 2) := by decide +kernel
theorem dL_law_678 : decode cL_law 678 = .ok (.iconst 2, 1) := by decide +kernel
theorem dL_law_679 : decode cL_law 679 = .ok (.iadd, 1) := by decide +kernel
theorem dL_law_680 : decode cL_law 680 = .ok (.iaload, 1) := by decide +kernel
theorem dL_law_681 : decode cL_law 681 = .ok (.aload_n 3, 1) := by decide +kernel
theorem dL_law_682 : decode cL_law 682 = .ok (.invokestatic 124, 3) := by decide +kernel
theorem dL_law_685 : decode cL_law 685 = .ok (.istore 5, 2) := by decide +kernel
theorem dL_law_687 : decode cL_law 687 = .ok (.aload_n 2, 1) := by decide +kernel
theorem dL_law_688 : decode cL_law 688 = .ok (.aload_n 0, 1) := by decide +kernel
theorem dL_law_689 : decode cL_law 689 = .ok (.iload 4, 2) := by decide +kernel
theorem dL_law_691 : decode cL_law 691 = .ok (.iconst 1, 1) := by decide +kernel
theorem dL_law_692 : decode cL_law 692 = .ok (.iadd, 1) := by decide +kernel
theorem dL_law_693 : decode cL_law 693 = .ok (.iaload, 1) := by decide +kernel
theorem dL_law_694 : decode cL_law 694 = .ok (.aload_n 0, 1) := by decide +kernel
theorem dL_law_695 : decode cL_law 695 = .ok (.iload 4, 2) := by decide +kernel
theorem dL_law_697 : decode cL_law 697 = .ok (.iconst 2, 1) := by decide +kernel
theorem dL_law_698 : decode cL_law 698 = .ok (.iadd, 1) := by decide +kernel
theorem dL_law_699 : decode cL_law 699 = .ok (.iaload, 1) := by decide +kernel
theorem dL_law_700 : decode cL_law 700 = .ok (.invokevirtual 126, 3) := by decide +kernel
theorem dL_law_703 : decode cL_law 703 = .ok (.istore 6, 2) := by decide +kernel
theorem dL_law_705 : decode cL_law 705 = .ok (.aload_n 2, 1) := by decide +kernel
theorem dL_law_706 : decode cL_law 706 = .ok (.invokevirtual 98, 3) := by decide +kernel
theorem dL_law_709 : decode cL_law 709 = .ok (.iload 5, 2) := by decide +kernel
theorem dL_law_711 : decode cL_law 711 = .ok (.if_icmp .eq 5, 3) := by decide +kernel
theorem dL_law_714 : decode cL_law 714 = .ok (.iconst 0, 1) := by decide +kernel
theorem dL_law_715 : decode cL_law 715 = .ok (.ireturn, 1) := by decide +kernel
theorem dL_law_716 : decode cL_law 716 = .ok (.iload 5, 2) := by decide +kernel
theorem dL_law_718 : decode cL_law 718 = .ok (.ifCond .ne 15, 3) := by decide +kernel
theorem dL_law_721 : decode cL_law 721 = .ok (.aload_n 3, 1) := by decide +kernel
theorem dL_law_722 : decode cL_law 722 = .ok (.iconst 0, 1) := by decide +kernel
theorem dL_law_723 : decode cL_law 723 = .ok (.laload, 1) := by decide +kernel
theorem dL_law_724 : decode cL_law 724 = .ok (.iload 6, 2) := by decide +kernel
theorem dL_law_726 : decode cL_law 726 = .ok (.i2l, 1) := by decide +kernel
theorem dL_law_727 : decode cL_law 727 = .ok (.lcmp, 1) := by decide +kernel
theorem dL_law_728 : decode cL_law 728 = .ok (.ifCond .eq 5, 3) := by decide +kernel
theorem dL_law_731 : decode cL_law 731 = .ok (.iconst 0, 1) := by decide +kernel
theorem dL_law_732 : decode cL_law 732 = .ok (.ireturn, 1) := by decide +kernel
theorem dL_law_733 : decode cL_law 733 = .ok (.goto 916, 3) := by decide +kernel
theorem dL_law_736 : decode cL_law 736 = .ok (.aload_n 1, 1) := by decide +kernel
theorem dL_law_737 : decode cL_law 737 = .ok (.aload_n 0, 1) := by decide +kernel
theorem dL_law_738 : decode cL_law 738 = .ok (.iload 4, 2) := by decide +kernel
theorem dL_law_740 : decode cL_law 740 = .ok (.iconst 1, 1) := by decide +kernel
theorem dL_law_741 : decode cL_law 741 = .ok (.iadd, 1) := by decide +kernel
theorem dL_law_742 : decode cL_law 742 = .ok (.iaload, 1) := by decide +kernel
theorem dL_law_743 : decode cL_law 743 = .ok (.aload_n 3, 1) := by decide +kernel
theorem dL_law_744 : decode cL_law 744 = .ok (.invokestatic 127, 3) := by decide +kernel
theorem dL_law_747 : decode cL_law 747 = .ok (.istore 5, 2) := by decide +kernel
theorem dL_law_749 : decode cL_law 749 = .ok (.aload_n 2, 1) := by decide +kernel
theorem dL_law_750 : decode cL_law 750 = .ok (.aload_n 0, 1) := by decide +kernel
theorem dL_law_751 : decode cL_law 751 = .ok (.iload 4, 2) := by decide +kernel
theorem dL_law_753 : decode cL_law 753 = .ok (.iconst 1, 1) := by decide +kernel
theorem dL_law_754 : decode cL_law 754 = .ok (.iadd, 1) := by decide +kernel
theorem dL_law_755 : decode cL_law 755 = .ok (.iaload, 1) := by decide +kernel
theorem dL_law_756 : decode cL_law 756 = .ok (.invokevirtual 129, 3) := by decide +kernel
theorem dL_law_759 : decode cL_law 759 = .ok (.istore 6, 2) := by decide +kernel
theorem dL_law_761 : decode cL_law 761 = .ok (.aload_n 2, 1) := by decide +kernel
theorem dL_law_762 : decode cL_law 762 = .ok (.invokevirtual 98, 3) := by decide +kernel
theorem dL_law_765 : decode cL_law 765 = .ok (.iload 5, 2) := by decide +kernel
theorem dL_law_767 : decode cL_law 767 = .ok (.if_icmp .eq 5, 3) := by decide +kernel
theorem dL_law_770 : decode cL_law 770 = .ok (.iconst 0, 1) := by decide +kernel
theorem dL_law_771 : decode cL_law 771 = .ok (.ireturn, 1) := by decide +kernel
theorem dL_law_772 : decode cL_law 772 = .ok (.iload 5, 2) := by decide +kernel
theorem dL_law_774 : decode cL_law 774 = .ok (.ifCond .ne 15, 3) := by decide +kernel
theorem dL_law_777 : decode cL_law 777 = .ok (.aload_n 3, 1) := by decide +kernel
theorem dL_law_778 : decode cL_law 778 = .ok (.iconst 0, 1) := by decide +kernel
theorem dL_law_779 : decode cL_law 779 = .ok (.laload, 1) := by decide +kernel
theorem dL_law_780 : decode cL_law 780 = .ok (.iload 6, 2) := by decide +kernel
theorem dL_law_782 : decode cL_law 782 = .ok (.i2l, 1) := by decide +kernel
theorem dL_law_783 : decode cL_law 783 = .ok (.lcmp, 1) := by decide +kernel
theorem dL_law_784 : decode cL_law 784 = .ok (.ifCond .eq 5, 3) := by decide +kernel
theorem dL_law_787 : decode cL_law 787 = .ok (.iconst 0, 1) := by decide +kernel
theorem dL_law_788 : decode cL_law 788 = .ok (.ireturn, 1) := by decide +kernel
theorem dL_law_789 : decode cL_law 789 = .ok (.goto 860, 3) := by decide +kernel
theorem dL_law_792 : decode cL_law 792 = .ok (.aload_n 1, 1) := by decide +kernel
theorem dL_law_793 : decode cL_law 793 = .ok (.invokevirtual 130, 3) := by decide +kernel
theorem dL_law_796 : decode cL_law 796 = .ok (.aload_n 2, 1) := by decide +kernel
theorem dL_law_797 : decode cL_law 797 = .ok (.invokevirtual 133, 3) := by decide +kernel
theorem dL_law_800 : decode cL_law 800 = .ok (.if_icmp .eq 849, 3) := by decide +kernel
theorem dL_law_803 : decode cL_law 803 = .ok (.iconst 0, 1) := by decide +kernel
theorem dL_law_804 : decode cL_law 804 = .ok (.ireturn, 1) := by decide +kernel
theorem dL_law_805 : decode cL_law 805 = .ok (.aload_n 1, 1) := by decide +kernel
theorem dL_law_806 : decode cL_law 806 = .ok (.invokevirtual 134, 3) := by decide +kernel
theorem dL_law_809 : decode cL_law 809 = .ok (.aload_n 2, 1) := by decide +kernel
theorem dL_law_810 : decode cL_law 810 = .ok (.invokevirtual 137, 3) := by decide +kernel
theorem dL_law_813 : decode cL_law 813 = .ok (.if_icmp .eq 836, 3) := by decide +kernel
theorem dL_law_816 : decode cL_law 816 = .ok (.iconst 0, 1) := by decide +kernel
theorem dL_law_817 : decode cL_law 817 = .ok (.ireturn, 1) := by decide +kernel
theorem dL_law_818 : decode cL_law 818 = .ok (.aload_n 1, 1) := by decide +kernel
theorem dL_law_819 : decode cL_law 819 = .ok (.aload_n 3, 1) := by decide +kernel
theorem dL_law_820 : decode cL_law 820 = .ok (.invokestatic 138, 3) := by decide +kernel
theorem dL_law_823 : decode cL_law 823 = .ok (.istore 5, 2) := by decide +kernel
theorem dL_law_825 : decode cL_law 825 = .ok (.aload_n 2, 1) := by decide +kernel
theorem dL_law_826 : decode cL_law 826 = .ok (.invokevirtual 141, 3) := by decide +kernel
theorem dL_law_829 : decode cL_law 829 = .ok (.istore 6, 2) := by decide +kernel
theorem dL_law_831 : decode cL_law 831 = .ok (.aload_n 2, 1) := by decide +kernel
theorem dL_law_832 : decode cL_law 832 = .ok (.invokevirtual 98, 3) := by decide +kernel
theorem dL_law_835 : decode cL_law 835 = .ok (.iload 5, 2) := by decide +kernel
theorem dL_law_837 : decode cL_law 837 = .ok (.if_icmp .eq 5, 3) := by decide +kernel
theorem dL_law_840 : decode cL_law 840 = .ok (.iconst 0, 1) := by decide +kernel
theorem dL_law_841 : decode cL_law 841 = .ok (.ireturn, 1) := by decide +kernel
theorem dL_law_842 : decode cL_law 842 = .ok (.iload 5, 2) := by decide +kernel
theorem dL_law_844 : decode cL_law 844 = .ok (.ifCond .ne 15, 3) := by decide +kernel
theorem dL_law_847 : decode cL_law 847 = .ok (.aload_n 3, 1) := by decide +kernel
theorem dL_law_848 : decode cL_law 848 = .ok (.iconst 0, 1) := by decide +kernel
theorem dL_law_849 : decode cL_law 849 = .ok (.laload, 1) := by decide +kernel
theorem dL_law_850 : decode cL_law 850 = .ok (.iload 6, 2) := by decide +kernel
theorem dL_law_852 : decode cL_law 852 = .ok (.i2l, 1) := by decide +kernel
theorem dL_law_853 : decode cL_law 853 = .ok (.lcmp, 1) := by decide +kernel
theorem dL_law_854 : decode cL_law 854 = .ok (.ifCond .eq 5, 3) := by decide +kernel
theorem dL_law_857 : decode cL_law 857 = .ok (.iconst 0, 1) := by decide +kernel
theorem dL_law_858 : decode cL_law 858 = .ok (.ireturn, 1) := by decide +kernel
theorem dL_law_859 : decode cL_law 859 = .ok (.goto 790, 3) := by decide +kernel
theorem dL_law_862 : decode cL_law 862 = .ok (.aload_n 1, 1) := by decide +kernel
theorem dL_law_863 : decode cL_law 863 = .ok (.aload_n 0, 1) := by decide +kernel
theorem dL_law_864 : decode cL_law 864 = .ok (.iload 4, 2) := by decide +kernel
theorem dL_law_866 : decode cL_law 866 = .ok (.iconst 1, 1) := by decide +kernel
theorem dL_law_867 : decode cL_law 867 = .ok (.iadd, 1) := by decide +kernel
theorem dL_law_868 : decode cL_law 868 = .ok (.iaload, 1) := by decide +kernel
theorem dL_law_869 : decode cL_law 869 = .ok (.aload_n 3, 1) := by decide +kernel
theorem dL_law_870 : decode cL_law 870 = .ok (.invokestatic 142, 3) := by decide +kernel
theorem dL_law_873 : decode cL_law 873 = .ok (.istore 5, 2) := by decide +kernel
theorem dL_law_875 : decode cL_law 875 = .ok (.aload_n 2, 1) := by decide +kernel
theorem dL_law_876 : decode cL_law 876 = .ok (.aload_n 0, 1) := by decide +kernel
theorem dL_law_877 : decode cL_law 877 = .ok (.iload 4, 2) := by decide +kernel
theorem dL_law_879 : decode cL_law 879 = .ok (.iconst 1, 1) := by decide +kernel
theorem dL_law_880 : decode cL_law 880 = .ok (.iadd, 1) := by decide +kernel
theorem dL_law_881 : decode cL_law 881 = .ok (.iaload, 1) := by decide +kernel
theorem dL_law_882 : decode cL_law 882 = .ok (.invokevirtual 144, 3) := by decide +kernel
theorem dL_law_885 : decode cL_law 885 = .ok (.istore 6, 2) := by decide +kernel
theorem dL_law_887 : decode cL_law 887 = .ok (.aload_n 2, 1) := by decide +kernel
theorem dL_law_888 : decode cL_law 888 = .ok (.invokevirtual 98, 3) := by decide +kernel
theorem dL_law_891 : decode cL_law 891 = .ok (.iload 5, 2) := by decide +kernel
theorem dL_law_893 : decode cL_law 893 = .ok (.if_icmp .eq 5, 3) := by decide +kernel
theorem dL_law_896 : decode cL_law 896 = .ok (.iconst 0, 1) := by decide +kernel
theorem dL_law_897 : decode cL_law 897 = .ok (.ireturn, 1) := by decide +kernel
theorem dL_law_898 : decode cL_law 898 = .ok (.iload 5, 2) := by decide +kernel
theorem dL_law_900 : decode cL_law 900 = .ok (.ifCond .ne 15, 3) := by decide +kernel
theorem dL_law_903 : decode cL_law 903 = .ok (.aload_n 3, 1) := by decide +kernel
end
section
theorem dL_law_904 : decode cL_law 904 = .ok (.iconst 0, 1) := by decide +kernel
theorem dL_law_905 : decode cL_law 905 = .ok (.laload, 1) := by decide +kernel
theorem dL_law_906 : decode cL_law 906 = .ok (.iload 6, 2) := by decide +kernel
theorem dL_law_908 : decode cL_law 908 = .ok (.i2l, 1) := by decide +kernel
theorem dL_law_909 : decode cL_law 909 = .ok (.lcmp, 1) := by decide +kernel
theorem dL_law_910 : decode cL_law 910 = .ok (.ifCond .eq 5, 3) := by decide +kernel
theorem dL_law_913 : decode cL_law 913 = .ok (.iconst 0, 1) := by decide +kernel
theorem dL_law_914 : decode cL_law 914 = .ok (.ireturn, 1) := by decide +kernel
theorem dL_law_915 : decode cL_law 915 = .ok (.goto 734, 3) := by decide +kernel
theorem dL_law_918 : decode cL_law 918 = .ok (.aload_n 1, 1) := by decide +kernel
theorem dL_law_919 : decode cL_law 919 = .ok (.aload_n 0, 1) := by decide +kernel
theorem dL_law_920 : decode cL_law 920 = .ok (.iload 4, 2) := by decide +kernel
theorem dL_law_922 : decode cL_law 922 = .ok (.iconst 1, 1) := by decide +kernel
theorem dL_law_923 : decode cL_law 923 = .ok (.iadd, 1) := by decide +kernel
theorem dL_law_924 : decode cL_law 924 = .ok (.iaload, 1) := by decide +kernel
theorem dL_law_925 : decode cL_law 925 = .ok (.aload_n 3, 1) := by decide +kernel
theorem dL_law_926 : decode cL_law 926 = .ok (.invokestatic 145, 3) := by decide +kernel
theorem dL_law_929 : decode cL_law 929 = .ok (.istore 5, 2) := by decide +kernel
theorem dL_law_931 : decode cL_law 931 = .ok (.aload_n 2, 1) := by decide +kernel
theorem dL_law_932 : decode cL_law 932 = .ok (.aload_n 0, 1) := by decide +kernel
theorem dL_law_933 : decode cL_law 933 = .ok (.iload 4, 2) := by decide +kernel
theorem dL_law_935 : decode cL_law 935 = .ok (.iconst 1, 1) := by decide +kernel
theorem dL_law_936 : decode cL_law 936 = .ok (.iadd, 1) := by decide +kernel
theorem dL_law_937 : decode cL_law 937 = .ok (.iaload, 1) := by decide +kernel
theorem dL_law_938 : decode cL_law 938 = .ok (.invokevirtual 147, 3) := by decide +kernel
theorem dL_law_941 : decode cL_law 941 = .ok (.istore 6, 2) := by decide +kernel
theorem dL_law_943 : decode cL_law 943 = .ok (.aload_n 2, 1) := by decide +kernel
theorem dL_law_944 : decode cL_law 944 = .ok (.invokevirtual 98, 3) := by decide +kernel
theorem dL_law_947 : decode cL_law 947 = .ok (.iload 5, 2) := by decide +kernel
theorem dL_law_949 : decode cL_law 949 = .ok (.if_icmp .eq 5, 3) := by decide +kernel
theorem dL_law_952 : decode cL_law 952 = .ok (.iconst 0, 1) := by decide +kernel
theorem dL_law_953 : decode cL_law 953 = .ok (.ireturn, 1) := by decide +kernel
theorem dL_law_954 : decode cL_law 954 = .ok (.iload 5, 2) := by decide +kernel
theorem dL_law_956 : decode cL_law 956 = .ok (.ifCond .ne 15, 3) := by decide +kernel
theorem dL_law_959 : decode cL_law 959 = .ok (.aload_n 3, 1) := by decide +kernel
theorem dL_law_960 : decode cL_law 960 = .ok (.iconst 0, 1) := by decide +kernel
theorem dL_law_961 : decode cL_law 961 = .ok (.laload, 1) := by decide +kernel
theorem dL_law_962 : decode cL_law 962 = .ok (.iload 6, 2) := by decide +kernel
theorem dL_law_964 : decode cL_law 964 = .ok (.i2l, 1) := by decide +kernel
theorem dL_law_965 : decode cL_law 965 = .ok (.lcmp, 1) := by decide +kernel
theorem dL_law_966 : decode cL_law 966 = .ok (.ifCond .eq 5, 3) := by decide +kernel
theorem dL_law_969 : decode cL_law 969 = .ok (.iconst 0, 1) := by decide +kernel
theorem dL_law_970 : decode cL_law 970 = .ok (.ireturn, 1) := by decide +kernel
theorem dL_law_971 : decode cL_law 971 = .ok (.goto 678, 3) := by decide +kernel
theorem dL_law_974 : decode cL_law 974 = .ok (.aload_n 1, 1) := by decide +kernel
theorem dL_law_975 : decode cL_law 975 = .ok (.aload_n 3, 1) := by decide +kernel
theorem dL_law_976 : decode cL_law 976 = .ok (.invokestatic 148, 3) := by decide +kernel
theorem dL_law_979 : decode cL_law 979 = .ok (.istore 5, 2) := by decide +kernel
theorem dL_law_981 : decode cL_law 981 = .ok (.aload_n 2, 1) := by decide +kernel
theorem dL_law_982 : decode cL_law 982 = .ok (.invokevirtual 150, 3) := by decide +kernel
theorem dL_law_985 : decode cL_law 985 = .ok (.istore 6, 2) := by decide +kernel
theorem dL_law_987 : decode cL_law 987 = .ok (.aload_n 2, 1) := by decide +kernel
theorem dL_law_988 : decode cL_law 988 = .ok (.invokevirtual 98, 3) := by decide +kernel
theorem dL_law_991 : decode cL_law 991 = .ok (.iload 5, 2) := by decide +kernel
theorem dL_law_993 : decode cL_law 993 = .ok (.if_icmp .eq 5, 3) := by decide +kernel
theorem dL_law_996 : decode cL_law 996 = .ok (.iconst 0, 1) := by decide +kernel
theorem dL_law_997 : decode cL_law 997 = .ok (.ireturn, 1) := by decide +kernel
theorem dL_law_998 : decode cL_law 998 = .ok (.iload 5, 2) := by decide +kernel
theorem dL_law_1000 : decode cL_law 1000 = .ok (.ifCond .ne 15, 3) := by decide +kernel
theorem dL_law_1003 : decode cL_law 1003 = .ok (.aload_n 3, 1) := by decide +kernel
theorem dL_law_1004 : decode cL_law 1004 = .ok (.iconst 0, 1) := by decide +kernel
theorem dL_law_1005 : decode cL_law 1005 = .ok (.laload, 1) := by decide +kernel
theorem dL_law_1006 : decode cL_law 1006 = .ok (.iload 6, 2) := by decide +kernel
theorem dL_law_1008 : decode cL_law 1008 = .ok (.i2l, 1) := by decide +kernel
theorem dL_law_1009 : decode cL_law 1009 = .ok (.lcmp, 1) := by decide +kernel
theorem dL_law_1010 : decode cL_law 1010 = .ok (.ifCond .eq 5, 3) := by decide +kernel
theorem dL_law_1013 : decode cL_law 1013 = .ok (.iconst 0, 1) := by decide +kernel
theorem dL_law_1014 : decode cL_law 1014 = .ok (.ireturn, 1) := by decide +kernel
theorem dL_law_1015 : decode cL_law 1015 = .ok (.goto 634, 3) := by decide +kernel
theorem dL_law_1018 : decode cL_law 1018 = .ok (.aload_n 1, 1) := by decide +kernel
theorem dL_law_1019 : decode cL_law 1019 = .ok (.aload_n 0, 1) := by decide +kernel
theorem dL_law_1020 : decode cL_law 1020 = .ok (.iload 4, 2) := by decide +kernel
theorem dL_law_1022 : decode cL_law 1022 = .ok (.iconst 1, 1) := by decide +kernel
theorem dL_law_1023 : decode cL_law 1023 = .ok (.iadd, 1) := by decide +kernel
theorem dL_law_1024 : decode cL_law 1024 = .ok (.iaload, 1) := by decide +kernel
theorem dL_law_1025 : decode cL_law 1025 = .ok (.aload_n 0, 1) := by decide +kernel
theorem dL_law_1026 : decode cL_law 1026 = .ok (.iload 4, 2) := by decide +kernel
theorem dL_law_1028 : decode cL_law 1028 = .ok (.iconst 2, 1) := by decide +kernel
theorem dL_law_1029 : decode cL_law 1029 = .ok (.iadd, 1) := by decide +kernel
theorem dL_law_1030 : decode cL_law 1030 = .ok (.iaload, 1) := by decide +kernel
theorem dL_law_1031 : decode cL_law 1031 = .ok (.aload_n 3, 1) := by decide +kernel
theorem dL_law_1032 : decode cL_law 1032 = .ok (.invokestatic 151, 3) := by decide +kernel
theorem dL_law_1035 : decode cL_law 1035 = .ok (.istore 5, 2) := by decide +kernel
theorem dL_law_1037 : decode cL_law 1037 = .ok (.aload_n 2, 1) := by decide +kernel
theorem dL_law_1038 : decode cL_law 1038 = .ok (.aload_n 0, 1) := by decide +kernel
theorem dL_law_1039 : decode cL_law 1039 = .ok (.iload 4, 2) := by decide +kernel
theorem dL_law_1041 : decode cL_law 1041 = .ok (.iconst 1, 1) := by decide +kernel
theorem dL_law_1042 : decode cL_law 1042 = .ok (.iadd, 1) := by decide +kernel
theorem dL_law_1043 : decode cL_law 1043 = .ok (.iaload, 1) := by decide +kernel
theorem dL_law_1044 : decode cL_law 1044 = .ok (.aload_n 0, 1) := by decide +kernel
theorem dL_law_1045 : decode cL_law 1045 = .ok (.iload 4, 2) := by decide +kernel
theorem dL_law_1047 : decode cL_law 1047 = .ok (.iconst 2, 1) := by decide +kernel
theorem dL_law_1048 : decode cL_law 1048 = .ok (.iadd, 1) := by decide +kernel
theorem dL_law_1049 : decode cL_law 1049 = .ok (.iaload, 1) := by decide +kernel
theorem dL_law_1050 : decode cL_law 1050 = .ok (.invokevirtual 153, 3) := by decide +kernel
theorem dL_law_1053 : decode cL_law 1053 = .ok (.istore 6, 2) := by decide +kernel
theorem dL_law_1055 : decode cL_law 1055 = .ok (.aload_n 2, 1) := by decide +kernel
theorem dL_law_1056 : decode cL_law 1056 = .ok (.invokevirtual 98, 3) := by decide +kernel
theorem dL_law_1059 : decode cL_law 1059 = .ok (.iload 5, 2) := by decide +kernel
theorem dL_law_1061 : decode cL_law 1061 = .ok (.if_icmp .eq 5, 3) := by decide +kernel
theorem dL_law_1064 : decode cL_law 1064 = .ok (.iconst 0, 1) := by decide +kernel
theorem dL_law_1065 : decode cL_law 1065 = .ok (.ireturn, 1) := by decide +kernel
theorem dL_law_1066 : decode cL_law 1066 = .ok (.iload 5, 2) := by decide +kernel
theorem dL_law_1068 : decode cL_law 1068 = .ok (.ifCond .ne 15, 3) := by decide +kernel
theorem dL_law_1071 : decode cL_law 1071 = .ok (.aload_n 3, 1) := by decide +kernel
theorem dL_law_1072 : decode cL_law 1072 = .ok (.iconst 0, 1) := by decide +kernel
theorem dL_law_1073 : decode cL_law 1073 = .ok (.laload, 1) := by decide +kernel
theorem dL_law_1074 : decode cL_law 1074 = .ok (.iload 6, 2) := by decide +kernel
theorem dL_law_1076 : decode cL_law 1076 = .ok (.i2l, 1) := by decide +kernel
theorem dL_law_1077 : decode cL_law 1077 = .ok (.lcmp, 1) := by decide +kernel
theorem dL_law_1078 : decode cL_law 1078 = .ok (.ifCond .eq 5, 3) := by decide +kernel
theorem dL_law_1081 : decode cL_law 1081 = .ok (.iconst 0, 1) := by decide +kernel
theorem dL_law_1082 : decode cL_law 1082 = .ok (.ireturn, 1) := by decide +kernel
theorem dL_law_1083 : decode cL_law 1083 = .ok (.goto 566, 3) := by decide +kernel
theorem dL_law_1086 : decode cL_law 1086 = .ok (.aload_n 1, 1) := by decide +kernel
theorem dL_law_1087 : decode cL_law 1087 = .ok (.aload_n 0, 1) := by decide +kernel
theorem dL_law_1088 : decode cL_law 1088 = .ok (.iload 4, 2) := by decide +kernel
theorem dL_law_1090 : decode cL_law 1090 = .ok (.iconst 1, 1) := by decide +kernel
theorem dL_law_1091 : decode cL_law 1091 = .ok (.iadd, 1) := by decide +kernel
theorem dL_law_1092 : decode cL_law 1092 = .ok (.iaload, 1) := by decide +kernel
theorem dL_law_1093 : decode cL_law 1093 = .ok (.aload_n 0, 1) := by decide +kernel
theorem dL_law_1094 : decode cL_law 1094 = .ok (.iload 4, 2) := by decide +kernel
theorem dL_law_1096 : decode cL_law 1096 = .ok (.iconst 2, 1) := by decide +kernel
theorem dL_law_1097 : decode cL_law 1097 = .ok (.iadd, 1) := by decide +kernel
theorem dL_law_1098 : decode cL_law 1098 = .ok (.iaload, 1) := by decide +kernel
theorem dL_law_1099 : decode cL_law 1099 = .ok (.aload_n 3, 1) := by decide +kernel
theorem dL_law_1100 : decode cL_law 1100 = .ok (.invokestatic 154, 3) := by decide +kernel
theorem dL_law_1103 : decode cL_law 1103 = .ok (.istore 5, 2) := by decide +kernel
theorem dL_law_1105 : decode cL_law 1105 = .ok (.aload_n 2, 1) := by decide +kernel
theorem dL_law_1106 : decode cL_law 1106 = .ok (.aload_n 0, 1) := by decide +kernel
theorem dL_law_1107 : decode cL_law 1107 = .ok (.iload 4, 2) := by decide +kernel
theorem dL_law_1109 : decode cL_law 1109 = .ok (.iconst 1, 1) := by decide +kernel
theorem dL_law_1110 : decode cL_law 1110 = .ok (.iadd, 1) := by decide +kernel
theorem dL_law_1111 : decode cL_law 1111 = .ok (.iaload, 1) := by decide +kernel
theorem dL_law_1112 : decode cL_law 1112 = .ok (.aload_n 0, 1) := by decide +kernel
theorem dL_law_1113 : decode cL_law 1113 = .ok (.iload 4, 2) := by decide +kernel
theorem dL_law_1115 : decode cL_law 1115 = .ok (.iconst 2, 1) := by decide +kernel
theorem dL_law_1116 : decode cL_law 1116 = .ok (.iadd, 1) := by decide +kernel
theorem dL_law_1117 : decode cL_law 1117 = .ok (.iaload, 1) := by decide +kernel
theorem dL_law_1118 : decode cL_law 1118 = .ok (.invokevirtual 156, 3) := by decide +kernel
theorem dL_law_1121 : decode cL_law 1121 = .ok (.istore 6, 2) := by decide +kernel
theorem dL_law_1123 : decode cL_law 1123 = .ok (.aload_n 2, 1) := by decide +kernel
theorem dL_law_1124 : decode cL_law 1124 = .ok (.invokevirtual 98, 3) := by decide +kernel
theorem dL_law_1127 : decode cL_law 1127 = .ok (.iload 5, 2) := by decide +kernel
theorem dL_law_1129 : decode cL_law 1129 = .ok (.if_icmp .eq 5, 3) := by decide +kernel
theorem dL_law_1132 : decode cL_law 1132 = .ok (.iconst 0, 1) := by decide +kernel
theorem dL_law_1133 : decode cL_law 1133 = .ok (.ireturn, 1) := by decide +kernel
theorem dL_law_1134 : decode cL_law 1134 = .ok (.iload 5, 2) := by decide +kernel
theorem dL_law_1136 : decode cL_law 1136 = .ok (.ifCond .ne 15, 3) := by decide +kernel
theorem dL_law_1139 : decode cL_law 1139 = .ok (.aload_n 3, 1) := by decide +kernel
theorem dL_law_1140 : decode cL_law 1140 = .ok (.iconst 0, 1) := by decide +kernel
theorem dL_law_1141 : decode cL_law 1141 = .ok (.laload, 1) := by decide +kernel
theorem dL_law_1142 : decode cL_law 1142 = .ok (.iload 6, 2) := by decide +kernel
theorem dL_law_1144 : decode cL_law 1144 = .ok (.i2l, 1) := by decide +kernel
theorem dL_law_1145 : decode cL_law 1145 = .ok (.lcmp, 1) := by decide +kernel
theorem dL_law_1146 : decode cL_law 1146 = .ok (.ifCond .eq 5, 3) := by decide +kernel
theorem dL_law_1149 : decode cL_law 1149 = .ok (.iconst 0, 1) := by decide +kernel
theorem dL_law_1150 : decode cL_law 1150 = .ok (.ireturn, 1) := by decide +kernel
theorem dL_law_1151 : decode cL_law 1151 = .ok (.goto 498, 3) := by decide +kernel
theorem dL_law_1154 : decode cL_law 1154 = .ok (.aload_n 1, 1) := by decide +kernel
theorem dL_law_1155 : decode cL_law 1155 = .ok (.aload_n 0, 1) := by decide +kernel
theorem dL_law_1156 : decode cL_law 1156 = .ok (.iload 4, 2) := by decide +kernel
theorem dL_law_1158 : decode cL_law 1158 = .ok (.iconst 1, 1) := by decide +kernel
theorem dL_law_1159 : decode cL_law 1159 = .ok (.iadd, 1) := by decide +kernel
theorem dL_law_1160 : decode cL_law 1160 = .ok (.iaload, 1) := by decide +kernel
theorem dL_law_1161 : decode cL_law 1161 = .ok (.aload_n 0, 1) := by decide +kernel
theorem dL_law_1162 : decode cL_law 1162 = .ok (.iload 4, 2) := by decide +kernel
theorem dL_law_1164 : decode cL_law 1164 = .ok (.iconst 2, 1) := by decide +kernel
theorem dL_law_1165 : decode cL_law 1165 = .ok (.iadd, 1) := by decide +kernel
theorem dL_law_1166 : decode cL_law 1166 = .ok (.iaload, 1) := by decide +kernel
theorem dL_law_1167 : decode cL_law 1167 = .ok (.aload_n 3, 1) := by decide +kernel
theorem dL_law_1168 : decode cL_law 1168 = .ok (.invokestatic 157, 3) := by decide +kernel
theorem dL_law_1171 : decode cL_law 1171 = .ok (.istore 5, 2) := by decide +kernel
theorem dL_law_1173 : decode cL_law 1173 = .ok (.aload_n 2, 1) := by decide +kernel
theorem dL_law_1174 : decode cL_law 1174 = .ok (.aload_n 0, 1) := by decide +kernel
theorem dL_law_1175 : decode cL_law 1175 = .ok (.iload 4, 2) := by decide +kernel
theorem dL_law_1177 : decode cL_law 1177 = .ok (.iconst 1, 1) := by decide +kernel
theorem dL_law_1178 : decode cL_law 1178 = .ok (.iadd, 1) := by decide +kernel
theorem dL_law_1179 : decode cL_law 1179 = .ok (.iaload, 1) := by decide +kernel
theorem dL_law_1180 : decode cL_law 1180 = .ok (.aload_n 0, 1) := by decide +kernel
theorem dL_law_1181 : decode cL_law 1181 = .ok (.iload 4, 2) := by decide +kernel
theorem dL_law_1183 : decode cL_law 1183 = .ok (.iconst 2, 1) := by decide +kernel
theorem dL_law_1184 : decode cL_law 1184 = .ok (.iadd, 1) := by decide +kernel
theorem dL_law_1185 : decode cL_law 1185 = .ok (.iaload, 1) := by decide +kernel
theorem dL_law_1186 : decode cL_law 1186 = .ok (.invokevirtual 159, 3) := by decide +kernel
theorem dL_law_1189 : decode cL_law 1189 = .ok (.istore 6, 2) := by decide +kernel
theorem dL_law_1191 : decode cL_law 1191 = .ok (.aload_n 2, 1) := by decide +kernel
theorem dL_law_1192 : decode cL_law 1192 = .ok (.invokevirtual 98, 3) := by decide +kernel
theorem dL_law_1195 : decode cL_law 1195 = .ok (.iload 5, 2) := by decide +kernel
theorem dL_law_1197 : decode cL_law 1197 = .ok (.if_icmp .eq 5, 3) := by decide +kernel
theorem dL_law_1200 : decode cL_law 1200 = .ok (.iconst 0, 1) := by decide +kernel
theorem dL_law_1201 : decode cL_law 1201 = .ok (.ireturn, 1) := by decide +kernel
theorem dL_law_1202 : decode cL_law 1202 = .ok (.iload 5, 2) := by decide +kernel
theorem dL_law_1204 : decode cL_law 1204 = .ok (.ifCond .ne 15, 3) := by decide +kernel
theorem dL_law_1207 : decode cL_law 1207 = .ok (.aload_n 3, 1) := by decide +kernel
theorem dL_law_1208 : decode cL_law 1208 = .ok (.iconst 0, 1) := by decide +kernel
theorem dL_law_1209 : decode cL_law 1209 = .ok (.laload, 1) := by decide +kernel
theorem dL_law_1210 : decode cL_law 1210 = .ok (.iload 6, 2) := by decide +kernel
theorem dL_law_1212 : decode cL_law 1212 = .ok (.i2l, 1) := by decide +kernel
theorem dL_law_1213 : decode cL_law 1213 = .ok (.lcmp, 1) := by decide +kernel
theorem dL_law_1214 : decode cL_law 1214 = .ok (.ifCond .eq 5, 3) := by decide +kernel
theorem dL_law_1217 : decode cL_law 1217 = .ok (.iconst 0, 1) := by decide +kernel
theorem dL_law_1218 : decode cL_law 1218 = .ok (.ireturn, 1) := by decide +kernel
theorem dL_law_1219 : decode cL_law 1219 = .ok (.goto 430, 3) := by decide +kernel
theorem dL_law_1222 : decode cL_law 1222 = .ok (.aload_n 1, 1) := by decide +kernel
theorem dL_law_1223 : decode cL_law 1223 = .ok (.aload_n 0, 1) := by decide +kernel
theorem dL_law_1224 : decode cL_law 1224 = .ok (.iload 4, 2) := by decide +kernel
theorem dL_law_1226 : decode cL_law 1226 = .ok (.iconst 1, 1) := by decide +kernel
theorem dL_law_1227 : decode cL_law 1227 = .ok (.iadd, 1) := by decide +kernel
theorem dL_law_1228 : decode cL_law 1228 = .ok (.iaload, 1) := by decide +kernel
theorem dL_law_1229 : decode cL_law 1229 = .ok (.aload_n 3, 1) := by decide +kernel
theorem dL_law_1230 : decode cL_law 1230 = .ok (.invokestatic 160, 3) := by decide +kernel
theorem dL_law_1233 : decode cL_law 1233 = .ok (.istore 5, 2) := by decide +kernel
theorem dL_law_1235 : decode cL_law 1235 = .ok (.aload_n 2, 1) := by decide +kernel
theorem dL_law_1236 : decode cL_law 1236 = .ok (.aload_n 0, 1) := by decide +kernel
theorem dL_law_1237 : decode cL_law 1237 = .ok (.iload 4, 2) := by decide +kernel
theorem dL_law_1239 : decode cL_law 1239 = .ok (.iconst 1, 1) := by decide +kernel
theorem dL_law_1240 : decode cL_law 1240 = .ok (.iadd, 1) := by decide +kernel
theorem dL_law_1241 : decode cL_law 1241 = .ok (.iaload, 1) := by decide +kernel
theorem dL_law_1242 : decode cL_law 1242 = .ok (.invokevirtual 162, 3) := by decide +kernel
theorem dL_law_1245 : decode cL_law 1245 = .ok (.istore 6, 2) := by decide +kernel
theorem dL_law_1247 : decode cL_law 1247 = .ok (.aload_n 2, 1) := by decide +kernel
theorem dL_law_1248 : decode cL_law 1248 = .ok (.invokevirtual 98, 3) := by decide +kernel
theorem dL_law_1251 : decode cL_law 1251 = .ok (.iload 5, 2) := by decide +kernel
theorem dL_law_1253 : decode cL_law 1253 = .ok (.if_icmp .eq 5, 3) := by decide +kernel
theorem dL_law_1256 : decode cL_law 1256 = .ok (.iconst 0, 1) := by decide +kernel
theorem dL_law_1257 : decode cL_law 1257 = .ok (.ireturn, 1) := by decide +kernel
theorem dL_law_1258 : decode cL_law 1258 = .ok (.iload 5, 2) := by decide +kernel
theorem dL_law_1260 : decode cL_law 1260 = .ok (.ifCond .ne 15, 3) := by decide +kernel
theorem dL_law_1263 : decode cL_law 1263 = .ok (.aload_n 3, 1) := by decide +kernel
theorem dL_law_1264 : decode cL_law 1264 = .ok (.iconst 0, 1) := by decide +kernel
theorem dL_law_1265 : decode cL_law 1265 = .ok (.laload, 1) := by decide +kernel
theorem dL_law_1266 : decode cL_law 1266 = .ok (.iload 6, 2) := by decide +kernel
theorem dL_law_1268 : decode cL_law 1268 = .ok (.i2l, 1) := by decide +kernel
theorem dL_law_1269 : decode cL_law 1269 = .ok (.lcmp, 1) := by decide +kernel
theorem dL_law_1270 : decode cL_law 1270 = .ok (.ifCond .eq 5, 3) := by decide +kernel
theorem dL_law_1273 : decode cL_law 1273 = .ok (.iconst 0, 1) := by decide +kernel
theorem dL_law_1274 : decode cL_law 1274 = .ok (.ireturn, 1) := by decide +kernel
theorem dL_law_1275 : decode cL_law 1275 = .ok (.goto 374, 3) := by decide +kernel
theorem dL_law_1278 : decode cL_law 1278 = .ok (.aload_n 1, 1) := by decide +kernel
theorem dL_law_1279 : decode cL_law 1279 = .ok (.aload_n 0, 1) := by decide +kernel
theorem dL_law_1280 : decode cL_law 1280 = .ok (.iload 4, 2) := by decide +kernel
theorem dL_law_1282 : decode cL_law 1282 = .ok (.iconst 1, 1) := by decide +kernel
theorem dL_law_1283 : decode cL_law 1283 = .ok (.iadd, 1) := by decide +kernel
theorem dL_law_1284 : decode cL_law 1284 = .ok (.iaload, 1) := by decide +kernel
theorem dL_law_1285 : decode cL_law 1285 = .ok (.aload_n 3, 1) := by decide +kernel
theorem dL_law_1286 : decode cL_law 1286 = .ok (.invokestatic 163, 3) := by decide +kernel
theorem dL_law_1289 : decode cL_law 1289 = .ok (.istore 5, 2) := by decide +kernel
theorem dL_law_1291 : decode cL_law 1291 = .ok (.aload_n 2, 1) := by decide +kernel
theorem dL_law_1292 : decode cL_law 1292 = .ok (.aload_n 0, 1) := by decide +kernel
theorem dL_law_1293 : decode cL_law 1293 = .ok (.iload 4, 2) := by decide +kernel
theorem dL_law_1295 : decode cL_law 1295 = .ok (.iconst 1, 1) := by decide +kernel
theorem dL_law_1296 : decode cL_law 1296 = .ok (.iadd, 1) := by decide +kernel
theorem dL_law_1297 : decode cL_law 1297 = .ok (.iaload, 1) := by decide +kernel
theorem dL_law_1298 : decode cL_law 1298 = .ok (.invokevirtual 165, 3) := by decide +kernel
theorem dL_law_1301 : decode cL_law 1301 = .ok (.istore 6, 2) := by decide +kernel
theorem dL_law_1303 : decode cL_law 1303 = .ok (.aload_n 2, 1) := by decide +kernel
theorem dL_law_1304 : decode cL_law 1304 = .ok (.invokevirtual 98, 3) := by decide +kernel
theorem dL_law_1307 : decode cL_law 1307 = .ok (.iload 5, 2) := by decide +kernel
theorem dL_law_1309 : decode cL_law 1309 = .ok (.if_icmp .eq 5, 3) := by decide +kernel
theorem dL_law_1312 : decode cL_law 1312 = .ok (.iconst 0, 1) := by decide +kernel
theorem dL_law_1313 : decode cL_law 1313 = .ok (.ireturn, 1) := by decide +kernel
theorem dL_law_1314 : decode cL_law 1314 = .ok (.iload 5, 2) := by decide +kernel
theorem dL_law_1316 : decode cL_law 1316 = .ok (.ifCond .ne 15, 3) := by decide +kernel
theorem dL_law_1319 : decode cL_law 1319 = .ok (.aload_n 3, 1) := by decide +kernel
theorem dL_law_1320 : decode cL_law 1320 = .ok (.iconst 0, 1) := by decide +kernel
theorem dL_law_1321 : decode cL_law 1321 = .ok (.laload, 1) := by decide +kernel
theorem dL_law_1322 : decode cL_law 1322 = .ok (.iload 6, 2) := by decide +kernel
theorem dL_law_1324 : decode cL_law 1324 = .ok (.i2l, 1) := by decide +kernel
theorem dL_law_1325 : decode cL_law 1325 = .ok (.lcmp, 1) := by decide +kernel
theorem dL_law_1326 : decode cL_law 1326 = .ok (.ifCond .eq 5, 3) := by decide +kernel
theorem dL_law_1329 : decode cL_law 1329 = .ok (.iconst 0, 1) := by decide +kernel
theorem dL_law_1330 : decode cL_law 1330 = .ok (.ireturn, 1) := by decide +kernel
theorem dL_law_1331 : decode cL_law 1331 = .ok (.goto 318, 3) := by decide +kernel
theorem dL_law_1334 : decode cL_law 1334 = .ok (.aload_n 1, 1) := by decide +kernel
theorem dL_law_1335 : decode cL_law 1335 = .ok (.aload_n 0, 1) := by decide +kernel
theorem dL_law_1336 : decode cL_law 1336 = .ok (.iload 4, 2) := by decide +kernel
theorem dL_law_1338 : decode cL_law 1338 = .ok (.iconst 1, 1) := by decide +kernel
theorem dL_law_1339 : decode cL_law 1339 = .ok (.iadd, 1) := by decide +kernel
theorem dL_law_1340 : decode cL_law 1340 = .ok (.iaload, 1) := by decide +kernel
theorem dL_law_1341 : decode cL_law 1341 = .ok (.aload_n 0, 1) := by decide +kernel
theorem dL_law_1342 : decode cL_law 1342 = .ok (.iload 4, 2) := by decide +kernel
theorem dL_law_1344 : decode cL_law 1344 = .ok (.iconst 2, 1) := by decide +kernel
theorem dL_law_1345 : decode cL_law 1345 = .ok (.iadd, 1) := by decide +kernel
theorem dL_law_1346 : decode cL_law 1346 = .ok (.iaload, 1) := by decide +kernel
theorem dL_law_1347 : decode cL_law 1347 = .ok (.aload_n 0, 1) := by decide +kernel
theorem dL_law_1348 : decode cL_law 1348 = .ok (.iload 4, 2) := by decide +kernel
theorem dL_law_1350 : decode cL_law 1350 = .ok (.iconst 3, 1) := by decide +kernel
theorem dL_law_1351 : decode cL_law 1351 = .ok (.iadd, 1) := by decide +kernel
theorem dL_law_1352 : decode cL_law 1352 = .ok (.iaload, 1) := by decide +kernel
theorem dL_law_1353 : decode cL_law 1353 = .ok (.aload_n 0, 1) := by decide +kernel
theorem dL_law_1354 : decode cL_law 1354 = .ok (.iload 4, 2) := by decide +kernel
theorem dL_law_1356 : decode cL_law 1356 = .ok (.iconst 4, 1) := by decide +kernel
theorem dL_law_1357 : decode cL_law 1357 = .ok (.iadd, 1) := by decide +kernel
theorem dL_law_1358 : decode cL_law 1358 = .ok (.iaload, 1) := by decide +kernel
theorem dL_law_1359 : decode cL_law 1359 = .ok (.aload_n 3, 1) := by decide +kernel
theorem dL_law_1360 : decode cL_law 1360 = .ok (.invokestatic 166, 3) := by decide +kernel
theorem dL_law_1363 : decode cL_law 1363 = .ok (.istore 5, 2) := by decide +kernel
theorem dL_law_1365 : decode cL_law 1365 = .ok (.aload_n 2, 1) := by decide +kernel
theorem dL_law_1366 : decode cL_law 1366 = .ok (.aload_n 0, 1) := by decide +kernel
theorem dL_law_1367 : decode cL_law 1367 = .ok (.iload 4, 2) := by decide +kernel
theorem dL_law_1369 : decode cL_law 1369 = .ok (.iconst 1, 1) := by decide +kernel
theorem dL_law_1370 : decode cL_law 1370 = .ok (.iadd, 1) := by decide +kernel
theorem dL_law_1371 : decode cL_law 1371 = .ok (.iaload, 1) := by decide +kernel
theorem dL_law_1372 : decode cL_law 1372 = .ok (.aload_n 0, 1) := by decide +kernel
theorem dL_law_1373 : decode cL_law 1373 = .ok (.iload 4, 2) := by decide +kernel
theorem dL_law_1375 : decode cL_law 1375 = .ok (.iconst 2, 1) := by decide +kernel
theorem dL_law_1376 : decode cL_law 1376 = .ok (.iadd, 1) := by decide +kernel
theorem dL_law_1377 : decode cL_law 1377 = .ok (.iaload, 1) := by decide +kernel
theorem dL_law_1378 : decode cL_law 1378 = .ok (.aload_n 0, 1) := by decide +kernel
theorem dL_law_1379 : decode cL_law 1379 = .ok (.iload 4, 2) := by decide +kernel
theorem dL_law_1381 : decode cL_law 1381 = .ok (.iconst 3, 1) := by decide +kernel
theorem dL_law_1382 : decode cL_law 1382 = .ok (.iadd, 1) := by decide +kernel
theorem dL_law_1383 : decode cL_law 1383 = .ok (.iaload, 1) := by decide +kernel
theorem dL_law_1384 : decode cL_law 1384 = .ok (.aload_n 0, 1) := by decide +kernel
theorem dL_law_1385 : decode cL_law 1385 = .ok (.iload 4, 2) := by decide +kernel
theorem dL_law_1387 : decode cL_law 1387 = .ok (.iconst 4, 1) := by decide +kernel
theorem dL_law_1388 : decode cL_law 1388 = .ok (.iadd, 1) := by decide +kernel
theorem dL_law_1389 : decode cL_law 1389 = .ok (.iaload, 1) := by decide +kernel
theorem dL_law_1390 : decode cL_law 1390 = .ok (.invokevirtual 168, 3) := by decide +kernel
theorem dL_law_1393 : decode cL_law 1393 = .ok (.istore 6, 2) := by decide +kernel
theorem dL_law_1395 : decode cL_law 1395 = .ok (.aload_n 2, 1) := by decide +kernel
theorem dL_law_1396 : decode cL_law 1396 = .ok (.invokevirtual 98, 3) := by decide +kernel
theorem dL_law_1399 : decode cL_law 1399 = .ok (.iload 5, 2) := by decide +kernel
theorem dL_law_1401 : decode cL_law 1401 = .ok (.if_icmp .eq 5, 3) := by decide +kernel
theorem dL_law_1404 : decode cL_law 1404 = .ok (.iconst 0, 1) := by decide +kernel
theorem dL_law_1405 : decode cL_law 1405 = .ok (.ireturn, 1) := by decide +kernel
theorem dL_law_1406 : decode cL_law 1406 = .ok (.iload 5, 2) := by decide +kernel
theorem dL_law_1408 : decode cL_law 1408 = .ok (.ifCond .ne 15, 3) := by decide +kernel
theorem dL_law_1411 : decode cL_law 1411 = .ok (.aload_n 3, 1) := by decide +kernel
theorem dL_law_1412 : decode cL_law 1412 = .ok (.iconst 0, 1) := by decide +kernel
theorem dL_law_1413 : decode cL_law 1413 = .ok (.laload, 1) := by decide +kernel
theorem dL_law_1414 : decode cL_law 1414 = .ok (.iload 6, 2) := by decide +kernel
theorem dL_law_1416 : decode cL_law 1416 = .ok (.i2l, 1) := by decide +kernel
theorem dL_law_1417 : decode cL_law 1417 = .ok (.lcmp, 1) := by decide +kernel
theorem dL_law_1418 : decode cL_law 1418 = .ok (.ifCond .eq 5, 3) := by decide +kernel
theorem dL_law_1421 : decode cL_law 1421 = .ok (.iconst 0, 1) := by decide +kernel
theorem dL_law_1422 : decode cL_law 1422 = .ok (.ireturn, 1) := by decide +kernel
theorem dL_law_1423 : decode cL_law 1423 = .ok (.goto 226, 3) := by decide +kernel
theorem dL_law_1426 : decode cL_law 1426 = .ok (.aload_n 1, 1) := by decide +kernel
theorem dL_law_1427 : decode cL_law 1427 = .ok (.aload_n 0, 1) := by decide +kernel
theorem dL_law_1428 : decode cL_law 1428 = .ok (.iload 4, 2) := by decide +kernel
theorem dL_law_1430 : decode cL_law 1430 = .ok (.iconst 1, 1) := by decide +kernel
theorem dL_law_1431 : decode cL_law 1431 = .ok (.iadd, 1) := by decide +kernel
theorem dL_law_1432 : decode cL_law 1432 = .ok (.iaload, 1) := by decide +kernel
theorem dL_law_1433 : decode cL_law 1433 = .ok (.aload_n 3, 1) := by decide +kernel
theorem dL_law_1434 : decode cL_law 1434 = .ok (.invokestatic 169, 3) := by decide +kernel
theorem dL_law_1437 : decode cL_law 1437 = .ok (.istore 5, 2) := by decide +kernel
theorem dL_law_1439 : decode cL_law 1439 = .ok (.aload_n 2, 1) := by decide +kernel
theorem dL_law_1440 : decode cL_law 1440 = .ok (.aload_n 0, 1) := by decide +kernel
theorem dL_law_1441 : decode cL_law 1441 = .ok (.iload 4, 2) := by decide +kernel
theorem dL_law_1443 : decode cL_law 1443 = .ok (.iconst 1, 1) := by decide +kernel
theorem dL_law_1444 : decode cL_law 1444 = .ok (.iadd, 1) := by decide +kernel
theorem dL_law_1445 : decode cL_law 1445 = .ok (.iaload, 1) := by decide +kernel
theorem dL_law_1446 : decode cL_law 1446 = .ok (.invokevirtual 171, 3) := by decide +kernel
theorem dL_law_1449 : decode cL_law 1449 = .ok (.istore 6, 2) := by decide +kernel
theorem dL_law_1451 : decode cL_law 1451 = .ok (.aload_n 2, 1) := by decide +kernel
theorem dL_law_1452 : decode cL_law 1452 = .ok (.invokevirtual 98, 3) := by decide +kernel
theorem dL_law_1455 : decode cL_law 1455 = .ok (.iload 5, 2) := by decide +kernel
theorem dL_law_1457 : decode cL_law 1457 = .ok (.if_icmp .eq 5, 3) := by decide +kernel
theorem dL_law_1460 : decode cL_law 1460 = .ok (.iconst 0, 1) := by decide +kernel
theorem dL_law_1461 : decode cL_law 1461 = .ok (.ireturn, 1) := by decide +kernel
theorem dL_law_1462 : decode cL_law 1462 = .ok (.iload 5, 2) := by decide +kernel
theorem dL_law_1464 : decode cL_law 1464 = .ok (.ifCond .ne 15, 3) := by decide +kernel
theorem dL_law_1467 : decode cL_law 1467 = .ok (.aload_n 3, 1) := by decide +kernel
theorem dL_law_1468 : decode cL_law 1468 = .ok (.iconst 0, 1) := by decide +kernel
theorem dL_law_1469 : decode cL_law 1469 = .ok (.laload, 1) := by decide +kernel
theorem dL_law_1470 : decode cL_law 1470 = .ok (.iload 6, 2) := by decide +kernel
theorem dL_law_1472 : decode cL_law 1472 = .ok (.i2l, 1) := by decide +kernel
theorem dL_law_1473 : decode cL_law 1473 = .ok (.lcmp, 1) := by decide +kernel
theorem dL_law_1474 : decode cL_law 1474 = .ok (.ifCond .eq 5, 3) := by decide +kernel
theorem dL_law_1477 : decode cL_law 1477 = .ok (.iconst 0, 1) := by decide +kernel
theorem dL_law_1478 : decode cL_law 1478 = .ok (.ireturn, 1) := by decide +kernel
theorem dL_law_1479 : decode cL_law 1479 = .ok (.goto 170, 3) := by decide +kernel
theorem dL_law_1482 : decode cL_law 1482 = .ok (.aload_n 1, 1) := by decide +kernel
theorem dL_law_1483 : decode cL_law 1483 = .ok (.aload_n 0, 1) := by decide +kernel
theorem dL_law_1484 : decode cL_law 1484 = .ok (.iload 4, 2) := by decide +kernel
theorem dL_law_1486 : decode cL_law 1486 = .ok (.iconst 1, 1) := by decide +kernel
theorem dL_law_1487 : decode cL_law 1487 = .ok (.iadd, 1) := by decide +kernel
theorem dL_law_1488 : decode cL_law 1488 = .ok (.iaload, 1) := by decide +kernel
theorem dL_law_1489 : decode cL_law 1489 = .ok (.aload_n 3, 1) := by decide +kernel
theorem dL_law_1490 : decode cL_law 1490 = .ok (.invokestatic 172, 3) := by decide +kernel
theorem dL_law_1493 : decode cL_law 1493 = .ok (.istore 5, 2) := by decide +kernel
theorem dL_law_1495 : decode cL_law 1495 = .ok (.aload_n 2, 1) := by decide +kernel
theorem dL_law_1496 : decode cL_law 1496 = .ok (.aload_n 0, 1) := by decide +kernel
theorem dL_law_1497 : decode cL_law 1497 = .ok (.iload 4, 2) := by decide +kernel
theorem dL_law_1499 : decode cL_law 1499 = .ok (.iconst 1, 1) := by decide +kernel
theorem dL_law_1500 : decode cL_law 1500 = .ok (.iadd, 1) := by decide +kernel
theorem dL_law_1501 : decode cL_law 1501 = .ok (.iaload, 1) := by decide +kernel
theorem dL_law_1502 : decode cL_law 1502 = .ok (.invokevirtual 174, 3) := by decide +kernel
theorem dL_law_1505 : decode cL_law 1505 = .ok (.istore 6, 2) := by decide +kernel
theorem dL_law_1507 : decode cL_law 1507 = .ok (.aload_n 2, 1) := by decide +kernel
theorem dL_law_1508 : decode cL_law 1508 = .ok (.invokevirtual 98, 3) := by decide +kernel
theorem dL_law_1511 : decode cL_law 1511 = .ok (.iload 5, 2) := by decide +kernel
theorem dL_law_1513 : decode cL_law 1513 = .ok (.if_icmp .eq 5, 3) := by decide +kernel
theorem dL_law_1516 : decode cL_law 1516 = .ok (.iconst 0, 1) := by decide +kernel
theorem dL_law_1517 : decode cL_law 1517 = .ok (.ireturn, 1) := by decide +kernel
theorem dL_law_1518 : decode cL_law 1518 = .ok (.iload 5, 2) := by decide +kernel
theorem dL_law_1520 : decode cL_law 1520 = .ok (.ifCond .ne 15, 3) := by decide +kernel
theorem dL_law_1523 : decode cL_law 1523 = .ok (.aload_n 3, 1) := by decide +kernel
theorem dL_law_1524 : decode cL_law 1524 = .ok (.iconst 0, 1) := by decide +kernel
theorem dL_law_1525 : decode cL_law 1525 = .ok (.laload, 1) := by decide +kernel
theorem dL_law_1526 : decode cL_law 1526 = .ok (.iload 6, 2) := by decide +kernel
theorem dL_law_1528 : decode cL_law 1528 = .ok (.i2l, 1) := by decide +kernel
theorem dL_law_1529 : decode cL_law 1529 = .ok (.lcmp, 1) := by decide +kernel
theorem dL_law_1530 : decode cL_law 1530 = .ok (.ifCond .eq 5, 3) := by decide +kernel
theorem dL_law_1533 : decode cL_law 1533 = .ok (.iconst 0, 1) := by decide +kernel
theorem dL_law_1534 : decode cL_law 1534 = .ok (.ireturn, 1) := by decide +kernel
theorem dL_law_1535 : decode cL_law 1535 = .ok (.goto 114, 3) := by decide +kernel
theorem dL_law_1538 : decode cL_law 1538 = .ok (.aload_n 1, 1) := by decide +kernel
theorem dL_law_1539 : decode cL_law 1539 = .ok (.aload_n 0, 1) := by decide +kernel
theorem dL_law_1540 : decode cL_law 1540 = .ok (.iload 4, 2) := by decide +kernel
theorem dL_law_1542 : decode cL_law 1542 = .ok (.iconst 1, 1) := by decide +kernel
theorem dL_law_1543 : decode cL_law 1543 = .ok (.iadd, 1) := by decide +kernel
theorem dL_law_1544 : decode cL_law 1544 = .ok (.iaload, 1) := by decide +kernel
theorem dL_law_1545 : decode cL_law 1545 = .ok (.aload_n 3, 1) := by decide +kernel
theorem dL_law_1546 : decode cL_law 1546 = .ok (.invokestatic 175, 3) := by decide +kernel
theorem dL_law_1549 : decode cL_law 1549 = .ok (.istore 5, 2) := by decide +kernel
theorem dL_law_1551 : decode cL_law 1551 = .ok (.aload_n 2, 1) := by decide +kernel
theorem dL_law_1552 : decode cL_law 1552 = .ok (.aload_n 0, 1) := by decide +kernel
theorem dL_law_1553 : decode cL_law 1553 = .ok (.iload 4, 2) := by decide +kernel
theorem dL_law_1555 : decode cL_law 1555 = .ok (.iconst 1, 1) := by decide +kernel
theorem dL_law_1556 : decode cL_law 1556 = .ok (.iadd, 1) := by decide +kernel
theorem dL_law_1557 : decode cL_law 1557 = .ok (.iaload, 1) := by decide +kernel
theorem dL_law_1558 : decode cL_law 1558 = .ok (.invokevirtual 177, 3) := by decide +kernel
theorem dL_law_1561 : decode cL_law 1561 = .ok (.istore 6, 2) := by decide +kernel
theorem dL_law_1563 : decode cL_law 1563 = .ok (.aload_n 2, 1) := by decide +kernel
theorem dL_law_1564 : decode cL_law 1564 = .ok (.invokevirtual 98, 3) := by decide +kernel
theorem dL_law_1567 : decode cL_law 1567 = .ok (.iload 5, 2) := by decide +kernel
theorem dL_law_1569 : decode cL_law 1569 = .ok (.if_icmp .eq 5, 3) := by decide +kernel
theorem dL_law_1572 : decode cL_law 1572 = .ok (.iconst 0, 1) := by decide +kernel
theorem dL_law_1573 : decode cL_law 1573 = .ok (.ireturn, 1) := by decide +kernel
theorem dL_law_1574 : decode cL_law 1574 = .ok (.iload 5, 2) := by decide +kernel
theorem dL_law_1576 : decode cL_law 1576 = .ok (.ifCond .ne 15, 3) := by decide +kernel
theorem dL_law_1579 : decode cL_law 1579 = .ok (.aload_n 3, 1) := by decide +kernel
theorem dL_law_1580 : decode cL_law 1580 = .ok (.iconst 0, 1) := by decide +kernel
theorem dL_law_1581 : decode cL_law 1581 = .ok (.laload, 1) := by decide +kernel
theorem dL_law_1582 : decode cL_law 1582 = .ok (.iload 6, 2) := by decide +kernel
theorem dL_law_1584 : decode cL_law 1584 = .ok (.i2l, 1) := by decide +kernel
theorem dL_law_1585 : decode cL_law 1585 = .ok (.lcmp, 1) := by decide +kernel
theorem dL_law_1586 : decode cL_law 1586 = .ok (.ifCond .eq 5, 3) := by decide +kernel
theorem dL_law_1589 : decode cL_law 1589 = .ok (.iconst 0, 1) := by decide +kernel
theorem dL_law_1590 : decode cL_law 1590 = .ok (.ireturn, 1) := by decide +kernel
theorem dL_law_1591 : decode cL_law 1591 = .ok (.goto 58, 3) := by decide +kernel
theorem dL_law_1594 : decode cL_law 1594 = .ok (.aload_n 1, 1) := by decide +kernel
theorem dL_law_1595 : decode cL_law 1595 = .ok (.invokevirtual 178, 3) := by decide +kernel
theorem dL_law_1598 : decode cL_law 1598 = .ok (.dstore 5, 2) := by decide +kernel
theorem dL_law_1600 : decode cL_law 1600 = .ok (.aload_n 2, 1) := by decide +kernel
theorem dL_law_1601 : decode cL_law 1601 = .ok (.invokevirtual 182, 3) := by decide +kernel
theorem dL_law_1604 : decode cL_law 1604 = .ok (.dstore 7, 2) := by decide +kernel
theorem dL_law_1606 : decode cL_law 1606 = .ok (.dload 5, 2) := by decide +kernel
theorem dL_law_1608 : decode cL_law 1608 = .ok (.dload 7, 2) := by decide +kernel
theorem dL_law_1610 : decode cL_law 1610 = .ok (.dcmp .l, 1) := by decide +kernel
theorem dL_law_1611 : decode cL_law 1611 = .ok (.ifCond .eq 21, 3) := by decide +kernel
theorem dL_law_1614 : decode cL_law 1614 = .ok (.dload 5, 2) := by decide +kernel
theorem dL_law_1616 : decode cL_law 1616 = .ok (.dload 5, 2) := by decide +kernel
theorem dL_law_1618 : decode cL_law 1618 = .ok (.dcmp .l, 1) := by decide +kernel
theorem dL_law_1619 : decode cL_law 1619 = .ok (.ifCond .eq 11, 3) := by decide +kernel
theorem dL_law_1622 : decode cL_law 1622 = .ok (.dload 7, 2) := by decide +kernel
theorem dL_law_1624 : decode cL_law 1624 = .ok (.dload 7, 2) := by decide +kernel
theorem dL_law_1626 : decode cL_law 1626 = .ok (.dcmp .l, 1) := by decide +kernel
theorem dL_law_1627 : decode cL_law 1627 = .ok (.ifCond .ne 5, 3) := by decide +kernel
theorem dL_law_1630 : decode cL_law 1630 = .ok (.iconst 0, 1) := by decide +kernel
theorem dL_law_1631 : decode cL_law 1631 = .ok (.ireturn, 1) := by decide +kernel
theorem dL_law_1632 : decode cL_law 1632 = .ok (.goto 17, 3) := by decide +kernel
theorem dL_law_1635 : decode cL_law 1635 = .ok (.aload_n 1, 1) := by decide +kernel
theorem dL_law_1636 : decode cL_law 1636 = .ok (.invokevirtual 183, 3) := by decide +kernel
theorem dL_law_1639 : decode cL_law 1639 = .ok (.aload_n 2, 1) := by decide +kernel
theorem dL_law_1640 : decode cL_law 1640 = .ok (.invokevirtual 187, 3) := by decide +kernel
theorem dL_law_1643 : decode cL_law 1643 = .ok (.lcmp, 1) := by decide +kernel
theorem dL_law_1644 : decode cL_law 1644 = .ok (.ifCond .eq 5, 3) := by decide +kernel
theorem dL_law_1647 : decode cL_law 1647 = .ok (.iconst 0, 1) := by decide +kernel
theorem dL_law_1648 : decode cL_law 1648 = .ok (.ireturn, 1) := by decide +kernel
theorem dL_law_1649 : decode cL_law 1649 = .ok (.iinc 4 5, 3) := by decide +kernel
theorem dL_law_1652 : decode cL_law 1652 = .ok (.goto (-1629), 3) := by decide +kernel
theorem dL_law_1655 : decode cL_law 1655 = .ok (.iconst 1, 1) := by decide +kernel
theorem dL_law_1656 : decode cL_law 1656 = .ok (.ireturn, 1) := by decide +kernel
end
section
/-! BASE: words, worlds by names, contracts of methods that make nothing and answer by a function, their rows -/
def wB : List Cond := lw_tbl.filter goodWord
theorem wB_of (i : Nat) {w : Cond} (h : lw_tbl[i]? = some w) (g : goodWord w = true) : w ∈ wB := List.mem_filter.mpr ⟨List.mem_of_getElem? h, g⟩
theorem wB_tbl {w : Cond} (h : w ∈ wB) : w ∈ lw_tbl := (List.mem_filter.mp h).1
theorem wB_sub {ws : List Cond} (h : ∀ w ∈ ws, w ∈ lw_tbl) (g : ws.all goodWord = true) : ∀ w ∈ ws, w ∈ wB := fun w hw => List.mem_filter.mpr ⟨h w hw, List.all_eq_true.mp g w hw⟩
theorem wB_self : GoodIn wB wB := fun _ hw => ⟨hw, good_of_word (List.mem_filter.mp hw).2⟩
theorem wB_V {own : String} {idx : Nat} {C : String} {y : MethodName} {cc : ByteArray} {n : Nat} {ret : Option FieldType} (h1 : Cond.methodLink own idx y ∈ wB) (h2 : Cond.instanceMethod y ∈ wB) (h3 : Cond.selects C y y ∈ wB) (h4 : Cond.initialized C ∈ wB) (h5 : Cond.code y cc n ret ∈ wB) : GoodIn wB (wsV own idx C y (Cond.code y cc n ret :: wB)) := by
  intro w hw
  simp only [wsV, List.cons_append, List.nil_append, List.mem_cons] at hw
  rcases hw with rfl | rfl | rfl | rfl | rfl | hw
  · exact wB_self _ h1
  · exact wB_self _ h2
  · exact wB_self _ h3
  · exact wB_self _ h4
  · exact wB_self _ h5
  · exact wB_self _ hw
theorem wB_S {own : String} {idx : Nat} {y : MethodName} {cc : ByteArray} {n : Nat} {ret : Option FieldType} (h1 : Cond.methodLink own idx y ∈ wB) (h2 : Cond.static y ∈ wB) (h4 : Cond.initialized y.cls ∈ wB) (h5 : Cond.code y cc n ret ∈ wB) : GoodIn wB (va_wsS own idx y (Cond.code y cc n ret :: wB)) := by
  intro w hw
  simp only [va_wsS, List.cons_append, List.nil_append, List.mem_cons] at hw
  rcases hw with rfl | rfl | rfl | rfl | hw
  · exact wB_self _ h1
  · exact wB_self _ h2
  · exact wB_self _ h4
  · exact wB_self _ h5
  · exact wB_self _ hw
/-- a call's words and its method's name -/
def cwf (own : String) (idx : Nat) (C : String) (y : MethodName) (cc : ByteArray) (maxL : Nat) (ret : Option FieldType) (n : Nat) : Prop := GoodIn wB (wsV own idx C y (Cond.code y cc maxL ret :: wB)) ∧ (y.cls = C ∧ y.cls ≠ "java/lang/invoke/MethodHandle" ∧ y.cls ≠ "java/lang/invoke/VarHandle" ∧ (parseMethodDescriptor y.desc).map (fun d => d.parameters.length) = some n)
def cwg (own : String) (idx : Nat) (y : MethodName) (cc : ByteArray) (maxL : Nat) (ret : Option FieldType) (n : Nat) : Prop := GoodIn wB (va_wsS own idx y (Cond.code y cc maxL ret :: wB)) ∧ (y.cls ≠ "java/lang/invoke/MethodHandle" ∧ y.cls ≠ "java/lang/invoke/VarHandle" ∧ (parseMethodDescriptor y.desc).map (fun d => d.parameters.length) = some n)
/-- array classes by number: int, boolean, char, and of stalls, breakers, markets -/
abbrev fTys (ct : Nat → ClassId) : List (ClassId × FieldType) := [(ct 0, .int), (ct 1, .boolean), (ct 2, .char), (ct 3, .object RX4), (ct 4, .object RX0), (ct 5, .object RX2)]
def vl (N : Nat) (ad : Nat → Nat) (ce : Nat → va_E) : va_W := (List.range N).map (fun k => (ad k, ce k))
theorem vl_len {N : Nat} {ad : Nat → Nat} {ce : Nat → va_E} : (vl N ad ce).length = N := by simp [vl]
theorem vl_get {N : Nat} {ad : Nat → Nat} {ce : Nat → va_E} {k : Nat} (h : k < N) : (vl N ad ce)[k]? = some (ad k, ce k) := by
  simp [vl, h]
theorem vl_at {N : Nat} {ad : Nat → Nat} {ce : Nat → va_E} {k : Nat} {q : Nat × va_E} (h : (vl N ad ce)[k]? = some q) : k < N ∧ q = (ad k, ce k) := by
  have h1 : k < N := by
    have := (List.getElem?_eq_some_iff.mp h).1
    rw [vl_len] at this
    exact this
  rw [vl_get h1] at h
  exact ⟨h1, (Option.some.inj h).symm⟩
theorem vl_ext {N : Nat} {ad : Nat → Nat} {ce ce' : Nat → va_E} (h : ∀ k, k < N → ce k = ce' k) : vl N ad ce = vl N ad ce' := by
  apply List.map_congr_left
  intro k hk
  rw [h k (List.mem_range.mp hk)]
theorem vl_set {N : Nat} {ad : Nat → Nat} {ce : Nat → va_E} {k : Nat} (e : va_E) : (vl N ad ce).set k (ad k, e) = vl N ad (va_up ce k e) := by
  apply List.ext_getElem?
  intro i
  by_cases hi : i < N
  · rw [List.getElem?_set, vl_get hi, vl_len]
    by_cases hk : k = i
    · subst hk
      simp [hi, vl_get, va_up]
    · rw [if_neg hk, vl_get hi, va_up_ne _ _ (Ne.symm hk)]
  · rw [List.getElem?_eq_none (by rw [List.length_set, vl_len]; omega), List.getElem?_eq_none (by rw [vl_len]; omega)]
def fI (N : Nat) (ad : Nat → Nat) : Prop := ∀ i j, i < N → j < N → ad i = ad j → i = j
def fA (N : Nat) (ad : Nat → Nat) : Nat → Prop := fun q => ∃ k, k < N ∧ q = ad k
theorem fA_in {N : Nat} {ad : Nat → Nat} {k : Nat} (h : k < N) : fA N ad (ad k) := ⟨k, h, rfl⟩
def fP (D : va_G) (N : Nat) (ad : Nat → Nat) (ce : Nat → va_E) (H : Heap) : Prop := va_P D vwCl (vl N ad ce) H
theorem fP.ext {D : va_G} {N : Nat} {ad : Nat → Nat} {ce ce' : Nat → va_E} {H : Heap} (h : fP D N ad ce H) (e : ∀ k, k < N → ce k = ce' k) : fP D N ad ce' H := by
  unfold fP at h ⊢
  rw [← vl_ext e]
  exact h
theorem fP.at {D : va_G} {N : Nat} {ad : Nat → Nat} {ce : Nat → va_E} {H : Heap} (h : fP D N ad ce H) {k : Nat} (hk : k < N) : va_at D vwCl (ad k, ce k) H := h k _ (vl_get hk)
theorem fP.of {D : va_G} {N : Nat} {ad : Nat → Nat} {ce : Nat → va_E} {H : Heap} (h : ∀ k, k < N → va_at D vwCl (ad k, ce k) H) : fP D N ad ce H := by
  intro k q hq
  obtain ⟨h1, rfl⟩ := vl_at hq
  exact h k h1
theorem fP.lt {D : va_G} {N : Nat} {ad : Nat → Nat} {ce : Nat → va_E} {H : Heap} (h : fP D N ad ce H) {k : Nat} (hk : k < N) : ad k < H.size := (h.at hk).lt
theorem fD {N : Nat} {ad : Nat → Nat} {ce : Nat → va_E} {A : Nat → Prop} (h : fI N ad) (hA : ∀ k, k < N → A (ad k)) : va_D A (vl N ad ce) := by
  refine ⟨fun i j p q hi hj e => ?_, fun k q hk => ?_⟩
  · obtain ⟨h1, rfl⟩ := vl_at hi
    obtain ⟨h2, rfl⟩ := vl_at hj
    exact h i j h1 h2 e
  · obtain ⟨h1, rfl⟩ := vl_at hk
    exact hA k h1
def fW (D : va_G) (ct : Nat → ClassId) (N : Nat) (ad : Nat → Nat) (ce : Nat → va_E) (U : State) : Prop := fP D N ad ce U.heap ∧ va_K D vwCl (fTys ct) U ∧ fI N ad
def fQ (D : va_G) (ct : Nat → ClassId) (N : Nat) (ad : Nat → Nat) (rv : Option Value) (ce' : Nat → va_E) : Array Value → State → Outcome → State → Prop := fun _ st oc t => (oc = .returned rv ∧ fW D ct N ad ce' t) ∧ va_F (fA N ad) st t
/-- a method that makes nothing, whose answer and world are functions -/
def FMet (l : Launch) (y : MethodName) (cc : ByteArray) (maxL : Nat) (ret : Option FieldType) (fr lo : Nat) (D : va_G) (ct : Nat → ClassId) (N : Nat) (ad : Nat → Nat) (av : List Value) (ce : Nat → va_E) (rv : Option Value) (ce' : Nat → va_E) : Prop :=
  Met l y (Cond.code y cc maxL ret :: wB) ({ frames := fr, cells := 0, slots := 0, locals := lo }) (va_Pc av (fW D ct N ad ce)) (fQ D ct N ad rv ce') 0 0 (fA N ad)
section BASE
variable {p : Program} {l : Launch} {e : Env} {R : Room} {s : State} {m : MethodId} {args : Array Value} {below : List Frame} {meth : Method} {c : Code} {H : Heap} {locs : List Loc} {cells slots : Nat} {Q : State → Prop}
variable {cc : ByteArray} {pc : Nat} {ls : Array Slot} {rest : List Value} {D : va_G} {ct : Nat → ClassId} {N : Nat} {ad : Nat → Nat} {ce ce' : Nat → va_E} {A0 : Nat → Prop} {H0 : Heap}
theorem FMet.of {y : MethodName} {maxL : Nat} {ret : Option FieldType} {fr lo : Nat} {av : List Value} {rv : Option Value} (hy : plainName y.cls = true) (hlen : (lg_sl av).length ≤ maxL)
    (body : ∀ (p : Program) (e : Env) (s : State) (m : MethodId) (args : Array Value) (below : List Frame) (meth : Method) (c : Code) (ls : Array Slot), p.tables.exec = Jvm.exec → c.code = cc → meth.sig.returnType = ret → c.maxLocals = maxL → s.vm.findClass y.cls = some m.cls → meth.locks = false → (∀ w ∈ wB, w.before args s = true) → va_K D vwCl (fTys ct) s → fI N ad → fP D N ad ce s.heap → va_S (fA N ad) s.heap s.heap [] → lv_has ls maxL (lv_args 0 av) →
      W p l e ({ frames := fr, cells := 0, slots := 0, locals := lo }) s m args below meth c s.heap [] 0 0 (MQ below (fQ D ct N ad rv ce') args s 0 0 (fA N ad)) (F0 m 0 ls [])) : FMet l y cc maxL ret fr lo D ct N ad av ce rv ce' := by
  refine Met.ofW (cc := cc) (maxL := maxL) (ret := ret) hy rfl ?_
  intro p e s m args below meth c s₁ B hml hv
  obtain ⟨rfl, hP, hK, hI⟩ := hv
  have hts := atoms_spec (ws := Cond.code y cc maxL ret :: wB) B.pre
  have hl := lv_entry av (n := maxL) hlen
  rw [lg_entry_eq]
  exact body p e s m _ below meth c _ B.exec B.bytes B.returns hml (findClass_of_methodNamed B.named) B.notSynchronized (fun w hw => hts w (List.mem_cons_of_mem _ hw)) hK hI hP va_S.rf hl
theorem fr_iret {rv : Int32} {v : Int32} {ty : FieldType} (hx : p.tables.exec = Jvm.exec) (hb : c.code = cc) (hr : meth.sig.returnType = some ty) (hlocks : meth.locks = false) (hK : va_K D vwCl (fTys ct) s) (hI : fI N ad) (hS : va_S (fA N ad) s.heap H locs) (hn : narrow ty (.int v) = .int v) (hdg : decode cc pc = .ok (.ireturn, 1)) (hv : v = rv) (hP : fP D N ad ce' H) :
    W p l e R s m args below meth c H locs 0 0 (MQ below (fQ D ct N ad (some (.int rv)) ce') args s 0 0 (fA N ad)) (F0 m pc ls [.int v]) := by
  subst hv
  exact W.zret hx hb hr hn (fun t ht hW => ⟨⟨rfl, by rw [ht]; exact hP, va_K.moved hW.alike hK, hI⟩, hS.F ht⟩) hS.2.2 hdg hlocks
theorem fr_vret (hx : p.tables.exec = Jvm.exec) (hb : c.code = cc) (hr : meth.sig.returnType = none) (hlocks : meth.locks = false) (hK : va_K D vwCl (fTys ct) s) (hI : fI N ad) (hS : va_S (fA N ad) s.heap H locs) (hdg : decode cc pc = .ok (.return_, 1)) (hP : fP D N ad ce' H) :
    W p l e R s m args below meth c H locs 0 0 (MQ below (fQ D ct N ad none ce') args s 0 0 (fA N ad)) (F0 m pc ls []) :=
  W.vret hx hb hr (fun t ht hW => ⟨⟨rfl, by rw [ht]; exact hP, va_K.moved hW.alike hK, hI⟩, hS.F ht⟩) hS.2.2 hdg hlocks
theorem fr_lret {rv : Int64} {v : Int64} (hx : p.tables.exec = Jvm.exec) (hb : c.code = cc) (hr : meth.sig.returnType = some .long) (hlocks : meth.locks = false) (hK : va_K D vwCl (fTys ct) s) (hI : fI N ad) (hS : va_S (fA N ad) s.heap H locs) (hdg : decode cc pc = .ok (.lreturn, 1)) (hv : v = rv) (hP : fP D N ad ce' H) :
    W p l e R s m args below meth c H locs 0 0 (MQ below (fQ D ct N ad (some (.long rv)) ce') args s 0 0 (fA N ad)) (F0 m pc ls [.long v]) := by
  subst hv
  exact W.lret hx hb hr (fun t ht hW => ⟨⟨rfl, by rw [ht]; exact hP, va_K.moved hW.alike hK, hI⟩, hS.F ht⟩) hS.2.2 hdg hlocks
theorem fr_dret {rv : UInt64} {v : UInt64} (hx : p.tables.exec = Jvm.exec) (hb : c.code = cc) (hr : meth.sig.returnType = some .double) (hlocks : meth.locks = false) (hK : va_K D vwCl (fTys ct) s) (hI : fI N ad) (hS : va_S (fA N ad) s.heap H locs) (hdg : decode cc pc = .ok (.dreturn, 1)) (hv : v = rv) (hP : fP D N ad ce' H) :
    W p l e R s m args below meth c H locs 0 0 (MQ below (fQ D ct N ad (some (.double rv)) ce') args s 0 0 (fA N ad)) (F0 m pc ls [.double v]) := by
  subst hv
  exact W.dret hx hb hr (fun t ht hW => ⟨⟨rfl, by rw [ht]; exact hP, va_K.moved hW.alike hK, hI⟩, hS.F ht⟩) hS.2.2 hdg hlocks
theorem fW_blind {av : List Value} : FrameBlind (va_Pc av (fW D ct N ad ce)) := fun a U g mk q => by
  obtain ⟨q0, qP, qK, qI⟩ := q
  exact ⟨q0, qP, va_K.moved (u := U) (U := U.calling g mk a) (Vm.Alike.refl U.vm) qK, qI⟩
/-- a call of an object's method whose world is part of the caller's: what lies outside stays -/
theorem fc_V {N1 : Nat} {ad1 : Nat → Nat} {ce1 ce1' : Nat → va_E} {nL : Nat} {own C : String} {y : MethodName} {cy : ByteArray} {maxL : Nat} {ret : Option FieldType} {fr lo : Nat} {As st0 : List Value} {rv : Option Value} {k0 ci idx n : Nat} {fs : List Value} {q0 : vw_C}
    (hx : p.tables.exec = Jvm.exec) (hb : c.code = cc) (hml : c.maxLocals = nL) (hown : s.vm.findClass own = some m.cls) (htg : ∀ w ∈ wB, w.before args s = true) (hK : va_K D vwCl (fTys ct) s) (hS : va_S A0 H0 H locs) (hl : ls.size = nL)
    (hI1 : fI N1 ad1) (hP1 : fP D N1 ad1 ce1 H) (hA1 : ∀ q, fA N1 ad1 q → A0 q) (hM : FMet l y cy maxL ret fr lo D ct N1 ad1 (.ref (ad1 k0) :: As) ce1 rv ce1') (hcw : cwf own idx C y cy maxL ret n) (hk0 : k0 < N1) (hce : ce1 k0 = .inr (ci, fs)) (hc : vwCl[ci]? = some q0) (hC : q0.1 = C)
    (hst : st0 = As.reverse ++ .ref (ad1 k0) :: rest) (hn : As.length = n) (hR : fr + 1 ≤ R.frames ∧ 8 + (maxL + 11) + lo ≤ R.locals) (hroom : (rest.map fun v => v.category).sum ≤ 8) (hdg : decode cc pc = .ok (.invokevirtual idx, 3)) (hf : cells ≤ R.cells ∧ slots ≤ R.slots)
    (kk : ∀ (H1 : Heap) (locs1 : List Loc), fP D N1 ad1 ce1' H1 → (∀ q : Nat, q < H.size → ¬ fA N1 ad1 q → H1[q]? = H[q]?) → H.size ≤ H1.size → va_S A0 H0 H1 locs1 → W p l e R s m args below meth c H1 locs1 cells slots Q (F0 m (pc + 3) ls (rv.toList ++ rest))) : W p l e R s m args below meth c H locs cells slots Q (F0 m pc ls st0) := by
  intro T hT X
  subst hC
  obtain ⟨v, st₀, t, T', L, h0, X', hL, e1, e2, ⟨⟨hv, hw1, hw2, hw3⟩, hz, hk⟩, st⟩ := va_runV (As := As) (rest := rest) (g := F0 m pc ls st0) ⟨hx, hb, hml, hown, htg⟩ hM (cwV n htg hcw.1 rfl rfl rfl hcw.2 hR) ⟨fW_blind, va_recv hK hP1 hc (by rw [← hce]; exact vl_get hk0), fun U hU hW => ⟨rfl, by rw [hU]; exact hP1, va_K.moved hW.alike hK, hI1⟩⟩ rfl hn hl hst (lv_room hroom) hdg hf T hT X
  cases hv
  rw [h0] at hz hk
  obtain ⟨t2, a1, b1⟩ := kk T'.heap (locs ++ L) (by rw [e1]; exact hw1) (fun q h1 h2 => by rw [e1]; exact hk q h1 h2) (by rw [e1]; exact hz)
    ⟨Nat.le_trans hS.1 (by rw [e1]; exact hz), fun q h1 h2 => by rw [e1, hk q (Nat.lt_of_lt_of_le h1 hS.1) (fun z => h2 (hA1 q z))]; exact hS.2.1 q h1 h2, fun q hq => by
      rcases List.mem_append.mp hq with h | h
      · exact hS.2.2 q h
      · exact hA1 _ (hL q h)⟩ T' rfl X'
  exact ⟨t2, st t2 a1, b1⟩
theorem fc_S {N1 : Nat} {ad1 : Nat → Nat} {ce1 ce1' : Nat → va_E} {nL : Nat} {own : String} {y : MethodName} {cy : ByteArray} {maxL : Nat} {ret : Option FieldType} {fr lo : Nat} {As st0 : List Value} {rv : Option Value} {idx n : Nat}
    (hx : p.tables.exec = Jvm.exec) (hb : c.code = cc) (hml : c.maxLocals = nL) (hown : s.vm.findClass own = some m.cls) (htg : ∀ w ∈ wB, w.before args s = true) (hK : va_K D vwCl (fTys ct) s) (hS : va_S A0 H0 H locs) (hl : ls.size = nL)
    (hI1 : fI N1 ad1) (hP1 : fP D N1 ad1 ce1 H) (hA1 : ∀ q, fA N1 ad1 q → A0 q) (hM : FMet l y cy maxL ret fr lo D ct N1 ad1 As ce1 rv ce1') (hcw : cwg own idx y cy maxL ret n)
    (hst : st0 = As.reverse ++ rest) (hn : As.length = n) (hR : fr + 1 ≤ R.frames ∧ 8 + (maxL + 11) + lo ≤ R.locals) (hroom : (rest.map fun v => v.category).sum ≤ 8) (hdg : decode cc pc = .ok (.invokestatic idx, 3)) (hf : cells ≤ R.cells ∧ slots ≤ R.slots)
    (kk : ∀ (H1 : Heap) (locs1 : List Loc), fP D N1 ad1 ce1' H1 → (∀ q : Nat, q < H.size → ¬ fA N1 ad1 q → H1[q]? = H[q]?) → H.size ≤ H1.size → va_S A0 H0 H1 locs1 → W p l e R s m args below meth c H1 locs1 cells slots Q (F0 m (pc + 3) ls (rv.toList ++ rest))) : W p l e R s m args below meth c H locs cells slots Q (F0 m pc ls st0) := by
  intro T hT X
  obtain ⟨v, st₀, t, T', L, h0, X', hL, e1, e2, ⟨⟨hv, hw1, hw2, hw3⟩, hz, hk⟩, st⟩ := va_runS (As := As) (rest := rest) (g := F0 m pc ls st0) ⟨hx, hb, hml, hown, htg⟩ hM (va_cwS n htg hcw.1 rfl rfl rfl hcw.2 hR) ⟨fW_blind, fun U hU hW => ⟨rfl, by rw [hU]; exact hP1, va_K.moved hW.alike hK, hI1⟩⟩ rfl hn hl hst (lv_room hroom) hdg hf T hT X
  cases hv
  rw [h0] at hz hk
  obtain ⟨t2, a1, b1⟩ := kk T'.heap (locs ++ L) (by rw [e1]; exact hw1) (fun q h1 h2 => by rw [e1]; exact hk q h1 h2) (by rw [e1]; exact hz)
    ⟨Nat.le_trans hS.1 (by rw [e1]; exact hz), fun q h1 h2 => by rw [e1, hk q (Nat.lt_of_lt_of_le h1 hS.1) (fun z => h2 (hA1 q z))]; exact hS.2.1 q h1 h2, fun q hq => by
      rcases List.mem_append.mp hq with h | h
      · exact hS.2.2 q h
      · exact hA1 _ (hL q h)⟩ T' rfl X'
  exact ⟨t2, st t2 a1, b1⟩
/-- the same, of a method of the caller's own world -/
theorem fc_Vo {nL : Nat} {own C : String} {y : MethodName} {cy : ByteArray} {maxL : Nat} {ret : Option FieldType} {fr lo : Nat} {As st0 : List Value} {rv : Option Value} {k0 ci idx n : Nat} {fs : List Value} {q0 : vw_C}
    (hx : p.tables.exec = Jvm.exec) (hb : c.code = cc) (hml : c.maxLocals = nL) (hown : s.vm.findClass own = some m.cls) (htg : ∀ w ∈ wB, w.before args s = true) (hK : va_K D vwCl (fTys ct) s) (hI : fI N ad) (hP : fP D N ad ce H) (hS : va_S (fA N ad) H0 H locs) (hl : ls.size = nL)
    (hM : FMet l y cy maxL ret fr lo D ct N ad (.ref (ad k0) :: As) ce rv ce') (hcw : cwf own idx C y cy maxL ret n) (hk0 : k0 < N) (hce : ce k0 = .inr (ci, fs)) (hc : vwCl[ci]? = some q0) (hC : q0.1 = C)
    (hst : st0 = As.reverse ++ .ref (ad k0) :: rest) (hn : As.length = n) (hR : fr + 1 ≤ R.frames ∧ 8 + (maxL + 11) + lo ≤ R.locals) (hroom : (rest.map fun v => v.category).sum ≤ 8) (hdg : decode cc pc = .ok (.invokevirtual idx, 3)) (hf : cells ≤ R.cells ∧ slots ≤ R.slots)
    (kk : ∀ (H1 : Heap) (locs1 : List Loc), fP D N ad ce' H1 → va_S (fA N ad) H0 H1 locs1 → W p l e R s m args below meth c H1 locs1 cells slots Q (F0 m (pc + 3) ls (rv.toList ++ rest))) : W p l e R s m args below meth c H locs cells slots Q (F0 m pc ls st0) :=
  fc_V hx hb hml hown htg hK hS hl hI hP (fun _ h => h) hM hcw hk0 hce hc hC hst hn hR hroom hdg hf fun H1 l1 h1 _ _ h4 => kk H1 l1 h1 h4
theorem fc_So {nL : Nat} {own : String} {y : MethodName} {cy : ByteArray} {maxL : Nat} {ret : Option FieldType} {fr lo : Nat} {As st0 : List Value} {rv : Option Value} {idx n : Nat}
    (hx : p.tables.exec = Jvm.exec) (hb : c.code = cc) (hml : c.maxLocals = nL) (hown : s.vm.findClass own = some m.cls) (htg : ∀ w ∈ wB, w.before args s = true) (hK : va_K D vwCl (fTys ct) s) (hI : fI N ad) (hP : fP D N ad ce H) (hS : va_S (fA N ad) H0 H locs) (hl : ls.size = nL)
    (hM : FMet l y cy maxL ret fr lo D ct N ad As ce rv ce') (hcw : cwg own idx y cy maxL ret n)
    (hst : st0 = As.reverse ++ rest) (hn : As.length = n) (hR : fr + 1 ≤ R.frames ∧ 8 + (maxL + 11) + lo ≤ R.locals) (hroom : (rest.map fun v => v.category).sum ≤ 8) (hdg : decode cc pc = .ok (.invokestatic idx, 3)) (hf : cells ≤ R.cells ∧ slots ≤ R.slots)
    (kk : ∀ (H1 : Heap) (locs1 : List Loc), fP D N ad ce' H1 → va_S (fA N ad) H0 H1 locs1 → W p l e R s m args below meth c H1 locs1 cells slots Q (F0 m (pc + 3) ls (rv.toList ++ rest))) : W p l e R s m args below meth c H locs cells slots Q (F0 m pc ls st0) :=
  fc_S hx hb hml hown htg hK hS hl hI hP (fun _ h => h) hM hcw hst hn hR hroom hdg hf fun H1 l1 h1 _ _ h4 => kk H1 l1 h1 h4
theorem fr_get {k ci j n idx : Nat} {fs : List Value} {C own ref : String} {T : u_T} {v : Value} (hx : p.tables.exec = Jvm.exec) (hb : c.code = cc) (hown : s.vm.findClass own = some m.cls) (htg : ∀ w ∈ wB, w.before args s = true) (hK : va_K D vwCl (fTys ct) s) (hP : fP D N ad ce H) (hk : k < N) (hce : ce k = .inr (ci, fs)) (hc : vwCl[ci]? = some (C, T, n)) (hin : ∀ w ∈ u_ws C T n, w ∈ wB) (hj : j < n) (hlink : Cond.fieldLink own idx ref (T j).2.1 (T j).2.2.1 ∈ wB) (hsame : (T j).1 = ref) (hv : fs[j]? = some v) (hdg : decode cc pc = .ok (.getfield idx, 3))
    (kk : W p l e R s m args below meth c H locs cells slots Q (F0 m (pc + 3) ls (v :: rest))) : W p l e R s m args below meth c H locs cells slots Q (F0 m pc ls (.ref (ad k) :: rest)) :=
  va_get hx hb htg hin hown hK hP k (by rw [← hce]; exact vl_get hk) hc j hj (htg _ hlink) (fun x h => by rw [← hsame]; exact h) hv hdg kk
theorem fr_put {k ci j n idx : Nat} {fs : List Value} {C own ref : String} {T : u_T} {v : Value} {ty : FieldType} (hx : p.tables.exec = Jvm.exec) (hb : c.code = cc) (hown : s.vm.findClass own = some m.cls) (htg : ∀ w ∈ wB, w.before args s = true) (hK : va_K D vwCl (fTys ct) s) (hI : fI N ad) (hP : fP D N ad ce H) (hS : va_S A0 H0 H locs) (hA : ∀ i, i < N → A0 (ad i)) (hk : k < N) (hce : ce k = .inr (ci, fs)) (hc : vwCl[ci]? = some (C, T, n)) (hin : ∀ w ∈ u_ws C T n, w ∈ wB) (ty0 : Nat → FieldType) (hty : ∀ k, k < n → parseFieldDescriptor (T k).2.2.1 = some (ty0 k)) (hnm : ∀ a, a < n → ∀ b, b < n → a ≠ b → (T a).2.1 ≠ (T b).2.1) (hj : j < n) (hlink : Cond.fieldLink own idx ref (T j).2.1 (T j).2.2.1 ∈ wB) (hsame : (T j).1 = ref) (hfin : (T j).2.2.2 = false) (hd : ty0 j = ty) (hn : narrow ty v = v) (hfit : fits ty v = true) (hl : j < fs.length) (hdg : decode cc pc = .ok (.putfield idx, 3)) (he : ∀ i, i < N → va_up ce k (.inr (ci, fs.set j v)) i = ce' i)
    (kk : ∀ (H1 : Heap) (locs1 : List Loc), fP D N ad ce' H1 → va_S A0 H0 H1 locs1 → W p l e R s m args below meth c H1 locs1 cells slots Q (F0 m (pc + 3) ls rest)) : W p l e R s m args below meth c H locs cells slots Q (F0 m pc ls (v :: .ref (ad k) :: rest)) := by
  subst hd
  refine va_put hx hb htg hin ty0 hty hnm hown hK hP (fD hI hA) hS k (by rw [← hce]; exact vl_get hk) hc j hj (htg _ hlink) (fun x h => by rw [← hsame]; exact h) hfin (hty j hj) hn hfit hl hdg (fun H1 l1 h1 _ h3 => kk H1 l1 ?_ h3)
  rw [vl_set] at h1
  exact fP.ext h1 he
theorem fr_iald {k i len : Nat} {f : Nat → Int32} (hx : p.tables.exec = Jvm.exec) (hb : c.code = cc) (hK : va_K D vwCl (fTys ct) s) (hP : fP D N ad ce H) (hk : k < N) (hce : ce k = .inl (ct 0, len, .inl f)) (hi : i < len) (hlen : len < 2147483648) (hdg : decode cc pc = .ok (.iaload, 1))
    (kk : W p l e R s m args below meth c H locs cells slots Q (F0 m (pc + 1) ls (.int (f i) :: rest))) : W p l e R s m args below meth c H locs cells slots Q (F0 m pc ls (.int (nI i) :: .ref (ad k) :: rest)) := by
  refine va_iald hx hb hK hP k 0 (by rw [← hce]; exact vl_get hk) rfl (vp_in_nI hi hlen) hdg ?_
  rw [nI_clamp (Nat.lt_trans hi hlen)]
  exact kk
theorem fr_zald {k i len : Nat} {f : Nat → Int32} (hx : p.tables.exec = Jvm.exec) (hb : c.code = cc) (hK : va_K D vwCl (fTys ct) s) (hP : fP D N ad ce H) (hk : k < N) (hce : ce k = .inl (ct 1, len, .inl f)) (hi : i < len) (hlen : len < 2147483648) (hdg : decode cc pc = .ok (.baload, 1))
    (kk : W p l e R s m args below meth c H locs cells slots Q (F0 m (pc + 1) ls (.int (f i) :: rest))) : W p l e R s m args below meth c H locs cells slots Q (F0 m pc ls (.int (nI i) :: .ref (ad k) :: rest)) := by
  refine va_zald hx hb hK hP k 1 (by rw [← hce]; exact vl_get hk) rfl (vp_in_nI hi hlen) hdg ?_
  rw [nI_clamp (Nat.lt_trans hi hlen)]
  exact kk
theorem fr_cald {k i len : Nat} {f : Nat → Int32} (hx : p.tables.exec = Jvm.exec) (hb : c.code = cc) (hK : va_K D vwCl (fTys ct) s) (hP : fP D N ad ce H) (hk : k < N) (hce : ce k = .inl (ct 2, len, .inl f)) (hi : i < len) (hlen : len < 2147483648) (hdg : decode cc pc = .ok (.caload, 1))
    (kk : W p l e R s m args below meth c H locs cells slots Q (F0 m (pc + 1) ls (.int (f i) :: rest))) : W p l e R s m args below meth c H locs cells slots Q (F0 m pc ls (.int (nI i) :: .ref (ad k) :: rest)) := by
  refine va_cald hx hb hK hP k 2 (by rw [← hce]; exact vl_get hk) rfl (vp_in_nI hi hlen) hdg ?_
  rw [nI_clamp (Nat.lt_trans hi hlen)]
  exact kk
theorem fr_iast {k i len : Nat} {f : Nat → Int32} {x : Int32} (hx : p.tables.exec = Jvm.exec) (hb : c.code = cc) (hK : va_K D vwCl (fTys ct) s) (hI : fI N ad) (hP : fP D N ad ce H) (hS : va_S A0 H0 H locs) (hA : ∀ i, i < N → A0 (ad i)) (hk : k < N) (hce : ce k = .inl (ct 0, len, .inl f)) (hi : i < len) (hlen : len < 2147483648) (hdg : decode cc pc = .ok (.iastore, 1)) (he : ∀ j, j < N → va_up ce k (.inl (ct 0, len, .inl (upd f i x))) j = ce' j)
    (kk : ∀ (H1 : Heap) (locs1 : List Loc), fP D N ad ce' H1 → va_S A0 H0 H1 locs1 → W p l e R s m args below meth c H1 locs1 cells slots Q (F0 m (pc + 1) ls rest)) : W p l e R s m args below meth c H locs cells slots Q (F0 m pc ls (.int x :: .int (nI i) :: .ref (ad k) :: rest)) := by
  refine va_iast hx hb hK hP (fD hI hA) hS k 0 (by rw [← hce]; exact vl_get hk) rfl (vp_in_nI hi hlen) hdg (fun H1 l1 h1 _ h3 => kk H1 l1 ?_ h3)
  rw [nI_clamp (Nat.lt_trans hi hlen), vl_set] at h1
  exact fP.ext h1 he
theorem fr_zast {k i len : Nat} {f : Nat → Int32} {x : Int32} (hx : p.tables.exec = Jvm.exec) (hb : c.code = cc) (hK : va_K D vwCl (fTys ct) s) (hI : fI N ad) (hP : fP D N ad ce H) (hS : va_S A0 H0 H locs) (hA : ∀ i, i < N → A0 (ad i)) (hk : k < N) (hce : ce k = .inl (ct 1, len, .inl f)) (hi : i < len) (hlen : len < 2147483648) (hx1 : vp_nar .boolean x = x) (hdg : decode cc pc = .ok (.bastore, 1)) (he : ∀ j, j < N → va_up ce k (.inl (ct 1, len, .inl (upd f i x))) j = ce' j)
    (kk : ∀ (H1 : Heap) (locs1 : List Loc), fP D N ad ce' H1 → va_S A0 H0 H1 locs1 → W p l e R s m args below meth c H1 locs1 cells slots Q (F0 m (pc + 1) ls rest)) : W p l e R s m args below meth c H locs cells slots Q (F0 m pc ls (.int x :: .int (nI i) :: .ref (ad k) :: rest)) := by
  refine va_zast hx hb hK hP (fD hI hA) hS k 1 (by rw [← hce]; exact vl_get hk) rfl (vp_in_nI hi hlen) hdg (fun H1 l1 h1 _ h3 => kk H1 l1 ?_ h3)
  rw [nI_clamp (Nat.lt_trans hi hlen), vl_set, hx1] at h1
  exact fP.ext h1 he
theorem fr_cast {k i len : Nat} {f : Nat → Int32} {x : Int32} (hx : p.tables.exec = Jvm.exec) (hb : c.code = cc) (hK : va_K D vwCl (fTys ct) s) (hI : fI N ad) (hP : fP D N ad ce H) (hS : va_S A0 H0 H locs) (hA : ∀ i, i < N → A0 (ad i)) (hk : k < N) (hce : ce k = .inl (ct 2, len, .inl f)) (hi : i < len) (hlen : len < 2147483648) (hx1 : vp_nar .char x = x) (hdg : decode cc pc = .ok (.castore, 1)) (he : ∀ j, j < N → va_up ce k (.inl (ct 2, len, .inl (upd f i x))) j = ce' j)
    (kk : ∀ (H1 : Heap) (locs1 : List Loc), fP D N ad ce' H1 → va_S A0 H0 H1 locs1 → W p l e R s m args below meth c H1 locs1 cells slots Q (F0 m (pc + 1) ls rest)) : W p l e R s m args below meth c H locs cells slots Q (F0 m pc ls (.int x :: .int (nI i) :: .ref (ad k) :: rest)) := by
  refine va_cast hx hb hK hP (fD hI hA) hS k 2 (by rw [← hce]; exact vl_get hk) rfl (vp_in_nI hi hlen) hdg (fun H1 l1 h1 _ h3 => kk H1 l1 ?_ h3)
  rw [nI_clamp (Nat.lt_trans hi hlen), vl_set, hx1] at h1
  exact fP.ext h1 he
theorem fr_aldq {k i len t0 : Nat} {C : String} {cA : ClassId} {f : Nat → Option Nat} {x : Nat} (hx : p.tables.exec = Jvm.exec) (hb : c.code = cc) (hK : va_K D vwCl (fTys ct) s) (hP : fP D N ad ce H) (hk : k < N) (hce : ce k = .inl (cA, len, .inr (.inr (.inr (.inr f))))) (ht : (fTys ct)[t0]? = some (cA, .object C)) (hi : i < len) (hlen : len < 2147483648) (hf : f i = some x) (hdg : decode cc pc = .ok (.aaload, 1))
    (kk : W p l e R s m args below meth c H locs cells slots Q (F0 m (pc + 1) ls (.ref x :: rest))) : W p l e R s m args below meth c H locs cells slots Q (F0 m pc ls (.int (nI i) :: .ref (ad k) :: rest)) := by
  refine va_aldq hx hb hK hP k t0 (by rw [← hce]; exact vl_get hk) ht (vp_in_nI hi hlen) hdg ?_
  rw [nI_clamp (Nat.lt_trans hi hlen), hf]
  exact kk
/-- the number on the stack, by another name -/
theorem lv_teq {x y : Int32} (h : x = y) (k : W p l e R s m args below meth c H locs cells slots Q (F0 m pc ls (.int y :: rest))) : W p l e R s m args below meth c H locs cells slots Q (F0 m pc ls (.int x :: rest)) := by
  subst h; exact k
theorem lv_tleq {x y : Int64} (h : x = y) (k : W p l e R s m args below meth c H locs cells slots Q (F0 m pc ls (.long y :: rest))) : W p l e R s m args below meth c H locs cells slots Q (F0 m pc ls (.long x :: rest)) := by
  subst h; exact k
theorem lv_iaddN (hexec : p.tables.exec = Jvm.exec) (hb : c.code = cc) {a b : Nat} (hdg : decode cc pc = .ok (.iadd, 1)) (k : W p l e R s m args below meth c H locs cells slots Q (F0 m (pc + 1) ls (.int (nI (a + b)) :: rest))) : W p l e R s m args below meth c H locs cells slots Q (F0 m pc ls (.int (nI b) :: .int (nI a) :: rest)) :=
  lv_iadd hexec hb hdg (lv_teq (nI_add a b) k)
theorem lv_imulN (hexec : p.tables.exec = Jvm.exec) (hb : c.code = cc) {a b : Nat} (hdg : decode cc pc = .ok (.imul, 1)) (k : W p l e R s m args below meth c H locs cells slots Q (F0 m (pc + 1) ls (.int (nI (a * b)) :: rest))) : W p l e R s m args below meth c H locs cells slots Q (F0 m pc ls (.int (nI b) :: .int (nI a) :: rest)) :=
  lv_imul hexec hb hdg (lv_teq (pk_mul a b) k)
theorem lv_isubN (hexec : p.tables.exec = Jvm.exec) (hb : c.code = cc) {a b : Nat} (h : b ≤ a) (hdg : decode cc pc = .ok (.isub, 1)) (k : W p l e R s m args below meth c H locs cells slots Q (F0 m (pc + 1) ls (.int (nI (a - b)) :: rest))) : W p l e R s m args below meth c H locs cells slots Q (F0 m pc ls (.int (nI b) :: .int (nI a) :: rest)) :=
  lv_isub hexec hb hdg (lv_teq (pk_sub h) k)
theorem lv_idivN (hexec : p.tables.exec = Jvm.exec) (hb : c.code = cc) {a b : Nat} (ha : a < 2147483648) (h0 : 0 < b) (h1 : b < 2147483648) (hdg : decode cc pc = .ok (.idiv, 1)) (k : W p l e R s m args below meth c H locs cells slots Q (F0 m (pc + 1) ls (.int (nI (a / b)) :: rest))) : W p l e R s m args below meth c H locs cells slots Q (F0 m pc ls (.int (nI b) :: .int (nI a) :: rest)) :=
  lv_idiv hexec hb hdg (nI_ne0 h0 h1) (lv_teq (pk_div ha h0 h1) k)
theorem lv_iremN (hexec : p.tables.exec = Jvm.exec) (hb : c.code = cc) {a b : Nat} (ha : a < 2147483648) (h0 : 0 < b) (h1 : b < 2147483648) (hdg : decode cc pc = .ok (.irem, 1)) (k : W p l e R s m args below meth c H locs cells slots Q (F0 m (pc + 1) ls (.int (nI (a % b)) :: rest))) : W p l e R s m args below meth c H locs cells slots Q (F0 m pc ls (.int (nI b) :: .int (nI a) :: rest)) :=
  lv_irem hexec hb hdg (nI_ne0 h0 h1) (lv_teq (pk_rem ha h0 h1) k)
end BASE
def b2i (P : Prop) [Decidable P] : Int32 := if P then 1 else 0
theorem b2i_t {P : Prop} [Decidable P] (h : P) : b2i P = 1 := if_pos h
theorem b2i_f {P : Prop} [Decidable P] (h : ¬ P) : b2i P = 0 := if_neg h
theorem b2i_0 {P : Prop} [Decidable P] : b2i P = 0 ↔ ¬ P := by
  by_cases h : P <;> simp [b2i, h]
theorem b2i_n {P : Prop} [Decidable P] : narrow .boolean (.int (b2i P)) = .int (b2i P) := by
  by_cases h : P <;> simp only [b2i, h, if_true, if_false] <;> rfl
end
section
/-! WORDS: the facts that fields and calls link, out of the tables by place -/
theorem inB_X0 : ∀ w ∈ wsX00, w ∈ wB := wB_sub (by decide +kernel) (by decide +kernel)
theorem inB_X1 : ∀ w ∈ wsX10, w ∈ wB := wB_sub (by decide +kernel) (by decide +kernel)
theorem inB_X2 : ∀ w ∈ wsX20, w ∈ wB := wB_sub (by decide +kernel) (by decide +kernel)
theorem inB_X3 : ∀ w ∈ wsX30, w ∈ wB := wB_sub (by decide +kernel) (by decide +kernel)
theorem inB_X4 : ∀ w ∈ wsX40, w ∈ wB := wB_sub (by decide +kernel) (by decide +kernel)
theorem inB_X5 : ∀ w ∈ wsX50, w ∈ wB := wB_sub (by decide +kernel) (by decide +kernel)
theorem inB_X6 : ∀ w ∈ wsX60, w ∈ wB := wB_sub (by decide +kernel) (by decide +kernel)
theorem fl_X5_10 : Cond.fieldLink RX5 10 "MarketSockets" "market" "LMarketSockets$Market;" ∈ wB := wB_of 270 (by decide +kernel) (by decide +kernel)
theorem fl_X5_16 : Cond.fieldLink RX5 16 "MarketSockets" "trial" "LMarketSockets$Market;" ∈ wB := wB_of 271 (by decide +kernel) (by decide +kernel)
theorem fl_X5_19 : Cond.fieldLink RX5 19 "MarketSockets" "slots" "[LMarketSockets$Market;" ∈ wB := wB_of 272 (by decide +kernel) (by decide +kernel)
theorem fl_X5_23 : Cond.fieldLink RX5 23 "MarketSockets" "hasSnapshot" "[Z" ∈ wB := wB_of 273 (by decide +kernel) (by decide +kernel)
theorem fl_X5_30 : Cond.fieldLink RX5 30 "MarketSockets" "history" "LMarketSockets$History;" ∈ wB := wB_of 274 (by decide +kernel) (by decide +kernel)
theorem fl_X5_37 : Cond.fieldLink RX5 37 "MarketSockets" "plan" "LMarketSockets$PlanText;" ∈ wB := wB_of 275 (by decide +kernel) (by decide +kernel)
theorem cw_X5_50 : cwf RX5 50 RX2 yX2_isFull cX2_isFull 1 (some .boolean) 0 := ⟨wB_V (wB_of 629 (by decide +kernel) (by decide +kernel)) (wB_of 630 (by decide +kernel) (by decide +kernel)) (wB_of 631 (by decide +kernel) (by decide +kernel)) (wB_of 65 (by decide +kernel) (by decide +kernel)) (wB_of 632 (by decide +kernel) (by decide +kernel)), by decide +kernel⟩
theorem cw_X5_59 : cwf RX5 59 RX1 yX1_save cX1_save 2 (none : Option Jvm.ClassFile.FieldType) 1 := ⟨wB_V (wB_of 649 (by decide +kernel) (by decide +kernel)) (wB_of 650 (by decide +kernel) (by decide +kernel)) (wB_of 651 (by decide +kernel) (by decide +kernel)) (wB_of 68 (by decide +kernel) (by decide +kernel)) (wB_of 652 (by decide +kernel) (by decide +kernel)), by decide +kernel⟩
theorem cw_X5_63 : cwf RX5 63 RX2 yX2_add cX2_add 6 (some .int) 4 := ⟨wB_V (wB_of 657 (by decide +kernel) (by decide +kernel)) (wB_of 658 (by decide +kernel) (by decide +kernel)) (wB_of 659 (by decide +kernel) (by decide +kernel)) (wB_of 65 (by decide +kernel) (by decide +kernel)) (wB_of 660 (by decide +kernel) (by decide +kernel)), by decide +kernel⟩
theorem cw_X5_67 : cwf RX5 67 RX5 yX5_checkStall cX5_checkStall 2 (none : Option Jvm.ClassFile.FieldType) 1 := ⟨wB_V (wB_of 484 (by decide +kernel) (by decide +kernel)) (wB_of 486 (by decide +kernel) (by decide +kernel)) (wB_of 3 (by decide +kernel) (by decide +kernel)) (wB_of 64 (by decide +kernel) (by decide +kernel)) (wB_of 487 (by decide +kernel) (by decide +kernel)), by decide +kernel⟩
theorem cw_X5_71 : cwg RX5 71 yX5_checkArgument cX5_checkArgument 3 (none : Option Jvm.ClassFile.FieldType) 3 := ⟨wB_S (wB_of 334 (by decide +kernel) (by decide +kernel)) (wB_of 335 (by decide +kernel) (by decide +kernel)) (wB_of 64 (by decide +kernel) (by decide +kernel)) (wB_of 336 (by decide +kernel) (by decide +kernel)), by decide +kernel⟩
theorem cw_X5_75 : cwf RX5 75 RX2 yX2_stallAt cX2_stallAt 3 (some .int) 1 := ⟨wB_V (wB_of 502 (by decide +kernel) (by decide +kernel)) (wB_of 503 (by decide +kernel) (by decide +kernel)) (wB_of 504 (by decide +kernel) (by decide +kernel)) (wB_of 65 (by decide +kernel) (by decide +kernel)) (wB_of 505 (by decide +kernel) (by decide +kernel)), by decide +kernel⟩
theorem cw_X5_81 : cwf RX5 81 RX2 yX2_move cX2_move 4 (some .int) 2 := ⟨wB_V (wB_of 525 (by decide +kernel) (by decide +kernel)) (wB_of 526 (by decide +kernel) (by decide +kernel)) (wB_of 527 (by decide +kernel) (by decide +kernel)) (wB_of 65 (by decide +kernel) (by decide +kernel)) (wB_of 528 (by decide +kernel) (by decide +kernel)), by decide +kernel⟩
theorem fl_X5_85 : Cond.fieldLink RX5 85 "MarketSockets$Market" "stalls" "[LMarketSockets$Stall;" ∈ wB := wB_of 190 (by decide +kernel) (by decide +kernel)
theorem fl_X5_89 : Cond.fieldLink RX5 89 "MarketSockets$Stall" "socket" "I" ∈ wB := wB_of 122 (by decide +kernel) (by decide +kernel)
theorem fl_X5_97 : Cond.fieldLink RX5 97 "MarketSockets$Stall" "isShed" "Z" ∈ wB := wB_of 125 (by decide +kernel) (by decide +kernel)
theorem fl_X5_101 : Cond.fieldLink RX5 101 "MarketSockets$Market" "breakers" "[LMarketSockets$Breaker;" ∈ wB := wB_of 194 (by decide +kernel) (by decide +kernel)
theorem fl_X5_105 : Cond.fieldLink RX5 105 "MarketSockets$Breaker" "bound" "I" ∈ wB := wB_of 162 (by decide +kernel) (by decide +kernel)
theorem fl_X5_110 : Cond.fieldLink RX5 110 "MarketSockets$Breaker" "isOn" "Z" ∈ wB := wB_of 164 (by decide +kernel) (by decide +kernel)
theorem cw_X5_115 : cwf RX5 115 RX0 yX0_putOn cX0_putOn 1 (none : Option Jvm.ClassFile.FieldType) 0 := ⟨wB_V (wB_of 603 (by decide +kernel) (by decide +kernel)) (wB_of 604 (by decide +kernel) (by decide +kernel)) (wB_of 605 (by decide +kernel) (by decide +kernel)) (wB_of 67 (by decide +kernel) (by decide +kernel)) (wB_of 606 (by decide +kernel) (by decide +kernel)), by decide +kernel⟩
theorem cw_X5_118 : cwf RX5 118 RX2 yX2_drawersOn cX2_drawersOn 4 (some .int) 1 := ⟨wB_V (wB_of 704 (by decide +kernel) (by decide +kernel)) (wB_of 414 (by decide +kernel) (by decide +kernel)) (wB_of 415 (by decide +kernel) (by decide +kernel)) (wB_of 65 (by decide +kernel) (by decide +kernel)) (wB_of 416 (by decide +kernel) (by decide +kernel)), by decide +kernel⟩
theorem fl_X5_121 : Cond.fieldLink RX5 121 "MarketSockets$Market" "isOver" "[Z" ∈ wB := wB_of 196 (by decide +kernel) (by decide +kernel)
theorem cw_X5_124 : cwf RX5 124 RX2 yX2_breakerOf cX2_breakerOf 2 (some .int) 1 := ⟨wB_V (wB_of 573 (by decide +kernel) (by decide +kernel)) (wB_of 422 (by decide +kernel) (by decide +kernel)) (wB_of 423 (by decide +kernel) (by decide +kernel)) (wB_of 65 (by decide +kernel) (by decide +kernel)) (wB_of 424 (by decide +kernel) (by decide +kernel)), by decide +kernel⟩
theorem cw_X5_127 : cwf RX5 127 RX2 yX2_hasRoomFor cX2_hasRoomFor 2 (some .boolean) 1 := ⟨wB_V (wB_of 719 (by decide +kernel) (by decide +kernel)) (wB_of 720 (by decide +kernel) (by decide +kernel)) (wB_of 721 (by decide +kernel) (by decide +kernel)) (wB_of 65 (by decide +kernel) (by decide +kernel)) (wB_of 722 (by decide +kernel) (by decide +kernel)), by decide +kernel⟩
theorem cw_X5_133 : cwf RX5 133 RX2 yX2_trips cX2_trips 3 (some .int) 0 := ⟨wB_V (wB_of 441 (by decide +kernel) (by decide +kernel)) (wB_of 442 (by decide +kernel) (by decide +kernel)) (wB_of 443 (by decide +kernel) (by decide +kernel)) (wB_of 65 (by decide +kernel) (by decide +kernel)) (wB_of 444 (by decide +kernel) (by decide +kernel)), by decide +kernel⟩
theorem cw_X5_137 : cwf RX5 137 RX2 yX2_goHours cX2_goHours 3 (none : Option Jvm.ClassFile.FieldType) 1 := ⟨wB_V (wB_of 529 (by decide +kernel) (by decide +kernel)) (wB_of 530 (by decide +kernel) (by decide +kernel)) (wB_of 531 (by decide +kernel) (by decide +kernel)) (wB_of 65 (by decide +kernel) (by decide +kernel)) (wB_of 532 (by decide +kernel) (by decide +kernel)), by decide +kernel⟩
theorem cw_X5_140 : cwg RX5 140 yX5_checkSetting cX5_checkSetting 1 (none : Option Jvm.ClassFile.FieldType) 1 := ⟨wB_S (wB_of 461 (by decide +kernel) (by decide +kernel)) (wB_of 462 (by decide +kernel) (by decide +kernel)) (wB_of 64 (by decide +kernel) (by decide +kernel)) (wB_of 463 (by decide +kernel) (by decide +kernel)), by decide +kernel⟩
theorem fl_X5_150 : Cond.fieldLink RX5 150 "MarketSockets$Market" "settings" "[I" ∈ wB := wB_of 198 (by decide +kernel) (by decide +kernel)
theorem fl_X5_153 : Cond.fieldLink RX5 153 "MarketSockets$PlanText" "length" "I" ∈ wB := wB_of 251 (by decide +kernel) (by decide +kernel)
theorem fl_X5_158 : Cond.fieldLink RX5 158 "MarketSockets$PlanText" "signs" "[C" ∈ wB := wB_of 249 (by decide +kernel) (by decide +kernel)
theorem cw_X5_162 : cwf RX5 162 RX3 yX3_readWhole cX3_readWhole 2 (some .boolean) 0 := ⟨wB_V (wB_of 297 (by decide +kernel) (by decide +kernel)) (wB_of 298 (by decide +kernel) (by decide +kernel)) (wB_of 299 (by decide +kernel) (by decide +kernel)) (wB_of 69 (by decide +kernel) (by decide +kernel)) (wB_of 300 (by decide +kernel) (by decide +kernel)), by decide +kernel⟩
theorem fl_X5_165 : Cond.fieldLink RX5 165 "MarketSockets$PlanText" "at" "I" ∈ wB := wB_of 253 (by decide +kernel) (by decide +kernel)
theorem cw_X5_170 : cwf RX5 170 RX5 yX5_doOrders cX5_doOrders 2 (some .int) 0 := ⟨wB_V (wB_of 751 (by decide +kernel) (by decide +kernel)) (wB_of 753 (by decide +kernel) (by decide +kernel)) (wB_of 12 (by decide +kernel) (by decide +kernel)) (wB_of 64 (by decide +kernel) (by decide +kernel)) (wB_of 754 (by decide +kernel) (by decide +kernel)), by decide +kernel⟩
theorem cw_X5_173 : cwf RX5 173 RX2 yX2_copyFrom cX2_copyFrom 3 (none : Option Jvm.ClassFile.FieldType) 1 := ⟨wB_V (wB_of 510 (by decide +kernel) (by decide +kernel)) (wB_of 511 (by decide +kernel) (by decide +kernel)) (wB_of 512 (by decide +kernel) (by decide +kernel)) (wB_of 65 (by decide +kernel) (by decide +kernel)) (wB_of 513 (by decide +kernel) (by decide +kernel)), by decide +kernel⟩
theorem fl_X5_176 : Cond.fieldLink RX5 176 "MarketSockets$Market" "hour" "I" ∈ wB := wB_of 200 (by decide +kernel) (by decide +kernel)
theorem fl_X5_181 : Cond.fieldLink RX5 181 "MarketSockets$History" "size" "I" ∈ wB := wB_of 234 (by decide +kernel) (by decide +kernel)
theorem cw_X5_186 : cwf RX5 186 RX1 yX1_restoreTo cX1_restoreTo 2 (none : Option Jvm.ClassFile.FieldType) 1 := ⟨wB_V (wB_of 784 (by decide +kernel) (by decide +kernel)) (wB_of 785 (by decide +kernel) (by decide +kernel)) (wB_of 786 (by decide +kernel) (by decide +kernel)) (wB_of 68 (by decide +kernel) (by decide +kernel)) (wB_of 787 (by decide +kernel) (by decide +kernel)), by decide +kernel⟩
theorem fl_X5_189 : Cond.fieldLink RX5 189 "MarketSockets$Stall" "load" "I" ∈ wB := wB_of 113 (by decide +kernel) (by decide +kernel)
theorem fl_X5_192 : Cond.fieldLink RX5 192 "MarketSockets$Stall" "from" "I" ∈ wB := wB_of 115 (by decide +kernel) (by decide +kernel)
theorem fl_X5_195 : Cond.fieldLink RX5 195 "MarketSockets$Stall" "to" "I" ∈ wB := wB_of 117 (by decide +kernel) (by decide +kernel)
theorem fl_X5_198 : Cond.fieldLink RX5 198 "MarketSockets$Stall" "rank" "I" ∈ wB := wB_of 120 (by decide +kernel) (by decide +kernel)
theorem fl_X5_201 : Cond.fieldLink RX5 201 "MarketSockets$Stall" "meter" "I" ∈ wB := wB_of 129 (by decide +kernel) (by decide +kernel)
theorem fl_X5_204 : Cond.fieldLink RX5 204 "MarketSockets$Stall" "darkHours" "I" ∈ wB := wB_of 132 (by decide +kernel) (by decide +kernel)
theorem cw_X5_207 : cwf RX5 207 RX2 yX2_reasonOf cX2_reasonOf 3 (some .int) 1 := ⟨wB_V (wB_of 489 (by decide +kernel) (by decide +kernel)) (wB_of 490 (by decide +kernel) (by decide +kernel)) (wB_of 491 (by decide +kernel) (by decide +kernel)) (wB_of 65 (by decide +kernel) (by decide +kernel)) (wB_of 492 (by decide +kernel) (by decide +kernel)), by decide +kernel⟩
theorem cw_X5_211 : cwf RX5 211 RX2 yX2_feeOf cX2_feeOf 2 (some .int) 1 := ⟨wB_V (wB_of 493 (by decide +kernel) (by decide +kernel)) (wB_of 450 (by decide +kernel) (by decide +kernel)) (wB_of 451 (by decide +kernel) (by decide +kernel)) (wB_of 65 (by decide +kernel) (by decide +kernel)) (wB_of 452 (by decide +kernel) (by decide +kernel)), by decide +kernel⟩
theorem fl_X5_214 : Cond.fieldLink RX5 214 "MarketSockets$Breaker" "heat" "I" ∈ wB := wB_of 167 (by decide +kernel) (by decide +kernel)
theorem cw_X5_217 : cwf RX5 217 RX2 yX2_loadOn cX2_loadOn 4 (some .int) 1 := ⟨wB_V (wB_of 578 (by decide +kernel) (by decide +kernel)) (wB_of 579 (by decide +kernel) (by decide +kernel)) (wB_of 580 (by decide +kernel) (by decide +kernel)) (wB_of 65 (by decide +kernel) (by decide +kernel)) (wB_of 581 (by decide +kernel) (by decide +kernel)), by decide +kernel⟩
theorem cw_X5_220 : cwf RX5 220 RX2 yX2_loadPluggedInto cX2_loadPluggedInto 5 (some .int) 1 := ⟨wB_V (wB_of 582 (by decide +kernel) (by decide +kernel)) (wB_of 583 (by decide +kernel) (by decide +kernel)) (wB_of 584 (by decide +kernel) (by decide +kernel)) (wB_of 65 (by decide +kernel) (by decide +kernel)) (wB_of 585 (by decide +kernel) (by decide +kernel)), by decide +kernel⟩
theorem fl_X5_223 : Cond.fieldLink RX5 223 "MarketSockets$Breaker" "trips" "I" ∈ wB := wB_of 169 (by decide +kernel) (by decide +kernel)
theorem fl_X5_225 : Cond.fieldLink RX5 225 "MarketSockets$Breaker" "through" "I" ∈ wB := wB_of 173 (by decide +kernel) (by decide +kernel)
theorem fl_X5_228 : Cond.fieldLink RX5 228 "MarketSockets$Market" "stallCount" "I" ∈ wB := wB_of 192 (by decide +kernel) (by decide +kernel)
theorem cw_X5_231 : cwf RX5 231 RX2 yX2_pluggedStalls cX2_pluggedStalls 3 (some .int) 0 := ⟨wB_V (wB_of 405 (by decide +kernel) (by decide +kernel)) (wB_of 406 (by decide +kernel) (by decide +kernel)) (wB_of 407 (by decide +kernel) (by decide +kernel)) (wB_of 65 (by decide +kernel) (by decide +kernel)) (wB_of 408 (by decide +kernel) (by decide +kernel)), by decide +kernel⟩
theorem cw_X5_234 : cwf RX5 234 RX2 yX2_drawingStalls cX2_drawingStalls 3 (some .int) 0 := ⟨wB_V (wB_of 409 (by decide +kernel) (by decide +kernel)) (wB_of 410 (by decide +kernel) (by decide +kernel)) (wB_of 411 (by decide +kernel) (by decide +kernel)) (wB_of 65 (by decide +kernel) (by decide +kernel)) (wB_of 412 (by decide +kernel) (by decide +kernel)), by decide +kernel⟩
theorem cw_X5_237 : cwf RX5 237 RX2 yX2_breakersOn cX2_breakersOn 3 (some .int) 0 := ⟨wB_V (wB_of 429 (by decide +kernel) (by decide +kernel)) (wB_of 430 (by decide +kernel) (by decide +kernel)) (wB_of 431 (by decide +kernel) (by decide +kernel)) (wB_of 65 (by decide +kernel) (by decide +kernel)) (wB_of 432 (by decide +kernel) (by decide +kernel)), by decide +kernel⟩
theorem cw_X5_240 : cwf RX5 240 RX2 yX2_meters cX2_meters 3 (some .int) 0 := ⟨wB_V (wB_of 433 (by decide +kernel) (by decide +kernel)) (wB_of 434 (by decide +kernel) (by decide +kernel)) (wB_of 435 (by decide +kernel) (by decide +kernel)) (wB_of 65 (by decide +kernel) (by decide +kernel)) (wB_of 436 (by decide +kernel) (by decide +kernel)), by decide +kernel⟩
theorem cw_X5_243 : cwf RX5 243 RX2 yX2_through cX2_through 3 (some .int) 0 := ⟨wB_V (wB_of 437 (by decide +kernel) (by decide +kernel)) (wB_of 438 (by decide +kernel) (by decide +kernel)) (wB_of 439 (by decide +kernel) (by decide +kernel)) (wB_of 65 (by decide +kernel) (by decide +kernel)) (wB_of 440 (by decide +kernel) (by decide +kernel)), by decide +kernel⟩
theorem cw_X5_245 : cwf RX5 245 RX2 yX2_darkHours cX2_darkHours 3 (some .int) 0 := ⟨wB_V (wB_of 321 (by decide +kernel) (by decide +kernel)) (wB_of 322 (by decide +kernel) (by decide +kernel)) (wB_of 323 (by decide +kernel) (by decide +kernel)) (wB_of 65 (by decide +kernel) (by decide +kernel)) (wB_of 324 (by decide +kernel) (by decide +kernel)), by decide +kernel⟩
theorem cw_X5_247 : cwf RX5 247 RX2 yX2_fees cX2_fees 3 (some .int) 0 := ⟨wB_V (wB_of 445 (by decide +kernel) (by decide +kernel)) (wB_of 446 (by decide +kernel) (by decide +kernel)) (wB_of 447 (by decide +kernel) (by decide +kernel)) (wB_of 65 (by decide +kernel) (by decide +kernel)) (wB_of 448 (by decide +kernel) (by decide +kernel)), by decide +kernel⟩
theorem fl_X5_250 : Cond.fieldLink RX5 250 "MarketSockets$Market" "shedByRank" "I" ∈ wB := wB_of 204 (by decide +kernel) (by decide +kernel)
theorem cw_X5_253 : cwf RX5 253 RX5 yX5_isTakenFor cX5_isTakenFor 4 (some .boolean) 2 := ⟨wB_V (wB_of 498 (by decide +kernel) (by decide +kernel)) (wB_of 500 (by decide +kernel) (by decide +kernel)) (wB_of 4 (by decide +kernel) (by decide +kernel)) (wB_of 64 (by decide +kernel) (by decide +kernel)) (wB_of 501 (by decide +kernel) (by decide +kernel)), by decide +kernel⟩
theorem cw_X5_257 : cwf RX5 257 RX5 yX5_tryAt cX5_tryAt 4 (none : Option Jvm.ClassFile.FieldType) 3 := ⟨wB_V (wB_of 506 (by decide +kernel) (by decide +kernel)) (wB_of 508 (by decide +kernel) (by decide +kernel)) (wB_of 5 (by decide +kernel) (by decide +kernel)) (wB_of 64 (by decide +kernel) (by decide +kernel)) (wB_of 509 (by decide +kernel) (by decide +kernel)), by decide +kernel⟩
theorem cw_X5_260 : cwf RX5 260 RX2 yX2_goOneHour cX2_goOneHour 2 (none : Option Jvm.ClassFile.FieldType) 0 := ⟨wB_V (wB_of 590 (by decide +kernel) (by decide +kernel)) (wB_of 534 (by decide +kernel) (by decide +kernel)) (wB_of 535 (by decide +kernel) (by decide +kernel)) (wB_of 65 (by decide +kernel) (by decide +kernel)) (wB_of 536 (by decide +kernel) (by decide +kernel)), by decide +kernel⟩
theorem cw_X5_263 : cwf RX5 263 RX5 yX5_wouldTripWith cX5_wouldTripWith 5 (some .boolean) 2 := ⟨wB_V (wB_of 599 (by decide +kernel) (by decide +kernel)) (wB_of 601 (by decide +kernel) (by decide +kernel)) (wB_of 10 (by decide +kernel) (by decide +kernel)) (wB_of 64 (by decide +kernel) (by decide +kernel)) (wB_of 602 (by decide +kernel) (by decide +kernel)), by decide +kernel⟩
theorem fl_X5_266 : Cond.fieldLink RX5 266 "MarketSockets$Market" "servedHours" "I" ∈ wB := wB_of 202 (by decide +kernel) (by decide +kernel)
theorem cw_X5_271 : cwf RX5 271 RX5 yX5_count cX5_count 2 (some .int) 1 := ⟨wB_V (wB_of 330 (by decide +kernel) (by decide +kernel)) (wB_of 331 (by decide +kernel) (by decide +kernel)) (wB_of 332 (by decide +kernel) (by decide +kernel)) (wB_of 64 (by decide +kernel) (by decide +kernel)) (wB_of 333 (by decide +kernel) (by decide +kernel)), by decide +kernel⟩
theorem cw_X5_274 : cwg RX5 274 yX5_mix cX5_mix 4 (some .long) 2 := ⟨wB_S (wB_of 453 (by decide +kernel) (by decide +kernel)) (wB_of 454 (by decide +kernel) (by decide +kernel)) (wB_of 64 (by decide +kernel) (by decide +kernel)) (wB_of 455 (by decide +kernel) (by decide +kernel)), by decide +kernel⟩
theorem cw_X5_278 : cwf RX5 278 RX5 yX5_setting cX5_setting 2 (some .int) 1 := ⟨wB_V (wB_of 457 (by decide +kernel) (by decide +kernel)) (wB_of 458 (by decide +kernel) (by decide +kernel)) (wB_of 459 (by decide +kernel) (by decide +kernel)) (wB_of 64 (by decide +kernel) (by decide +kernel)) (wB_of 460 (by decide +kernel) (by decide +kernel)), by decide +kernel⟩
theorem cw_X5_281 : cwf RX5 281 RX5 yX5_stallOf cX5_stallOf 4 (some .int) 2 := ⟨wB_V (wB_of 480 (by decide +kernel) (by decide +kernel)) (wB_of 481 (by decide +kernel) (by decide +kernel)) (wB_of 482 (by decide +kernel) (by decide +kernel)) (wB_of 64 (by decide +kernel) (by decide +kernel)) (wB_of 483 (by decide +kernel) (by decide +kernel)), by decide +kernel⟩
theorem cw_X5_284 : cwf RX5 284 RX5 yX5_ifPlugged cX5_ifPlugged 5 (some .int) 4 := ⟨wB_V (wB_of 494 (by decide +kernel) (by decide +kernel)) (wB_of 495 (by decide +kernel) (by decide +kernel)) (wB_of 496 (by decide +kernel) (by decide +kernel)) (wB_of 64 (by decide +kernel) (by decide +kernel)) (wB_of 497 (by decide +kernel) (by decide +kernel)), by decide +kernel⟩
theorem cw_X5_287 : cwf RX5 287 RX5 yX5_bestSocket cX5_bestSocket 10 (some .int) 1 := ⟨wB_V (wB_of 569 (by decide +kernel) (by decide +kernel)) (wB_of 570 (by decide +kernel) (by decide +kernel)) (wB_of 571 (by decide +kernel) (by decide +kernel)) (wB_of 64 (by decide +kernel) (by decide +kernel)) (wB_of 572 (by decide +kernel) (by decide +kernel)), by decide +kernel⟩
theorem cw_X5_290 : cwf RX5 290 RX5 yX5_breaker cX5_breaker 4 (some .int) 2 := ⟨wB_V (wB_of 574 (by decide +kernel) (by decide +kernel)) (wB_of 575 (by decide +kernel) (by decide +kernel)) (wB_of 576 (by decide +kernel) (by decide +kernel)) (wB_of 64 (by decide +kernel) (by decide +kernel)) (wB_of 577 (by decide +kernel) (by decide +kernel)), by decide +kernel⟩
theorem cw_X5_293 : cwf RX5 293 RX5 yX5_tripsIn cX5_tripsIn 3 (some .int) 1 := ⟨wB_V (wB_of 586 (by decide +kernel) (by decide +kernel)) (wB_of 587 (by decide +kernel) (by decide +kernel)) (wB_of 588 (by decide +kernel) (by decide +kernel)) (wB_of 64 (by decide +kernel) (by decide +kernel)) (wB_of 589 (by decide +kernel) (by decide +kernel)), by decide +kernel⟩
theorem cw_X5_296 : cwf RX5 296 RX5 yX5_socket cX5_socket 3 (some .int) 2 := ⟨wB_V (wB_of 591 (by decide +kernel) (by decide +kernel)) (wB_of 592 (by decide +kernel) (by decide +kernel)) (wB_of 593 (by decide +kernel) (by decide +kernel)) (wB_of 64 (by decide +kernel) (by decide +kernel)) (wB_of 594 (by decide +kernel) (by decide +kernel)), by decide +kernel⟩
theorem cw_X5_298 : cwf RX5 298 RX5 yX5_leastBound cX5_leastBound 4 (some .int) 1 := ⟨wB_V (wB_of 595 (by decide +kernel) (by decide +kernel)) (wB_of 596 (by decide +kernel) (by decide +kernel)) (wB_of 597 (by decide +kernel) (by decide +kernel)) (wB_of 64 (by decide +kernel) (by decide +kernel)) (wB_of 598 (by decide +kernel) (by decide +kernel)), by decide +kernel⟩
theorem cw_X5_301 : cwf RX5 301 RX5 yX5_servedShare cX5_servedShare 2 (some .double) 0 := ⟨wB_V (wB_of 607 (by decide +kernel) (by decide +kernel)) (wB_of 318 (by decide +kernel) (by decide +kernel)) (wB_of 319 (by decide +kernel) (by decide +kernel)) (wB_of 64 (by decide +kernel) (by decide +kernel)) (wB_of 320 (by decide +kernel) (by decide +kernel)), by decide +kernel⟩
theorem cw_X5_305 : cwg RX5 305 yX5_bitsOf cX5_bitsOf 8 (some .long) 1 := ⟨wB_S (wB_of 608 (by decide +kernel) (by decide +kernel)) (wB_of 609 (by decide +kernel) (by decide +kernel)) (wB_of 64 (by decide +kernel) (by decide +kernel)) (wB_of 610 (by decide +kernel) (by decide +kernel)), by decide +kernel⟩
theorem cw_X5_309 : cwf RX5 309 RX5 yX5_mixBuffer cX5_mixBuffer 6 (some .long) 1 := ⟨wB_V (wB_of 614 (by decide +kernel) (by decide +kernel)) (wB_of 616 (by decide +kernel) (by decide +kernel)) (wB_of 11 (by decide +kernel) (by decide +kernel)) (wB_of 64 (by decide +kernel) (by decide +kernel)) (wB_of 617 (by decide +kernel) (by decide +kernel)), by decide +kernel⟩
theorem cw_X5_322 : cwf RX5 322 RX3 yX3_readOrder cX3_readOrder 1 (some .boolean) 0 := ⟨wB_V (wB_of 755 (by decide +kernel) (by decide +kernel)) (wB_of 302 (by decide +kernel) (by decide +kernel)) (wB_of 303 (by decide +kernel) (by decide +kernel)) (wB_of 69 (by decide +kernel) (by decide +kernel)) (wB_of 304 (by decide +kernel) (by decide +kernel)), by decide +kernel⟩
theorem cw_X5_325 : cwf RX5 325 RX5 yX5_doOrder cX5_doOrder 3 (some .boolean) 0 := ⟨wB_V (wB_of 756 (by decide +kernel) (by decide +kernel)) (wB_of 758 (by decide +kernel) (by decide +kernel)) (wB_of 13 (by decide +kernel) (by decide +kernel)) (wB_of 64 (by decide +kernel) (by decide +kernel)) (wB_of 759 (by decide +kernel) (by decide +kernel)), by decide +kernel⟩
theorem cw_X5_328 : cwf RX5 328 RX3 yX3_readSign cX3_readSign 2 (some .boolean) 1 := ⟨wB_V (wB_of 760 (by decide +kernel) (by decide +kernel)) (wB_of 306 (by decide +kernel) (by decide +kernel)) (wB_of 307 (by decide +kernel) (by decide +kernel)) (wB_of 69 (by decide +kernel) (by decide +kernel)) (wB_of 308 (by decide +kernel) (by decide +kernel)), by decide +kernel⟩
theorem fl_X5_332 : Cond.fieldLink RX5 332 "MarketSockets$PlanText" "numbers" "[I" ∈ wB := wB_of 257 (by decide +kernel) (by decide +kernel)
theorem fl_X5_335 : Cond.fieldLink RX5 335 "MarketSockets$PlanText" "kind" "C" ∈ wB := wB_of 255 (by decide +kernel) (by decide +kernel)
theorem fl_X6_7 : Cond.fieldLink RX6 7 "MarketSocketsModel" "z" "[I" ∈ wB := wB_of 835 (by decide +kernel) (by decide +kernel)
theorem fl_X6_13 : Cond.fieldLink RX6 13 "MarketSocketsModel" "saved" "[I" ∈ wB := wB_of 836 (by decide +kernel) (by decide +kernel)
theorem fl_X6_16 : Cond.fieldLink RX6 16 "MarketSocketsModel" "slots" "[I" ∈ wB := wB_of 838 (by decide +kernel) (by decide +kernel)
theorem fl_X6_19 : Cond.fieldLink RX6 19 "MarketSocketsModel" "isKept" "[Z" ∈ wB := wB_of 839 (by decide +kernel) (by decide +kernel)
theorem fl_X6_23 : Cond.fieldLink RX6 23 "MarketSocketsModel" "spare" "[I" ∈ wB := wB_of 840 (by decide +kernel) (by decide +kernel)
theorem fl_X6_26 : Cond.fieldLink RX6 26 "MarketSocketsModel" "buffer" "[I" ∈ wB := wB_of 841 (by decide +kernel) (by decide +kernel)
theorem fl_X6_29 : Cond.fieldLink RX6 29 "MarketSocketsModel" "orders" "[I" ∈ wB := wB_of 843 (by decide +kernel) (by decide +kernel)
theorem cw_X6_32 : cwf RX6 32 RX6 yX6_put cX6_put 4 (none : Option Jvm.ClassFile.FieldType) 3 := ⟨wB_V (wB_of 830 (by decide +kernel) (by decide +kernel)) (wB_of 832 (by decide +kernel) (by decide +kernel)) (wB_of 14 (by decide +kernel) (by decide +kernel)) (wB_of 70 (by decide +kernel) (by decide +kernel)) (wB_of 833 (by decide +kernel) (by decide +kernel)), by decide +kernel⟩
theorem fl_X6_36 : Cond.fieldLink RX6 36 "MarketSocketsModel" "thrown" "I" ∈ wB := wB_of 834 (by decide +kernel) (by decide +kernel)
theorem cw_X6_40 : cwg RX6 40 yX6_in cX6_in 3 (some .boolean) 3 := ⟨wB_S (wB_of 889 (by decide +kernel) (by decide +kernel)) (wB_of 890 (by decide +kernel) (by decide +kernel)) (wB_of 70 (by decide +kernel) (by decide +kernel)) (wB_of 891 (by decide +kernel) (by decide +kernel)), by decide +kernel⟩
theorem fl_X6_44 : Cond.fieldLink RX6 44 "MarketSocketsModel" "savedMany" "I" ∈ wB := wB_of 837 (by decide +kernel) (by decide +kernel)
theorem cw_X6_47 : cwf RX6 47 RX6 yX6_of cX6_of 3 (some .int) 2 := ⟨wB_V (wB_of 923 (by decide +kernel) (by decide +kernel)) (wB_of 925 (by decide +kernel) (by decide +kernel)) (wB_of 21 (by decide +kernel) (by decide +kernel)) (wB_of 70 (by decide +kernel) (by decide +kernel)) (wB_of 926 (by decide +kernel) (by decide +kernel)), by decide +kernel⟩
theorem cw_X6_51 : cwf RX6 51 RX6 yX6_wantsLoad cX6_wantsLoad 5 (some .boolean) 1 := ⟨wB_V (wB_of 970 (by decide +kernel) (by decide +kernel)) (wB_of 972 (by decide +kernel) (by decide +kernel)) (wB_of 28 (by decide +kernel) (by decide +kernel)) (wB_of 70 (by decide +kernel) (by decide +kernel)) (wB_of 973 (by decide +kernel) (by decide +kernel)), by decide +kernel⟩
theorem cw_X6_55 : cwf RX6 55 RX6 yX6_breakerOf cX6_breakerOf 2 (some .int) 1 := ⟨wB_V (wB_of 962 (by decide +kernel) (by decide +kernel)) (wB_of 964 (by decide +kernel) (by decide +kernel)) (wB_of 26 (by decide +kernel) (by decide +kernel)) (wB_of 70 (by decide +kernel) (by decide +kernel)) (wB_of 965 (by decide +kernel) (by decide +kernel)), by decide +kernel⟩
theorem cw_X6_59 : cwf RX6 59 RX6 yX6_by cX6_by 3 (some .int) 2 := ⟨wB_V (wB_of 942 (by decide +kernel) (by decide +kernel)) (wB_of 944 (by decide +kernel) (by decide +kernel)) (wB_of 22 (by decide +kernel) (by decide +kernel)) (wB_of 70 (by decide +kernel) (by decide +kernel)) (wB_of 945 (by decide +kernel) (by decide +kernel)), by decide +kernel⟩
theorem cw_X6_62 : cwf RX6 62 RX6 yX6_isOn cX6_isOn 3 (some .boolean) 2 := ⟨wB_V (wB_of 958 (by decide +kernel) (by decide +kernel)) (wB_of 960 (by decide +kernel) (by decide +kernel)) (wB_of 25 (by decide +kernel) (by decide +kernel)) (wB_of 70 (by decide +kernel) (by decide +kernel)) (wB_of 961 (by decide +kernel) (by decide +kernel)), by decide +kernel⟩
theorem cw_X6_66 : cwf RX6 66 RX6 yX6_reason cX6_reason 2 (some .int) 1 := ⟨wB_V (wB_of 966 (by decide +kernel) (by decide +kernel)) (wB_of 968 (by decide +kernel) (by decide +kernel)) (wB_of 27 (by decide +kernel) (by decide +kernel)) (wB_of 70 (by decide +kernel) (by decide +kernel)) (wB_of 969 (by decide +kernel) (by decide +kernel)), by decide +kernel⟩
theorem cw_X6_69 : cwf RX6 69 RX6 yX6_goesFirst cX6_goesFirst 3 (some .boolean) 2 := ⟨wB_V (wB_of 1002 (by decide +kernel) (by decide +kernel)) (wB_of 1004 (by decide +kernel) (by decide +kernel)) (wB_of 34 (by decide +kernel) (by decide +kernel)) (wB_of 70 (by decide +kernel) (by decide +kernel)) (wB_of 1005 (by decide +kernel) (by decide +kernel)), by decide +kernel⟩
theorem cw_X6_72 : cwf RX6 72 RX6 yX6_carried cX6_carried 4 (some .int) 1 := ⟨wB_V (wB_of 994 (by decide +kernel) (by decide +kernel)) (wB_of 996 (by decide +kernel) (by decide +kernel)) (wB_of 32 (by decide +kernel) (by decide +kernel)) (wB_of 70 (by decide +kernel) (by decide +kernel)) (wB_of 997 (by decide +kernel) (by decide +kernel)), by decide +kernel⟩
theorem cw_X6_75 : cwf RX6 75 RX6 yX6_firstToShed cX6_firstToShed 4 (some .int) 1 := ⟨wB_V (wB_of 998 (by decide +kernel) (by decide +kernel)) (wB_of 1000 (by decide +kernel) (by decide +kernel)) (wB_of 33 (by decide +kernel) (by decide +kernel)) (wB_of 70 (by decide +kernel) (by decide +kernel)) (wB_of 1001 (by decide +kernel) (by decide +kernel)), by decide +kernel⟩
theorem cw_X6_78 : cwf RX6 78 RX6 yX6_lay cX6_lay 4 (none : Option Jvm.ClassFile.FieldType) 3 := ⟨wB_V (wB_of 900 (by decide +kernel) (by decide +kernel)) (wB_of 902 (by decide +kernel) (by decide +kernel)) (wB_of 17 (by decide +kernel) (by decide +kernel)) (wB_of 70 (by decide +kernel) (by decide +kernel)) (wB_of 903 (by decide +kernel) (by decide +kernel)), by decide +kernel⟩
theorem cw_X6_81 : cwf RX6 81 RX6 yX6_shedByRank cX6_shedByRank 2 (none : Option Jvm.ClassFile.FieldType) 1 := ⟨wB_V (wB_of 990 (by decide +kernel) (by decide +kernel)) (wB_of 992 (by decide +kernel) (by decide +kernel)) (wB_of 31 (by decide +kernel) (by decide +kernel)) (wB_of 70 (by decide +kernel) (by decide +kernel)) (wB_of 993 (by decide +kernel) (by decide +kernel)), by decide +kernel⟩
theorem cw_X6_85 : cwf RX6 85 RX6 yX6_warm cX6_warm 4 (none : Option Jvm.ClassFile.FieldType) 1 := ⟨wB_V (wB_of 1006 (by decide +kernel) (by decide +kernel)) (wB_of 1008 (by decide +kernel) (by decide +kernel)) (wB_of 35 (by decide +kernel) (by decide +kernel)) (wB_of 70 (by decide +kernel) (by decide +kernel)) (wB_of 1009 (by decide +kernel) (by decide +kernel)), by decide +kernel⟩
theorem cw_X6_88 : cwf RX6 88 RX6 yX6_meter cX6_meter 3 (none : Option Jvm.ClassFile.FieldType) 1 := ⟨wB_V (wB_of 1010 (by decide +kernel) (by decide +kernel)) (wB_of 1012 (by decide +kernel) (by decide +kernel)) (wB_of 36 (by decide +kernel) (by decide +kernel)) (wB_of 70 (by decide +kernel) (by decide +kernel)) (wB_of 1013 (by decide +kernel) (by decide +kernel)), by decide +kernel⟩
theorem cw_X6_91 : cwf RX6 91 RX6 yX6_hour cX6_hour 3 (some .int) 0 := ⟨wB_V (wB_of 986 (by decide +kernel) (by decide +kernel)) (wB_of 988 (by decide +kernel) (by decide +kernel)) (wB_of 30 (by decide +kernel) (by decide +kernel)) (wB_of 70 (by decide +kernel) (by decide +kernel)) (wB_of 989 (by decide +kernel) (by decide +kernel)), by decide +kernel⟩
theorem cw_X6_95 : cwf RX6 95 RX6 yX6_save cX6_save 2 (none : Option Jvm.ClassFile.FieldType) 0 := ⟨wB_V (wB_of 892 (by decide +kernel) (by decide +kernel)) (wB_of 894 (by decide +kernel) (by decide +kernel)) (wB_of 15 (by decide +kernel) (by decide +kernel)) (wB_of 70 (by decide +kernel) (by decide +kernel)) (wB_of 895 (by decide +kernel) (by decide +kernel)), by decide +kernel⟩
theorem cw_X6_98 : cwf RX6 98 RX6 yX6_stallComes cX6_stallComes 6 (some .int) 4 := ⟨wB_V (wB_of 896 (by decide +kernel) (by decide +kernel)) (wB_of 898 (by decide +kernel) (by decide +kernel)) (wB_of 16 (by decide +kernel) (by decide +kernel)) (wB_of 70 (by decide +kernel) (by decide +kernel)) (wB_of 899 (by decide +kernel) (by decide +kernel)), by decide +kernel⟩
theorem cw_X6_102 : cwf RX6 102 RX6 yX6_isStall cX6_isStall 2 (some .boolean) 1 := ⟨wB_V (wB_of 912 (by decide +kernel) (by decide +kernel)) (wB_of 914 (by decide +kernel) (by decide +kernel)) (wB_of 19 (by decide +kernel) (by decide +kernel)) (wB_of 70 (by decide +kernel) (by decide +kernel)) (wB_of 915 (by decide +kernel) (by decide +kernel)), by decide +kernel⟩
theorem cw_X6_105 : cwg RX6 105 yX6_isSocket cX6_isSocket 1 (some .boolean) 1 := ⟨wB_S (wB_of 916 (by decide +kernel) (by decide +kernel)) (wB_of 917 (by decide +kernel) (by decide +kernel)) (wB_of 70 (by decide +kernel) (by decide +kernel)) (wB_of 918 (by decide +kernel) (by decide +kernel)), by decide +kernel⟩
theorem cw_X6_108 : cwf RX6 108 RX6 yX6_stallAt cX6_stallAt 4 (some .int) 1 := ⟨wB_V (wB_of 919 (by decide +kernel) (by decide +kernel)) (wB_of 921 (by decide +kernel) (by decide +kernel)) (wB_of 20 (by decide +kernel) (by decide +kernel)) (wB_of 70 (by decide +kernel) (by decide +kernel)) (wB_of 922 (by decide +kernel) (by decide +kernel)), by decide +kernel⟩
theorem cw_X6_111 : cwf RX6 111 RX6 yX6_whyNotPlug cX6_whyNotPlug 3 (some .int) 2 := ⟨wB_V (wB_of 908 (by decide +kernel) (by decide +kernel)) (wB_of 910 (by decide +kernel) (by decide +kernel)) (wB_of 18 (by decide +kernel) (by decide +kernel)) (wB_of 70 (by decide +kernel) (by decide +kernel)) (wB_of 911 (by decide +kernel) (by decide +kernel)), by decide +kernel⟩
theorem cw_X6_114 : cwg RX6 114 yX6_isBreaker cX6_isBreaker 1 (some .boolean) 1 := ⟨wB_S (wB_of 939 (by decide +kernel) (by decide +kernel)) (wB_of 940 (by decide +kernel) (by decide +kernel)) (wB_of 70 (by decide +kernel) (by decide +kernel)) (wB_of 941 (by decide +kernel) (by decide +kernel)), by decide +kernel⟩
theorem cw_X6_117 : cwf RX6 117 RX6 yX6_putOn cX6_putOn 2 (none : Option Jvm.ClassFile.FieldType) 1 := ⟨wB_V (wB_of 950 (by decide +kernel) (by decide +kernel)) (wB_of 952 (by decide +kernel) (by decide +kernel)) (wB_of 23 (by decide +kernel) (by decide +kernel)) (wB_of 70 (by decide +kernel) (by decide +kernel)) (wB_of 953 (by decide +kernel) (by decide +kernel)), by decide +kernel⟩
theorem cw_X6_120 : cwf RX6 120 RX6 yX6_drawing cX6_drawing 4 (some .int) 1 := ⟨wB_V (wB_of 954 (by decide +kernel) (by decide +kernel)) (wB_of 956 (by decide +kernel) (by decide +kernel)) (wB_of 24 (by decide +kernel) (by decide +kernel)) (wB_of 70 (by decide +kernel) (by decide +kernel)) (wB_of 957 (by decide +kernel) (by decide +kernel)), by decide +kernel⟩
theorem cw_X6_123 : cwf RX6 123 RX6 yX6_hours cX6_hours 4 (some .int) 1 := ⟨wB_V (wB_of 982 (by decide +kernel) (by decide +kernel)) (wB_of 984 (by decide +kernel) (by decide +kernel)) (wB_of 29 (by decide +kernel) (by decide +kernel)) (wB_of 70 (by decide +kernel) (by decide +kernel)) (wB_of 985 (by decide +kernel) (by decide +kernel)), by decide +kernel⟩
theorem cw_X6_126 : cwg RX6 126 yX6_isValue cX6_isValue 2 (some .boolean) 2 := ⟨wB_S (wB_of 1018 (by decide +kernel) (by decide +kernel)) (wB_of 1019 (by decide +kernel) (by decide +kernel)) (wB_of 70 (by decide +kernel) (by decide +kernel)) (wB_of 1020 (by decide +kernel) (by decide +kernel)), by decide +kernel⟩
theorem fl_X6_129 : Cond.fieldLink RX6 129 "MarketSocketsModel" "typed" "I" ∈ wB := wB_of 842 (by decide +kernel) (by decide +kernel)
theorem fl_X6_132 : Cond.fieldLink RX6 132 "MarketSocketsModel" "spot" "I" ∈ wB := wB_of 845 (by decide +kernel) (by decide +kernel)
theorem fl_X6_135 : Cond.fieldLink RX6 135 "MarketSocketsModel" "wrong" "I" ∈ wB := wB_of 846 (by decide +kernel) (by decide +kernel)
theorem cw_X6_138 : cwf RX6 138 RX6 yX6_letter cX6_letter 1 (some .int) 0 := ⟨wB_V (wB_of 1041 (by decide +kernel) (by decide +kernel)) (wB_of 1043 (by decide +kernel) (by decide +kernel)) (wB_of 39 (by decide +kernel) (by decide +kernel)) (wB_of 70 (by decide +kernel) (by decide +kernel)) (wB_of 1044 (by decide +kernel) (by decide +kernel)), by decide +kernel⟩
theorem cw_X6_141 : cwf RX6 141 RX6 yX6_wants cX6_wants 2 (none : Option Jvm.ClassFile.FieldType) 1 := ⟨wB_V (wB_of 1045 (by decide +kernel) (by decide +kernel)) (wB_of 1047 (by decide +kernel) (by decide +kernel)) (wB_of 40 (by decide +kernel) (by decide +kernel)) (wB_of 70 (by decide +kernel) (by decide +kernel)) (wB_of 1048 (by decide +kernel) (by decide +kernel)), by decide +kernel⟩
theorem cw_X6_145 : cwf RX6 145 RX6 yX6_number cX6_number 5 (some .int) 2 := ⟨wB_V (wB_of 1053 (by decide +kernel) (by decide +kernel)) (wB_of 1055 (by decide +kernel) (by decide +kernel)) (wB_of 42 (by decide +kernel) (by decide +kernel)) (wB_of 70 (by decide +kernel) (by decide +kernel)) (wB_of 1056 (by decide +kernel) (by decide +kernel)), by decide +kernel⟩
theorem fl_X6_148 : Cond.fieldLink RX6 148 "MarketSocketsModel" "orderMany" "I" ∈ wB := wB_of 844 (by decide +kernel) (by decide +kernel)
theorem cw_X6_151 : cwf RX6 151 RX6 yX6_readStall cX6_readStall 2 (none : Option Jvm.ClassFile.FieldType) 1 := ⟨wB_V (wB_of 1049 (by decide +kernel) (by decide +kernel)) (wB_of 1051 (by decide +kernel) (by decide +kernel)) (wB_of 41 (by decide +kernel) (by decide +kernel)) (wB_of 70 (by decide +kernel) (by decide +kernel)) (wB_of 1052 (by decide +kernel) (by decide +kernel)), by decide +kernel⟩
theorem cw_X6_154 : cwf RX6 154 RX6 yX6_readOrder cX6_readOrder 3 (none : Option Jvm.ClassFile.FieldType) 0 := ⟨wB_V (wB_of 1037 (by decide +kernel) (by decide +kernel)) (wB_of 1039 (by decide +kernel) (by decide +kernel)) (wB_of 38 (by decide +kernel) (by decide +kernel)) (wB_of 70 (by decide +kernel) (by decide +kernel)) (wB_of 1040 (by decide +kernel) (by decide +kernel)), by decide +kernel⟩
theorem cw_X6_157 : cwf RX6 157 RX6 yX6_readBuffer cX6_readBuffer 2 (some .int) 0 := ⟨wB_V (wB_of 1033 (by decide +kernel) (by decide +kernel)) (wB_of 1035 (by decide +kernel) (by decide +kernel)) (wB_of 37 (by decide +kernel) (by decide +kernel)) (wB_of 70 (by decide +kernel) (by decide +kernel)) (wB_of 1036 (by decide +kernel) (by decide +kernel)), by decide +kernel⟩
theorem cw_X6_160 : cwf RX6 160 RX6 yX6_does cX6_does 6 (some .boolean) 1 := ⟨wB_V (wB_of 1061 (by decide +kernel) (by decide +kernel)) (wB_of 1063 (by decide +kernel) (by decide +kernel)) (wB_of 43 (by decide +kernel) (by decide +kernel)) (wB_of 70 (by decide +kernel) (by decide +kernel)) (wB_of 1064 (by decide +kernel) (by decide +kernel)), by decide +kernel⟩
theorem cw_X6_163 : cwf RX6 163 RX6 yX6_fee cX6_fee 2 (some .int) 1 := ⟨wB_V (wB_of 1081 (by decide +kernel) (by decide +kernel)) (wB_of 1083 (by decide +kernel) (by decide +kernel)) (wB_of 45 (by decide +kernel) (by decide +kernel)) (wB_of 70 (by decide +kernel) (by decide +kernel)) (wB_of 1084 (by decide +kernel) (by decide +kernel)), by decide +kernel⟩
theorem cw_X6_166 : cwf RX6 166 RX6 yX6_toldStall cX6_toldStall 3 (some .int) 2 := ⟨wB_V (wB_of 1077 (by decide +kernel) (by decide +kernel)) (wB_of 1079 (by decide +kernel) (by decide +kernel)) (wB_of 44 (by decide +kernel) (by decide +kernel)) (wB_of 70 (by decide +kernel) (by decide +kernel)) (wB_of 1080 (by decide +kernel) (by decide +kernel)), by decide +kernel⟩
theorem cw_X6_169 : cwf RX6 169 RX6 yX6_allLoads cX6_allLoads 4 (some .int) 1 := ⟨wB_V (wB_of 1093 (by decide +kernel) (by decide +kernel)) (wB_of 1095 (by decide +kernel) (by decide +kernel)) (wB_of 47 (by decide +kernel) (by decide +kernel)) (wB_of 70 (by decide +kernel) (by decide +kernel)) (wB_of 1096 (by decide +kernel) (by decide +kernel)), by decide +kernel⟩
theorem cw_X6_172 : cwf RX6 172 RX6 yX6_toldBreaker cX6_toldBreaker 3 (some .int) 2 := ⟨wB_V (wB_of 1089 (by decide +kernel) (by decide +kernel)) (wB_of 1091 (by decide +kernel) (by decide +kernel)) (wB_of 46 (by decide +kernel) (by decide +kernel)) (wB_of 70 (by decide +kernel) (by decide +kernel)) (wB_of 1092 (by decide +kernel) (by decide +kernel)), by decide +kernel⟩
theorem cw_X6_175 : cwf RX6 175 RX6 yX6_plugged cX6_plugged 3 (some .int) 0 := ⟨wB_V (wB_of 1109 (by decide +kernel) (by decide +kernel)) (wB_of 1111 (by decide +kernel) (by decide +kernel)) (wB_of 49 (by decide +kernel) (by decide +kernel)) (wB_of 70 (by decide +kernel) (by decide +kernel)) (wB_of 1112 (by decide +kernel) (by decide +kernel)), by decide +kernel⟩
theorem cw_X6_178 : cwf RX6 178 RX6 yX6_allBreakers cX6_allBreakers 4 (some .int) 1 := ⟨wB_V (wB_of 1113 (by decide +kernel) (by decide +kernel)) (wB_of 1115 (by decide +kernel) (by decide +kernel)) (wB_of 50 (by decide +kernel) (by decide +kernel)) (wB_of 70 (by decide +kernel) (by decide +kernel)) (wB_of 1116 (by decide +kernel) (by decide +kernel)), by decide +kernel⟩
theorem cw_X6_181 : cwf RX6 181 RX6 yX6_allStalls cX6_allStalls 4 (some .int) 1 := ⟨wB_V (wB_of 1117 (by decide +kernel) (by decide +kernel)) (wB_of 1119 (by decide +kernel) (by decide +kernel)) (wB_of 51 (by decide +kernel) (by decide +kernel)) (wB_of 70 (by decide +kernel) (by decide +kernel)) (wB_of 1120 (by decide +kernel) (by decide +kernel)), by decide +kernel⟩
theorem cw_X6_184 : cwf RX6 184 RX6 yX6_counted cX6_counted 2 (some .int) 1 := ⟨wB_V (wB_of 1105 (by decide +kernel) (by decide +kernel)) (wB_of 1107 (by decide +kernel) (by decide +kernel)) (wB_of 48 (by decide +kernel) (by decide +kernel)) (wB_of 70 (by decide +kernel) (by decide +kernel)) (wB_of 1108 (by decide +kernel) (by decide +kernel)), by decide +kernel⟩
theorem cw_X6_187 : cwf RX6 187 RX6 yX6_isTaken cX6_isTaken 3 (some .boolean) 2 := ⟨wB_V (wB_of 1133 (by decide +kernel) (by decide +kernel)) (wB_of 1135 (by decide +kernel) (by decide +kernel)) (wB_of 53 (by decide +kernel) (by decide +kernel)) (wB_of 70 (by decide +kernel) (by decide +kernel)) (wB_of 1136 (by decide +kernel) (by decide +kernel)), by decide +kernel⟩
theorem cw_X6_190 : cwf RX6 190 RX6 yX6_putAside cX6_putAside 2 (none : Option Jvm.ClassFile.FieldType) 0 := ⟨wB_V (wB_of 1137 (by decide +kernel) (by decide +kernel)) (wB_of 1139 (by decide +kernel) (by decide +kernel)) (wB_of 54 (by decide +kernel) (by decide +kernel)) (wB_of 70 (by decide +kernel) (by decide +kernel)) (wB_of 1140 (by decide +kernel) (by decide +kernel)), by decide +kernel⟩
theorem cw_X6_193 : cwf RX6 193 RX6 yX6_bringBack cX6_bringBack 2 (none : Option Jvm.ClassFile.FieldType) 0 := ⟨wB_V (wB_of 1141 (by decide +kernel) (by decide +kernel)) (wB_of 1143 (by decide +kernel) (by decide +kernel)) (wB_of 55 (by decide +kernel) (by decide +kernel)) (wB_of 70 (by decide +kernel) (by decide +kernel)) (wB_of 1144 (by decide +kernel) (by decide +kernel)), by decide +kernel⟩
theorem cw_X6_196 : cwf RX6 196 RX6 yX6_wouldPlug cX6_wouldPlug 8 (some .int) 4 := ⟨wB_V (wB_of 1129 (by decide +kernel) (by decide +kernel)) (wB_of 1131 (by decide +kernel) (by decide +kernel)) (wB_of 52 (by decide +kernel) (by decide +kernel)) (wB_of 70 (by decide +kernel) (by decide +kernel)) (wB_of 1132 (by decide +kernel) (by decide +kernel)), by decide +kernel⟩
theorem cw_X6_199 : cwf RX6 199 RX6 yX6_hoursToTrip cX6_hoursToTrip 3 (some .int) 1 := ⟨wB_V (wB_of 1149 (by decide +kernel) (by decide +kernel)) (wB_of 1151 (by decide +kernel) (by decide +kernel)) (wB_of 56 (by decide +kernel) (by decide +kernel)) (wB_of 70 (by decide +kernel) (by decide +kernel)) (wB_of 1152 (by decide +kernel) (by decide +kernel)), by decide +kernel⟩
theorem cw_X6_202 : cwf RX6 202 RX6 yX6_bestFor cX6_bestFor 9 (some .int) 1 := ⟨wB_V (wB_of 1157 (by decide +kernel) (by decide +kernel)) (wB_of 1159 (by decide +kernel) (by decide +kernel)) (wB_of 57 (by decide +kernel) (by decide +kernel)) (wB_of 70 (by decide +kernel) (by decide +kernel)) (wB_of 1160 (by decide +kernel) (by decide +kernel)), by decide +kernel⟩
theorem cw_X6_205 : cwf RX6 205 RX6 yX6_least cX6_least 5 (some .int) 1 := ⟨wB_V (wB_of 1165 (by decide +kernel) (by decide +kernel)) (wB_of 1167 (by decide +kernel) (by decide +kernel)) (wB_of 58 (by decide +kernel) (by decide +kernel)) (wB_of 70 (by decide +kernel) (by decide +kernel)) (wB_of 1168 (by decide +kernel) (by decide +kernel)), by decide +kernel⟩
theorem cw_X6_208 : cwf RX6 208 RX6 yX6_share cX6_share 2 (some .double) 0 := ⟨wB_V (wB_of 1173 (by decide +kernel) (by decide +kernel)) (wB_of 1175 (by decide +kernel) (by decide +kernel)) (wB_of 59 (by decide +kernel) (by decide +kernel)) (wB_of 70 (by decide +kernel) (by decide +kernel)) (wB_of 1176 (by decide +kernel) (by decide +kernel)), by decide +kernel⟩
theorem fl_X6_222 : Cond.fieldLink RX6 222 "MarketSocketsModel" "hash" "J" ∈ wB := wB_of 847 (by decide +kernel) (by decide +kernel)
theorem cw_X6_226 : cwf RX6 226 RX6 yX6_mix cX6_mix 3 (none : Option Jvm.ClassFile.FieldType) 1 := ⟨wB_V (wB_of 1182 (by decide +kernel) (by decide +kernel)) (wB_of 1184 (by decide +kernel) (by decide +kernel)) (wB_of 60 (by decide +kernel) (by decide +kernel)) (wB_of 70 (by decide +kernel) (by decide +kernel)) (wB_of 1185 (by decide +kernel) (by decide +kernel)), by decide +kernel⟩
theorem cw_X6_232 : cwf RX6 232 RX6 yX6_mixStall cX6_mixStall 3 (none : Option Jvm.ClassFile.FieldType) 1 := ⟨wB_V (wB_of 1187 (by decide +kernel) (by decide +kernel)) (wB_of 1189 (by decide +kernel) (by decide +kernel)) (wB_of 61 (by decide +kernel) (by decide +kernel)) (wB_of 70 (by decide +kernel) (by decide +kernel)) (wB_of 1190 (by decide +kernel) (by decide +kernel)), by decide +kernel⟩
theorem cw_X6_235 : cwf RX6 235 RX6 yX6_mixBreaker cX6_mixBreaker 3 (none : Option Jvm.ClassFile.FieldType) 1 := ⟨wB_V (wB_of 1191 (by decide +kernel) (by decide +kernel)) (wB_of 1193 (by decide +kernel) (by decide +kernel)) (wB_of 62 (by decide +kernel) (by decide +kernel)) (wB_of 70 (by decide +kernel) (by decide +kernel)) (wB_of 1194 (by decide +kernel) (by decide +kernel)), by decide +kernel⟩
theorem cw_X6_238 : cwg RX6 238 yX6_bitsOf cX6_bitsOf 6 (some .long) 1 := ⟨wB_S (wB_of 1195 (by decide +kernel) (by decide +kernel)) (wB_of 1196 (by decide +kernel) (by decide +kernel)) (wB_of 70 (by decide +kernel) (by decide +kernel)) (wB_of 1197 (by decide +kernel) (by decide +kernel)), by decide +kernel⟩
theorem fl_X0_9 : Cond.fieldLink RX0 9 "MarketSockets$Breaker" "bound" "I" ∈ wB := wB_of 161 (by decide +kernel) (by decide +kernel)
theorem fl_X0_15 : Cond.fieldLink RX0 15 "MarketSockets$Breaker" "isOn" "Z" ∈ wB := wB_of 163 (by decide +kernel) (by decide +kernel)
theorem fl_X0_19 : Cond.fieldLink RX0 19 "MarketSockets$Breaker" "heat" "I" ∈ wB := wB_of 166 (by decide +kernel) (by decide +kernel)
theorem fl_X0_22 : Cond.fieldLink RX0 22 "MarketSockets$Breaker" "carried" "I" ∈ wB := wB_of 174 (by decide +kernel) (by decide +kernel)
theorem cw_X0_25 : cwf RX0 25 RX0 yX0_carriesTooMuch cX0_carriesTooMuch 1 (some .boolean) 0 := ⟨wB_V (wB_of 557 (by decide +kernel) (by decide +kernel)) (wB_of 546 (by decide +kernel) (by decide +kernel)) (wB_of 547 (by decide +kernel) (by decide +kernel)) (wB_of 67 (by decide +kernel) (by decide +kernel)) (wB_of 548 (by decide +kernel) (by decide +kernel)), by decide +kernel⟩
theorem fl_X0_35 : Cond.fieldLink RX0 35 "MarketSockets$Breaker" "trips" "I" ∈ wB := wB_of 168 (by decide +kernel) (by decide +kernel)
theorem fl_X0_38 : Cond.fieldLink RX0 38 "MarketSockets$Breaker" "through" "I" ∈ wB := wB_of 171 (by decide +kernel) (by decide +kernel)
theorem fl_X1_11 : Cond.fieldLink RX1 11 "MarketSockets$History" "rows" "[LMarketSockets$Market;" ∈ wB := wB_of 231 (by decide +kernel) (by decide +kernel)
theorem fl_X1_18 : Cond.fieldLink RX1 18 "MarketSockets$History" "next" "I" ∈ wB := wB_of 232 (by decide +kernel) (by decide +kernel)
theorem cw_X1_22 : cwf RX1 22 RX2 yX2_copyFrom cX2_copyFrom 3 (none : Option Jvm.ClassFile.FieldType) 1 := ⟨wB_V (wB_of 653 (by decide +kernel) (by decide +kernel)) (wB_of 511 (by decide +kernel) (by decide +kernel)) (wB_of 512 (by decide +kernel) (by decide +kernel)) (wB_of 65 (by decide +kernel) (by decide +kernel)) (wB_of 513 (by decide +kernel) (by decide +kernel)), by decide +kernel⟩
theorem fl_X1_26 : Cond.fieldLink RX1 26 "MarketSockets$History" "size" "I" ∈ wB := wB_of 233 (by decide +kernel) (by decide +kernel)
theorem fl_X2_11 : Cond.fieldLink RX2 11 "MarketSockets$Market" "stalls" "[LMarketSockets$Stall;" ∈ wB := wB_of 189 (by decide +kernel) (by decide +kernel)
theorem fl_X2_19 : Cond.fieldLink RX2 19 "MarketSockets$Market" "breakers" "[LMarketSockets$Breaker;" ∈ wB := wB_of 193 (by decide +kernel) (by decide +kernel)
theorem fl_X2_23 : Cond.fieldLink RX2 23 "MarketSockets$Market" "isOver" "[Z" ∈ wB := wB_of 195 (by decide +kernel) (by decide +kernel)
theorem fl_X2_36 : Cond.fieldLink RX2 36 "MarketSockets$Market" "settings" "[I" ∈ wB := wB_of 197 (by decide +kernel) (by decide +kernel)
theorem fl_X2_41 : Cond.fieldLink RX2 41 "MarketSockets$Market" "stallCount" "I" ∈ wB := wB_of 191 (by decide +kernel) (by decide +kernel)
theorem cw_X2_45 : cwf RX2 45 RX4 yX4_copyFrom cX4_copyFrom 2 (none : Option Jvm.ClassFile.FieldType) 1 := ⟨wB_V (wB_of 514 (by decide +kernel) (by decide +kernel)) (wB_of 515 (by decide +kernel) (by decide +kernel)) (wB_of 516 (by decide +kernel) (by decide +kernel)) (wB_of 66 (by decide +kernel) (by decide +kernel)) (wB_of 517 (by decide +kernel) (by decide +kernel)), by decide +kernel⟩
theorem cw_X2_49 : cwf RX2 49 RX0 yX0_copyFrom cX0_copyFrom 2 (none : Option Jvm.ClassFile.FieldType) 1 := ⟨wB_V (wB_of 518 (by decide +kernel) (by decide +kernel)) (wB_of 519 (by decide +kernel) (by decide +kernel)) (wB_of 520 (by decide +kernel) (by decide +kernel)) (wB_of 67 (by decide +kernel) (by decide +kernel)) (wB_of 521 (by decide +kernel) (by decide +kernel)), by decide +kernel⟩
theorem fl_X2_58 : Cond.fieldLink RX2 58 "MarketSockets$Market" "hour" "I" ∈ wB := wB_of 199 (by decide +kernel) (by decide +kernel)
theorem fl_X2_61 : Cond.fieldLink RX2 61 "MarketSockets$Market" "servedHours" "I" ∈ wB := wB_of 201 (by decide +kernel) (by decide +kernel)
theorem fl_X2_64 : Cond.fieldLink RX2 64 "MarketSockets$Market" "shedByRank" "I" ∈ wB := wB_of 203 (by decide +kernel) (by decide +kernel)
theorem cw_X2_67 : cwf RX2 67 RX4 yX4_begin cX4_begin 5 (none : Option Jvm.ClassFile.FieldType) 4 := ⟨wB_V (wB_of 661 (by decide +kernel) (by decide +kernel)) (wB_of 662 (by decide +kernel) (by decide +kernel)) (wB_of 663 (by decide +kernel) (by decide +kernel)) (wB_of 66 (by decide +kernel) (by decide +kernel)) (wB_of 664 (by decide +kernel) (by decide +kernel)), by decide +kernel⟩
theorem fl_X2_71 : Cond.fieldLink RX2 71 "MarketSockets$Stall" "socket" "I" ∈ wB := wB_of 123 (by decide +kernel) (by decide +kernel)
theorem cw_X2_74 : cwf RX2 74 RX2 yX2_goOneHour cX2_goOneHour 2 (none : Option Jvm.ClassFile.FieldType) 0 := ⟨wB_V (wB_of 533 (by decide +kernel) (by decide +kernel)) (wB_of 534 (by decide +kernel) (by decide +kernel)) (wB_of 535 (by decide +kernel) (by decide +kernel)) (wB_of 65 (by decide +kernel) (by decide +kernel)) (wB_of 536 (by decide +kernel) (by decide +kernel)), by decide +kernel⟩
theorem cw_X2_77 : cwf RX2 77 RX2 yX2_findSources cX2_findSources 3 (none : Option Jvm.ClassFile.FieldType) 0 := ⟨wB_V (wB_of 537 (by decide +kernel) (by decide +kernel)) (wB_of 539 (by decide +kernel) (by decide +kernel)) (wB_of 6 (by decide +kernel) (by decide +kernel)) (wB_of 65 (by decide +kernel) (by decide +kernel)) (wB_of 540 (by decide +kernel) (by decide +kernel)), by decide +kernel⟩
theorem cw_X2_80 : cwf RX2 80 RX2 yX2_shedTooMuch cX2_shedTooMuch 5 (none : Option Jvm.ClassFile.FieldType) 1 := ⟨wB_V (wB_of 541 (by decide +kernel) (by decide +kernel)) (wB_of 543 (by decide +kernel) (by decide +kernel)) (wB_of 7 (by decide +kernel) (by decide +kernel)) (wB_of 65 (by decide +kernel) (by decide +kernel)) (wB_of 544 (by decide +kernel) (by decide +kernel)), by decide +kernel⟩
theorem cw_X2_84 : cwf RX2 84 RX0 yX0_heatOrCool cX0_heatOrCool 2 (none : Option Jvm.ClassFile.FieldType) 1 := ⟨wB_V (wB_of 553 (by decide +kernel) (by decide +kernel)) (wB_of 554 (by decide +kernel) (by decide +kernel)) (wB_of 555 (by decide +kernel) (by decide +kernel)) (wB_of 67 (by decide +kernel) (by decide +kernel)) (wB_of 556 (by decide +kernel) (by decide +kernel)), by decide +kernel⟩
theorem cw_X2_87 : cwf RX2 87 RX2 yX2_runMeters cX2_runMeters 4 (none : Option Jvm.ClassFile.FieldType) 0 := ⟨wB_V (wB_of 561 (by decide +kernel) (by decide +kernel)) (wB_of 563 (by decide +kernel) (by decide +kernel)) (wB_of 9 (by decide +kernel) (by decide +kernel)) (wB_of 65 (by decide +kernel) (by decide +kernel)) (wB_of 564 (by decide +kernel) (by decide +kernel)), by decide +kernel⟩
theorem cw_X2_90 : cwf RX2 90 RX0 yX0_tripIfHot cX0_tripIfHot 1 (none : Option Jvm.ClassFile.FieldType) 0 := ⟨wB_V (wB_of 565 (by decide +kernel) (by decide +kernel)) (wB_of 566 (by decide +kernel) (by decide +kernel)) (wB_of 567 (by decide +kernel) (by decide +kernel)) (wB_of 67 (by decide +kernel) (by decide +kernel)) (wB_of 568 (by decide +kernel) (by decide +kernel)), by decide +kernel⟩
theorem fl_X2_93 : Cond.fieldLink RX2 93 "MarketSockets$Breaker" "carried" "I" ∈ wB := wB_of 175 (by decide +kernel) (by decide +kernel)
theorem cw_X2_96 : cwf RX2 96 RX2 yX2_sourceOf cX2_sourceOf 3 (some .int) 1 := ⟨wB_V (wB_of 417 (by decide +kernel) (by decide +kernel)) (wB_of 418 (by decide +kernel) (by decide +kernel)) (wB_of 419 (by decide +kernel) (by decide +kernel)) (wB_of 65 (by decide +kernel) (by decide +kernel)) (wB_of 420 (by decide +kernel) (by decide +kernel)), by decide +kernel⟩
theorem fl_X2_100 : Cond.fieldLink RX2 100 "MarketSockets$Stall" "source" "I" ∈ wB := wB_of 134 (by decide +kernel) (by decide +kernel)
theorem fl_X2_103 : Cond.fieldLink RX2 103 "MarketSockets$Stall" "load" "I" ∈ wB := wB_of 112 (by decide +kernel) (by decide +kernel)
theorem cw_X2_106 : cwf RX2 106 RX0 yX0_carriesTooMuch cX0_carriesTooMuch 1 (some .boolean) 0 := ⟨wB_V (wB_of 545 (by decide +kernel) (by decide +kernel)) (wB_of 546 (by decide +kernel) (by decide +kernel)) (wB_of 547 (by decide +kernel) (by decide +kernel)) (wB_of 67 (by decide +kernel) (by decide +kernel)) (wB_of 548 (by decide +kernel) (by decide +kernel)), by decide +kernel⟩
theorem cw_X2_110 : cwf RX2 110 RX2 yX2_firstToShed cX2_firstToShed 7 (some .int) 1 := ⟨wB_V (wB_of 549 (by decide +kernel) (by decide +kernel)) (wB_of 551 (by decide +kernel) (by decide +kernel)) (wB_of 8 (by decide +kernel) (by decide +kernel)) (wB_of 65 (by decide +kernel) (by decide +kernel)) (wB_of 552 (by decide +kernel) (by decide +kernel)), by decide +kernel⟩
theorem fl_X2_114 : Cond.fieldLink RX2 114 "MarketSockets$Stall" "isShed" "Z" ∈ wB := wB_of 126 (by decide +kernel) (by decide +kernel)
theorem fl_X2_118 : Cond.fieldLink RX2 118 "MarketSockets$Stall" "rank" "I" ∈ wB := wB_of 119 (by decide +kernel) (by decide +kernel)
theorem fl_X2_121 : Cond.fieldLink RX2 121 "MarketSockets$Stall" "meter" "I" ∈ wB := wB_of 128 (by decide +kernel) (by decide +kernel)
theorem fl_X2_124 : Cond.fieldLink RX2 124 "MarketSockets$Breaker" "through" "I" ∈ wB := wB_of 172 (by decide +kernel) (by decide +kernel)
theorem cw_X2_127 : cwf RX2 127 RX4 yX4_wantsAt cX4_wantsAt 2 (some .boolean) 1 := ⟨wB_V (wB_of 425 (by decide +kernel) (by decide +kernel)) (wB_of 426 (by decide +kernel) (by decide +kernel)) (wB_of 427 (by decide +kernel) (by decide +kernel)) (wB_of 66 (by decide +kernel) (by decide +kernel)) (wB_of 428 (by decide +kernel) (by decide +kernel)), by decide +kernel⟩
theorem fl_X2_131 : Cond.fieldLink RX2 131 "MarketSockets$Stall" "darkHours" "I" ∈ wB := wB_of 131 (by decide +kernel) (by decide +kernel)
theorem cw_X2_134 : cwf RX2 134 RX2 yX2_breakerOf cX2_breakerOf 2 (some .int) 1 := ⟨wB_V (wB_of 421 (by decide +kernel) (by decide +kernel)) (wB_of 422 (by decide +kernel) (by decide +kernel)) (wB_of 423 (by decide +kernel) (by decide +kernel)) (wB_of 65 (by decide +kernel) (by decide +kernel)) (wB_of 424 (by decide +kernel) (by decide +kernel)), by decide +kernel⟩
theorem fl_X2_137 : Cond.fieldLink RX2 137 "MarketSockets$Breaker" "isOn" "Z" ∈ wB := wB_of 165 (by decide +kernel) (by decide +kernel)
theorem cw_X2_140 : cwf RX2 140 RX2 yX2_drawersOn cX2_drawersOn 4 (some .int) 1 := ⟨wB_V (wB_of 413 (by decide +kernel) (by decide +kernel)) (wB_of 414 (by decide +kernel) (by decide +kernel)) (wB_of 415 (by decide +kernel) (by decide +kernel)) (wB_of 65 (by decide +kernel) (by decide +kernel)) (wB_of 416 (by decide +kernel) (by decide +kernel)), by decide +kernel⟩
theorem fl_X2_143 : Cond.fieldLink RX2 143 "MarketSockets$Breaker" "trips" "I" ∈ wB := wB_of 170 (by decide +kernel) (by decide +kernel)
theorem cw_X2_146 : cwf RX2 146 RX2 yX2_feeOf cX2_feeOf 2 (some .int) 1 := ⟨wB_V (wB_of 449 (by decide +kernel) (by decide +kernel)) (wB_of 450 (by decide +kernel) (by decide +kernel)) (wB_of 451 (by decide +kernel) (by decide +kernel)) (wB_of 65 (by decide +kernel) (by decide +kernel)) (wB_of 452 (by decide +kernel) (by decide +kernel)), by decide +kernel⟩
theorem fl_X3_9 : Cond.fieldLink RX3 9 "MarketSockets$PlanText" "signs" "[C" ∈ wB := wB_of 248 (by decide +kernel) (by decide +kernel)
theorem fl_X3_15 : Cond.fieldLink RX3 15 "MarketSockets$PlanText" "numbers" "[I" ∈ wB := wB_of 256 (by decide +kernel) (by decide +kernel)
theorem fl_X3_19 : Cond.fieldLink RX3 19 "MarketSockets$PlanText" "at" "I" ∈ wB := wB_of 252 (by decide +kernel) (by decide +kernel)
theorem cw_X3_23 : cwf RX3 23 RX3 yX3_readOrder cX3_readOrder 1 (some .boolean) 0 := ⟨wB_V (wB_of 301 (by decide +kernel) (by decide +kernel)) (wB_of 302 (by decide +kernel) (by decide +kernel)) (wB_of 303 (by decide +kernel) (by decide +kernel)) (wB_of 69 (by decide +kernel) (by decide +kernel)) (wB_of 304 (by decide +kernel) (by decide +kernel)), by decide +kernel⟩
theorem fl_X3_27 : Cond.fieldLink RX3 27 "MarketSockets$PlanText" "length" "I" ∈ wB := wB_of 250 (by decide +kernel) (by decide +kernel)
theorem cw_X3_30 : cwf RX3 30 RX3 yX3_readSign cX3_readSign 2 (some .boolean) 1 := ⟨wB_V (wB_of 305 (by decide +kernel) (by decide +kernel)) (wB_of 306 (by decide +kernel) (by decide +kernel)) (wB_of 307 (by decide +kernel) (by decide +kernel)) (wB_of 69 (by decide +kernel) (by decide +kernel)) (wB_of 308 (by decide +kernel) (by decide +kernel)), by decide +kernel⟩
theorem fl_X3_34 : Cond.fieldLink RX3 34 "MarketSockets$PlanText" "kind" "C" ∈ wB := wB_of 254 (by decide +kernel) (by decide +kernel)
theorem cw_X3_38 : cwf RX3 38 RX3 yX3_readNumber cX3_readNumber 6 (some .boolean) 3 := ⟨wB_V (wB_of 309 (by decide +kernel) (by decide +kernel)) (wB_of 311 (by decide +kernel) (by decide +kernel)) (wB_of 0 (by decide +kernel) (by decide +kernel)) (wB_of 69 (by decide +kernel) (by decide +kernel)) (wB_of 312 (by decide +kernel) (by decide +kernel)), by decide +kernel⟩
theorem cw_X3_42 : cwf RX3 42 RX3 yX3_digitAt cX3_digitAt 2 (some .int) 1 := ⟨wB_V (wB_of 313 (by decide +kernel) (by decide +kernel)) (wB_of 315 (by decide +kernel) (by decide +kernel)) (wB_of 1 (by decide +kernel) (by decide +kernel)) (wB_of 69 (by decide +kernel) (by decide +kernel)) (wB_of 316 (by decide +kernel) (by decide +kernel)), by decide +kernel⟩
theorem fl_X4_9 : Cond.fieldLink RX4 9 "MarketSockets$Stall" "socket" "I" ∈ wB := wB_of 121 (by decide +kernel) (by decide +kernel)
theorem fl_X4_15 : Cond.fieldLink RX4 15 "MarketSockets$Stall" "source" "I" ∈ wB := wB_of 133 (by decide +kernel) (by decide +kernel)
theorem fl_X4_18 : Cond.fieldLink RX4 18 "MarketSockets$Stall" "to" "I" ∈ wB := wB_of 116 (by decide +kernel) (by decide +kernel)
theorem fl_X4_21 : Cond.fieldLink RX4 21 "MarketSockets$Stall" "from" "I" ∈ wB := wB_of 114 (by decide +kernel) (by decide +kernel)
theorem fl_X4_24 : Cond.fieldLink RX4 24 "MarketSockets$Stall" "load" "I" ∈ wB := wB_of 111 (by decide +kernel) (by decide +kernel)
theorem fl_X4_27 : Cond.fieldLink RX4 27 "MarketSockets$Stall" "rank" "I" ∈ wB := wB_of 118 (by decide +kernel) (by decide +kernel)
theorem fl_X4_30 : Cond.fieldLink RX4 30 "MarketSockets$Stall" "isShed" "Z" ∈ wB := wB_of 124 (by decide +kernel) (by decide +kernel)
theorem fl_X4_34 : Cond.fieldLink RX4 34 "MarketSockets$Stall" "meter" "I" ∈ wB := wB_of 127 (by decide +kernel) (by decide +kernel)
theorem fl_X4_37 : Cond.fieldLink RX4 37 "MarketSockets$Stall" "darkHours" "I" ∈ wB := wB_of 130 (by decide +kernel) (by decide +kernel)
theorem cw_L_7 : cwf RL 7 RX5 yX5_stall cX5_stall 5 (some .int) 4 := ⟨wB_V (wB_of 623 (by decide +kernel) (by decide +kernel)) (wB_of 624 (by decide +kernel) (by decide +kernel)) (wB_of 625 (by decide +kernel) (by decide +kernel)) (wB_of 64 (by decide +kernel) (by decide +kernel)) (wB_of 626 (by decide +kernel) (by decide +kernel)), by decide +kernel⟩
theorem cw_L_17 : cwf RL 17 RX5 yX5_plug cX5_plug 3 (some .int) 2 := ⟨wB_V (wB_of 669 (by decide +kernel) (by decide +kernel)) (wB_of 670 (by decide +kernel) (by decide +kernel)) (wB_of 671 (by decide +kernel) (by decide +kernel)) (wB_of 64 (by decide +kernel) (by decide +kernel)) (wB_of 672 (by decide +kernel) (by decide +kernel)), by decide +kernel⟩
theorem cw_L_23 : cwf RL 23 RX5 yX5_pull cX5_pull 2 (some .int) 1 := ⟨wB_V (wB_of 677 (by decide +kernel) (by decide +kernel)) (wB_of 678 (by decide +kernel) (by decide +kernel)) (wB_of 679 (by decide +kernel) (by decide +kernel)) (wB_of 64 (by decide +kernel) (by decide +kernel)) (wB_of 680 (by decide +kernel) (by decide +kernel)), by decide +kernel⟩
theorem cw_L_27 : cwf RL 27 RX5 yX5_shed cX5_shed 3 (some .int) 1 := ⟨wB_V (wB_of 685 (by decide +kernel) (by decide +kernel)) (wB_of 686 (by decide +kernel) (by decide +kernel)) (wB_of 687 (by decide +kernel) (by decide +kernel)) (wB_of 64 (by decide +kernel) (by decide +kernel)) (wB_of 688 (by decide +kernel) (by decide +kernel)), by decide +kernel⟩
theorem cw_L_30 : cwf RL 30 RX5 yX5_bound cX5_bound 5 (some .int) 2 := ⟨wB_V (wB_of 692 (by decide +kernel) (by decide +kernel)) (wB_of 693 (by decide +kernel) (by decide +kernel)) (wB_of 694 (by decide +kernel) (by decide +kernel)) (wB_of 64 (by decide +kernel) (by decide +kernel)) (wB_of 695 (by decide +kernel) (by decide +kernel)), by decide +kernel⟩
theorem cw_L_33 : cwf RL 33 RX5 yX5_reset cX5_reset 2 (some .int) 1 := ⟨wB_V (wB_of 699 (by decide +kernel) (by decide +kernel)) (wB_of 700 (by decide +kernel) (by decide +kernel)) (wB_of 701 (by decide +kernel) (by decide +kernel)) (wB_of 64 (by decide +kernel) (by decide +kernel)) (wB_of 702 (by decide +kernel) (by decide +kernel)), by decide +kernel⟩
theorem cw_L_36 : cwf RL 36 RX5 yX5_over cX5_over 2 (some .int) 1 := ⟨wB_V (wB_of 708 (by decide +kernel) (by decide +kernel)) (wB_of 709 (by decide +kernel) (by decide +kernel)) (wB_of 710 (by decide +kernel) (by decide +kernel)) (wB_of 64 (by decide +kernel) (by decide +kernel)) (wB_of 711 (by decide +kernel) (by decide +kernel)), by decide +kernel⟩
theorem cw_L_39 : cwf RL 39 RX5 yX5_pass cX5_pass 3 (some .int) 1 := ⟨wB_V (wB_of 715 (by decide +kernel) (by decide +kernel)) (wB_of 716 (by decide +kernel) (by decide +kernel)) (wB_of 717 (by decide +kernel) (by decide +kernel)) (wB_of 64 (by decide +kernel) (by decide +kernel)) (wB_of 718 (by decide +kernel) (by decide +kernel)), by decide +kernel⟩
theorem cw_L_42 : cwf RL 42 RX5 yX5_set cX5_set 4 (some .int) 2 := ⟨wB_V (wB_of 727 (by decide +kernel) (by decide +kernel)) (wB_of 728 (by decide +kernel) (by decide +kernel)) (wB_of 729 (by decide +kernel) (by decide +kernel)) (wB_of 64 (by decide +kernel) (by decide +kernel)) (wB_of 730 (by decide +kernel) (by decide +kernel)), by decide +kernel⟩
theorem cw_L_45 : cwf RL 45 RX5 yX5_append cX5_append 2 (some .int) 1 := ⟨wB_V (wB_of 738 (by decide +kernel) (by decide +kernel)) (wB_of 739 (by decide +kernel) (by decide +kernel)) (wB_of 740 (by decide +kernel) (by decide +kernel)) (wB_of 64 (by decide +kernel) (by decide +kernel)) (wB_of 741 (by decide +kernel) (by decide +kernel)), by decide +kernel⟩
theorem cw_L_48 : cwf RL 48 RX5 yX5_open cX5_open 2 (some .int) 0 := ⟨wB_V (wB_of 746 (by decide +kernel) (by decide +kernel)) (wB_of 747 (by decide +kernel) (by decide +kernel)) (wB_of 748 (by decide +kernel) (by decide +kernel)) (wB_of 64 (by decide +kernel) (by decide +kernel)) (wB_of 749 (by decide +kernel) (by decide +kernel)), by decide +kernel⟩
theorem cw_L_52 : cwf RL 52 RX5 yX5_keep cX5_keep 2 (some .int) 1 := ⟨wB_V (wB_of 764 (by decide +kernel) (by decide +kernel)) (wB_of 765 (by decide +kernel) (by decide +kernel)) (wB_of 766 (by decide +kernel) (by decide +kernel)) (wB_of 64 (by decide +kernel) (by decide +kernel)) (wB_of 767 (by decide +kernel) (by decide +kernel)), by decide +kernel⟩
theorem cw_L_55 : cwf RL 55 RX5 yX5_goBack cX5_goBack 2 (some .int) 1 := ⟨wB_V (wB_of 771 (by decide +kernel) (by decide +kernel)) (wB_of 772 (by decide +kernel) (by decide +kernel)) (wB_of 773 (by decide +kernel) (by decide +kernel)) (wB_of 64 (by decide +kernel) (by decide +kernel)) (wB_of 774 (by decide +kernel) (by decide +kernel)), by decide +kernel⟩
theorem cw_L_58 : cwf RL 58 RX5 yX5_undo cX5_undo 1 (some .int) 0 := ⟨wB_V (wB_of 779 (by decide +kernel) (by decide +kernel)) (wB_of 780 (by decide +kernel) (by decide +kernel)) (wB_of 781 (by decide +kernel) (by decide +kernel)) (wB_of 64 (by decide +kernel) (by decide +kernel)) (wB_of 782 (by decide +kernel) (by decide +kernel)), by decide +kernel⟩
theorem cw_L_61 : cwf RL 61 RX5 yX5_stallOf cX5_stallOf 4 (some .int) 2 := ⟨wB_V (wB_of 791 (by decide +kernel) (by decide +kernel)) (wB_of 481 (by decide +kernel) (by decide +kernel)) (wB_of 482 (by decide +kernel) (by decide +kernel)) (wB_of 64 (by decide +kernel) (by decide +kernel)) (wB_of 483 (by decide +kernel) (by decide +kernel)), by decide +kernel⟩
theorem cw_L_64 : cwf RL 64 RX5 yX5_breaker cX5_breaker 4 (some .int) 2 := ⟨wB_V (wB_of 795 (by decide +kernel) (by decide +kernel)) (wB_of 575 (by decide +kernel) (by decide +kernel)) (wB_of 576 (by decide +kernel) (by decide +kernel)) (wB_of 64 (by decide +kernel) (by decide +kernel)) (wB_of 577 (by decide +kernel) (by decide +kernel)), by decide +kernel⟩
theorem cw_L_67 : cwf RL 67 RX5 yX5_socket cX5_socket 3 (some .int) 2 := ⟨wB_V (wB_of 799 (by decide +kernel) (by decide +kernel)) (wB_of 592 (by decide +kernel) (by decide +kernel)) (wB_of 593 (by decide +kernel) (by decide +kernel)) (wB_of 64 (by decide +kernel) (by decide +kernel)) (wB_of 594 (by decide +kernel) (by decide +kernel)), by decide +kernel⟩
theorem cw_L_70 : cwf RL 70 RX5 yX5_count cX5_count 2 (some .int) 1 := ⟨wB_V (wB_of 803 (by decide +kernel) (by decide +kernel)) (wB_of 331 (by decide +kernel) (by decide +kernel)) (wB_of 332 (by decide +kernel) (by decide +kernel)) (wB_of 64 (by decide +kernel) (by decide +kernel)) (wB_of 333 (by decide +kernel) (by decide +kernel)), by decide +kernel⟩
theorem cw_L_73 : cwf RL 73 RX5 yX5_setting cX5_setting 2 (some .int) 1 := ⟨wB_V (wB_of 807 (by decide +kernel) (by decide +kernel)) (wB_of 458 (by decide +kernel) (by decide +kernel)) (wB_of 459 (by decide +kernel) (by decide +kernel)) (wB_of 64 (by decide +kernel) (by decide +kernel)) (wB_of 460 (by decide +kernel) (by decide +kernel)), by decide +kernel⟩
theorem cw_L_76 : cwf RL 76 RX5 yX5_ifPlugged cX5_ifPlugged 5 (some .int) 4 := ⟨wB_V (wB_of 811 (by decide +kernel) (by decide +kernel)) (wB_of 495 (by decide +kernel) (by decide +kernel)) (wB_of 496 (by decide +kernel) (by decide +kernel)) (wB_of 64 (by decide +kernel) (by decide +kernel)) (wB_of 497 (by decide +kernel) (by decide +kernel)), by decide +kernel⟩
theorem cw_L_79 : cwf RL 79 RX5 yX5_tripsIn cX5_tripsIn 3 (some .int) 1 := ⟨wB_V (wB_of 815 (by decide +kernel) (by decide +kernel)) (wB_of 587 (by decide +kernel) (by decide +kernel)) (wB_of 588 (by decide +kernel) (by decide +kernel)) (wB_of 64 (by decide +kernel) (by decide +kernel)) (wB_of 589 (by decide +kernel) (by decide +kernel)), by decide +kernel⟩
theorem cw_L_82 : cwf RL 82 RX5 yX5_bestSocket cX5_bestSocket 10 (some .int) 1 := ⟨wB_V (wB_of 819 (by decide +kernel) (by decide +kernel)) (wB_of 570 (by decide +kernel) (by decide +kernel)) (wB_of 571 (by decide +kernel) (by decide +kernel)) (wB_of 64 (by decide +kernel) (by decide +kernel)) (wB_of 572 (by decide +kernel) (by decide +kernel)), by decide +kernel⟩
theorem cw_L_85 : cwf RL 85 RX5 yX5_leastBound cX5_leastBound 4 (some .int) 1 := ⟨wB_V (wB_of 823 (by decide +kernel) (by decide +kernel)) (wB_of 596 (by decide +kernel) (by decide +kernel)) (wB_of 597 (by decide +kernel) (by decide +kernel)) (wB_of 64 (by decide +kernel) (by decide +kernel)) (wB_of 598 (by decide +kernel) (by decide +kernel)), by decide +kernel⟩
theorem cw_L_97 : cwf RL 97 RX6 yX6_stall cX6_stall 6 (some .int) 4 := ⟨wB_V (wB_of 885 (by decide +kernel) (by decide +kernel)) (wB_of 886 (by decide +kernel) (by decide +kernel)) (wB_of 887 (by decide +kernel) (by decide +kernel)) (wB_of 70 (by decide +kernel) (by decide +kernel)) (wB_of 888 (by decide +kernel) (by decide +kernel)), by decide +kernel⟩
theorem cw_L_98 : cwf RL 98 RX6 yX6_thrown cX6_thrown 1 (some .int) 0 := ⟨wB_V (wB_of 877 (by decide +kernel) (by decide +kernel)) (wB_of 878 (by decide +kernel) (by decide +kernel)) (wB_of 879 (by decide +kernel) (by decide +kernel)) (wB_of 70 (by decide +kernel) (by decide +kernel)) (wB_of 880 (by decide +kernel) (by decide +kernel)), by decide +kernel⟩
theorem cw_L_104 : cwf RL 104 RX6 yX6_plug cX6_plug 4 (some .int) 2 := ⟨wB_V (wB_of 904 (by decide +kernel) (by decide +kernel)) (wB_of 905 (by decide +kernel) (by decide +kernel)) (wB_of 906 (by decide +kernel) (by decide +kernel)) (wB_of 70 (by decide +kernel) (by decide +kernel)) (wB_of 907 (by decide +kernel) (by decide +kernel)), by decide +kernel⟩
theorem cw_L_108 : cwf RL 108 RX6 yX6_pull cX6_pull 3 (some .int) 1 := ⟨wB_V (wB_of 927 (by decide +kernel) (by decide +kernel)) (wB_of 928 (by decide +kernel) (by decide +kernel)) (wB_of 929 (by decide +kernel) (by decide +kernel)) (wB_of 70 (by decide +kernel) (by decide +kernel)) (wB_of 930 (by decide +kernel) (by decide +kernel)), by decide +kernel⟩
theorem cw_L_111 : cwf RL 111 RX6 yX6_shed cX6_shed 2 (some .int) 1 := ⟨wB_V (wB_of 931 (by decide +kernel) (by decide +kernel)) (wB_of 932 (by decide +kernel) (by decide +kernel)) (wB_of 933 (by decide +kernel) (by decide +kernel)) (wB_of 70 (by decide +kernel) (by decide +kernel)) (wB_of 934 (by decide +kernel) (by decide +kernel)), by decide +kernel⟩
theorem cw_L_114 : cwf RL 114 RX6 yX6_bound cX6_bound 4 (some .int) 2 := ⟨wB_V (wB_of 935 (by decide +kernel) (by decide +kernel)) (wB_of 936 (by decide +kernel) (by decide +kernel)) (wB_of 937 (by decide +kernel) (by decide +kernel)) (wB_of 70 (by decide +kernel) (by decide +kernel)) (wB_of 938 (by decide +kernel) (by decide +kernel)), by decide +kernel⟩
theorem cw_L_117 : cwf RL 117 RX6 yX6_reset cX6_reset 2 (some .int) 1 := ⟨wB_V (wB_of 946 (by decide +kernel) (by decide +kernel)) (wB_of 947 (by decide +kernel) (by decide +kernel)) (wB_of 948 (by decide +kernel) (by decide +kernel)) (wB_of 70 (by decide +kernel) (by decide +kernel)) (wB_of 949 (by decide +kernel) (by decide +kernel)), by decide +kernel⟩
theorem cw_L_120 : cwf RL 120 RX6 yX6_over cX6_over 2 (some .int) 1 := ⟨wB_V (wB_of 974 (by decide +kernel) (by decide +kernel)) (wB_of 975 (by decide +kernel) (by decide +kernel)) (wB_of 976 (by decide +kernel) (by decide +kernel)) (wB_of 70 (by decide +kernel) (by decide +kernel)) (wB_of 977 (by decide +kernel) (by decide +kernel)), by decide +kernel⟩
theorem cw_L_123 : cwf RL 123 RX6 yX6_pass cX6_pass 2 (some .int) 1 := ⟨wB_V (wB_of 978 (by decide +kernel) (by decide +kernel)) (wB_of 979 (by decide +kernel) (by decide +kernel)) (wB_of 980 (by decide +kernel) (by decide +kernel)) (wB_of 70 (by decide +kernel) (by decide +kernel)) (wB_of 981 (by decide +kernel) (by decide +kernel)), by decide +kernel⟩
theorem cw_L_126 : cwf RL 126 RX6 yX6_set cX6_set 4 (some .int) 2 := ⟨wB_V (wB_of 1014 (by decide +kernel) (by decide +kernel)) (wB_of 1015 (by decide +kernel) (by decide +kernel)) (wB_of 1016 (by decide +kernel) (by decide +kernel)) (wB_of 70 (by decide +kernel) (by decide +kernel)) (wB_of 1017 (by decide +kernel) (by decide +kernel)), by decide +kernel⟩
theorem cw_L_129 : cwf RL 129 RX6 yX6_append cX6_append 2 (some .int) 1 := ⟨wB_V (wB_of 1021 (by decide +kernel) (by decide +kernel)) (wB_of 1022 (by decide +kernel) (by decide +kernel)) (wB_of 1023 (by decide +kernel) (by decide +kernel)) (wB_of 70 (by decide +kernel) (by decide +kernel)) (wB_of 1024 (by decide +kernel) (by decide +kernel)), by decide +kernel⟩
theorem cw_L_130 : cwf RL 130 RX5 yX5_clearBuffer cX5_clearBuffer 2 (some .int) 0 := ⟨wB_V (wB_of 289 (by decide +kernel) (by decide +kernel)) (wB_of 290 (by decide +kernel) (by decide +kernel)) (wB_of 291 (by decide +kernel) (by decide +kernel)) (wB_of 64 (by decide +kernel) (by decide +kernel)) (wB_of 292 (by decide +kernel) (by decide +kernel)), by decide +kernel⟩
theorem cw_L_133 : cwf RL 133 RX6 yX6_clearBuffer cX6_clearBuffer 2 (some .int) 0 := ⟨wB_V (wB_of 1025 (by decide +kernel) (by decide +kernel)) (wB_of 1026 (by decide +kernel) (by decide +kernel)) (wB_of 1027 (by decide +kernel) (by decide +kernel)) (wB_of 70 (by decide +kernel) (by decide +kernel)) (wB_of 1028 (by decide +kernel) (by decide +kernel)), by decide +kernel⟩
theorem cw_L_134 : cwf RL 134 RX5 yX5_firstError cX5_firstError 1 (some .int) 0 := ⟨wB_V (wB_of 293 (by decide +kernel) (by decide +kernel)) (wB_of 294 (by decide +kernel) (by decide +kernel)) (wB_of 295 (by decide +kernel) (by decide +kernel)) (wB_of 64 (by decide +kernel) (by decide +kernel)) (wB_of 296 (by decide +kernel) (by decide +kernel)), by decide +kernel⟩
theorem cw_L_137 : cwf RL 137 RX6 yX6_firstError cX6_firstError 2 (some .int) 0 := ⟨wB_V (wB_of 1029 (by decide +kernel) (by decide +kernel)) (wB_of 1030 (by decide +kernel) (by decide +kernel)) (wB_of 1031 (by decide +kernel) (by decide +kernel)) (wB_of 70 (by decide +kernel) (by decide +kernel)) (wB_of 1032 (by decide +kernel) (by decide +kernel)), by decide +kernel⟩
theorem cw_L_141 : cwf RL 141 RX6 yX6_open cX6_open 2 (some .int) 0 := ⟨wB_V (wB_of 1057 (by decide +kernel) (by decide +kernel)) (wB_of 1058 (by decide +kernel) (by decide +kernel)) (wB_of 1059 (by decide +kernel) (by decide +kernel)) (wB_of 70 (by decide +kernel) (by decide +kernel)) (wB_of 1060 (by decide +kernel) (by decide +kernel)), by decide +kernel⟩
theorem cw_L_144 : cwf RL 144 RX6 yX6_keep cX6_keep 3 (some .int) 1 := ⟨wB_V (wB_of 1065 (by decide +kernel) (by decide +kernel)) (wB_of 1066 (by decide +kernel) (by decide +kernel)) (wB_of 1067 (by decide +kernel) (by decide +kernel)) (wB_of 70 (by decide +kernel) (by decide +kernel)) (wB_of 1068 (by decide +kernel) (by decide +kernel)), by decide +kernel⟩
theorem cw_L_147 : cwf RL 147 RX6 yX6_goBack cX6_goBack 3 (some .int) 1 := ⟨wB_V (wB_of 1069 (by decide +kernel) (by decide +kernel)) (wB_of 1070 (by decide +kernel) (by decide +kernel)) (wB_of 1071 (by decide +kernel) (by decide +kernel)) (wB_of 70 (by decide +kernel) (by decide +kernel)) (wB_of 1072 (by decide +kernel) (by decide +kernel)), by decide +kernel⟩
theorem cw_L_150 : cwf RL 150 RX6 yX6_undo cX6_undo 2 (some .int) 0 := ⟨wB_V (wB_of 881 (by decide +kernel) (by decide +kernel)) (wB_of 882 (by decide +kernel) (by decide +kernel)) (wB_of 883 (by decide +kernel) (by decide +kernel)) (wB_of 70 (by decide +kernel) (by decide +kernel)) (wB_of 884 (by decide +kernel) (by decide +kernel)), by decide +kernel⟩
theorem cw_L_153 : cwf RL 153 RX6 yX6_stallOf cX6_stallOf 3 (some .int) 2 := ⟨wB_V (wB_of 1073 (by decide +kernel) (by decide +kernel)) (wB_of 1074 (by decide +kernel) (by decide +kernel)) (wB_of 1075 (by decide +kernel) (by decide +kernel)) (wB_of 70 (by decide +kernel) (by decide +kernel)) (wB_of 1076 (by decide +kernel) (by decide +kernel)), by decide +kernel⟩
theorem cw_L_156 : cwf RL 156 RX6 yX6_breaker cX6_breaker 3 (some .int) 2 := ⟨wB_V (wB_of 1085 (by decide +kernel) (by decide +kernel)) (wB_of 1086 (by decide +kernel) (by decide +kernel)) (wB_of 1087 (by decide +kernel) (by decide +kernel)) (wB_of 70 (by decide +kernel) (by decide +kernel)) (wB_of 1088 (by decide +kernel) (by decide +kernel)), by decide +kernel⟩
theorem cw_L_159 : cwf RL 159 RX6 yX6_socket cX6_socket 3 (some .int) 2 := ⟨wB_V (wB_of 1097 (by decide +kernel) (by decide +kernel)) (wB_of 1098 (by decide +kernel) (by decide +kernel)) (wB_of 1099 (by decide +kernel) (by decide +kernel)) (wB_of 70 (by decide +kernel) (by decide +kernel)) (wB_of 1100 (by decide +kernel) (by decide +kernel)), by decide +kernel⟩
theorem cw_L_162 : cwf RL 162 RX6 yX6_count cX6_count 2 (some .int) 1 := ⟨wB_V (wB_of 1101 (by decide +kernel) (by decide +kernel)) (wB_of 1102 (by decide +kernel) (by decide +kernel)) (wB_of 1103 (by decide +kernel) (by decide +kernel)) (wB_of 70 (by decide +kernel) (by decide +kernel)) (wB_of 1104 (by decide +kernel) (by decide +kernel)), by decide +kernel⟩
theorem cw_L_165 : cwf RL 165 RX6 yX6_setting cX6_setting 2 (some .int) 1 := ⟨wB_V (wB_of 1121 (by decide +kernel) (by decide +kernel)) (wB_of 1122 (by decide +kernel) (by decide +kernel)) (wB_of 1123 (by decide +kernel) (by decide +kernel)) (wB_of 70 (by decide +kernel) (by decide +kernel)) (wB_of 1124 (by decide +kernel) (by decide +kernel)), by decide +kernel⟩
theorem cw_L_168 : cwf RL 168 RX6 yX6_ifPlugged cX6_ifPlugged 5 (some .int) 4 := ⟨wB_V (wB_of 1125 (by decide +kernel) (by decide +kernel)) (wB_of 1126 (by decide +kernel) (by decide +kernel)) (wB_of 1127 (by decide +kernel) (by decide +kernel)) (wB_of 70 (by decide +kernel) (by decide +kernel)) (wB_of 1128 (by decide +kernel) (by decide +kernel)), by decide +kernel⟩
theorem cw_L_171 : cwf RL 171 RX6 yX6_tripsIn cX6_tripsIn 2 (some .int) 1 := ⟨wB_V (wB_of 1145 (by decide +kernel) (by decide +kernel)) (wB_of 1146 (by decide +kernel) (by decide +kernel)) (wB_of 1147 (by decide +kernel) (by decide +kernel)) (wB_of 70 (by decide +kernel) (by decide +kernel)) (wB_of 1148 (by decide +kernel) (by decide +kernel)), by decide +kernel⟩
theorem cw_L_174 : cwf RL 174 RX6 yX6_bestSocket cX6_bestSocket 2 (some .int) 1 := ⟨wB_V (wB_of 1153 (by decide +kernel) (by decide +kernel)) (wB_of 1154 (by decide +kernel) (by decide +kernel)) (wB_of 1155 (by decide +kernel) (by decide +kernel)) (wB_of 70 (by decide +kernel) (by decide +kernel)) (wB_of 1156 (by decide +kernel) (by decide +kernel)), by decide +kernel⟩
theorem cw_L_177 : cwf RL 177 RX6 yX6_leastBound cX6_leastBound 2 (some .int) 1 := ⟨wB_V (wB_of 1161 (by decide +kernel) (by decide +kernel)) (wB_of 1162 (by decide +kernel) (by decide +kernel)) (wB_of 1163 (by decide +kernel) (by decide +kernel)) (wB_of 70 (by decide +kernel) (by decide +kernel)) (wB_of 1164 (by decide +kernel) (by decide +kernel)), by decide +kernel⟩
theorem cw_L_178 : cwf RL 178 RX5 yX5_servedShare cX5_servedShare 2 (some .double) 0 := ⟨wB_V (wB_of 317 (by decide +kernel) (by decide +kernel)) (wB_of 318 (by decide +kernel) (by decide +kernel)) (wB_of 319 (by decide +kernel) (by decide +kernel)) (wB_of 64 (by decide +kernel) (by decide +kernel)) (wB_of 320 (by decide +kernel) (by decide +kernel)), by decide +kernel⟩
theorem cw_L_182 : cwf RL 182 RX6 yX6_servedShare cX6_servedShare 1 (some .double) 0 := ⟨wB_V (wB_of 1169 (by decide +kernel) (by decide +kernel)) (wB_of 1170 (by decide +kernel) (by decide +kernel)) (wB_of 1171 (by decide +kernel) (by decide +kernel)) (wB_of 70 (by decide +kernel) (by decide +kernel)) (wB_of 1172 (by decide +kernel) (by decide +kernel)), by decide +kernel⟩
theorem cw_L_183 : cwf RL 183 RX5 yX5_digest cX5_digest 5 (some .long) 0 := ⟨wB_V (wB_of 325 (by decide +kernel) (by decide +kernel)) (wB_of 326 (by decide +kernel) (by decide +kernel)) (wB_of 327 (by decide +kernel) (by decide +kernel)) (wB_of 64 (by decide +kernel) (by decide +kernel)) (wB_of 328 (by decide +kernel) (by decide +kernel)), by decide +kernel⟩
theorem cw_L_187 : cwf RL 187 RX6 yX6_digest cX6_digest 2 (some .long) 0 := ⟨wB_V (wB_of 1177 (by decide +kernel) (by decide +kernel)) (wB_of 1178 (by decide +kernel) (by decide +kernel)) (wB_of 1179 (by decide +kernel) (by decide +kernel)) (wB_of 70 (by decide +kernel) (by decide +kernel)) (wB_of 1180 (by decide +kernel) (by decide +kernel)), by decide +kernel⟩
end
section
/-! BASE 2: truth values, comparisons of known numbers -/
def bi (b : Bool) : Int32 := if b = true then 1 else 0
theorem bi_t : bi true = 1 := rfl
theorem bi_f : bi false = 0 := rfl
theorem bi_n {b : Bool} : narrow .boolean (.int (bi b)) = .int (bi b) := by cases b <;> rfl
theorem bi_0 {b : Bool} : bi b = 0 ↔ b = false := by cases b <;> simp [bi]
theorem bi_1 {b : Bool} : bi b = 1 ↔ b = true := by cases b <;> simp [bi]
theorem bi_vn {b : Bool} : vp_nar .boolean (bi b) = bi b := by cases b <;> rfl
theorem bi_fit {b : Bool} : fits .boolean (.int (bi b)) = true := by cases b <;> rfl
section BASE2
variable {p : Program} {l : Launch} {e : Env} {R : Room} {s : State} {m : MethodId} {args : Array Value} {below : List Frame} {meth : Method} {c : Code} {H : Heap} {locs : List Loc} {cells slots : Nat} {Q : State → Prop}
variable {cc : ByteArray} {pc : Nat} {ls : Array Slot} {rest : List Value}
theorem lv_ifeqB (hexec : p.tables.exec = Jvm.exec) (hb : c.code = cc) {x : Bool} {off : Int} {tgt : Nat} (hdg : decode cc pc = .ok (.ifCond .eq off, 3)) (ht : (pc : Int) + off = (tgt : Int))
    (kt : x = false → W p l e R s m args below meth c H locs cells slots Q (F0 m tgt ls rest)) (kf : x = true → W p l e R s m args below meth c H locs cells slots Q (F0 m (pc + 3) ls rest)) : W p l e R s m args below meth c H locs cells slots Q (F0 m pc ls (.int (bi x) :: rest)) :=
  lv_if_eq hexec hb hdg ht (fun h => kt (bi_0.mp h)) (fun h => kf (by cases x <;> simp_all [bi]))
theorem lv_ifneB (hexec : p.tables.exec = Jvm.exec) (hb : c.code = cc) {x : Bool} {off : Int} {tgt : Nat} (hdg : decode cc pc = .ok (.ifCond .ne off, 3)) (ht : (pc : Int) + off = (tgt : Int))
    (kt : x = true → W p l e R s m args below meth c H locs cells slots Q (F0 m tgt ls rest)) (kf : x = false → W p l e R s m args below meth c H locs cells slots Q (F0 m (pc + 3) ls rest)) : W p l e R s m args below meth c H locs cells slots Q (F0 m pc ls (.int (bi x) :: rest)) :=
  lv_if_ne hexec hb hdg ht (fun h => kt (by cases x <;> simp_all [bi])) (fun h => kf (by cases x <;> simp_all [bi]))
theorem lv_icmp_ltN (hexec : p.tables.exec = Jvm.exec) (hb : c.code = cc) {x y : Nat} (hX : x < 2147483648) (hY : y < 2147483648) {off : Int} {tgt : Nat} (hdg : decode cc pc = .ok (.if_icmp .lt off, 3)) (ht : (pc : Int) + off = (tgt : Int))
    (kt : x < y → W p l e R s m args below meth c H locs cells slots Q (F0 m tgt ls rest)) (kf : y ≤ x → W p l e R s m args below meth c H locs cells slots Q (F0 m (pc + 3) ls rest)) : W p l e R s m args below meth c H locs cells slots Q (F0 m pc ls (.int (nI y) :: .int (nI x) :: rest)) :=
  lv_icmp_lt hexec hb hdg ht (fun h => kt ((nI_ltI hX hY).mp h)) (fun h => kf (Nat.le_of_not_lt fun q => h ((nI_ltI hX hY).mpr q)))
theorem lv_icmp_geN (hexec : p.tables.exec = Jvm.exec) (hb : c.code = cc) {x y : Nat} (hX : x < 2147483648) (hY : y < 2147483648) {off : Int} {tgt : Nat} (hdg : decode cc pc = .ok (.if_icmp .ge off, 3)) (ht : (pc : Int) + off = (tgt : Int))
    (kt : y ≤ x → W p l e R s m args below meth c H locs cells slots Q (F0 m tgt ls rest)) (kf : x < y → W p l e R s m args below meth c H locs cells slots Q (F0 m (pc + 3) ls rest)) : W p l e R s m args below meth c H locs cells slots Q (F0 m pc ls (.int (nI y) :: .int (nI x) :: rest)) :=
  lv_icmp_ge hexec hb hdg ht (fun h => kt ((nI_leI hY hX).mp h)) (fun h => kf (Nat.lt_of_not_le fun q => h ((nI_leI hY hX).mpr q)))
theorem lv_icmp_gtN (hexec : p.tables.exec = Jvm.exec) (hb : c.code = cc) {x y : Nat} (hX : x < 2147483648) (hY : y < 2147483648) {off : Int} {tgt : Nat} (hdg : decode cc pc = .ok (.if_icmp .gt off, 3)) (ht : (pc : Int) + off = (tgt : Int))
    (kt : y < x → W p l e R s m args below meth c H locs cells slots Q (F0 m tgt ls rest)) (kf : x ≤ y → W p l e R s m args below meth c H locs cells slots Q (F0 m (pc + 3) ls rest)) : W p l e R s m args below meth c H locs cells slots Q (F0 m pc ls (.int (nI y) :: .int (nI x) :: rest)) :=
  lv_icmp_gt hexec hb hdg ht (fun h => kt ((nI_ltI hY hX).mp h)) (fun h => kf (Nat.le_of_not_lt fun q => h ((nI_ltI hY hX).mpr q)))
theorem lv_icmp_leN (hexec : p.tables.exec = Jvm.exec) (hb : c.code = cc) {x y : Nat} (hX : x < 2147483648) (hY : y < 2147483648) {off : Int} {tgt : Nat} (hdg : decode cc pc = .ok (.if_icmp .le off, 3)) (ht : (pc : Int) + off = (tgt : Int))
    (kt : x ≤ y → W p l e R s m args below meth c H locs cells slots Q (F0 m tgt ls rest)) (kf : y < x → W p l e R s m args below meth c H locs cells slots Q (F0 m (pc + 3) ls rest)) : W p l e R s m args below meth c H locs cells slots Q (F0 m pc ls (.int (nI y) :: .int (nI x) :: rest)) :=
  lv_icmp_le hexec hb hdg ht (fun h => kt ((nI_leI hX hY).mp h)) (fun h => kf (Nat.lt_of_not_le fun q => h ((nI_leI hX hY).mpr q)))
theorem lv_icmp_eqN (hexec : p.tables.exec = Jvm.exec) (hb : c.code = cc) {x y : Nat} (hX : x < 2147483648) (hY : y < 2147483648) {off : Int} {tgt : Nat} (hdg : decode cc pc = .ok (.if_icmp .eq off, 3)) (ht : (pc : Int) + off = (tgt : Int))
    (kt : x = y → W p l e R s m args below meth c H locs cells slots Q (F0 m tgt ls rest)) (kf : ¬ x = y → W p l e R s m args below meth c H locs cells slots Q (F0 m (pc + 3) ls rest)) : W p l e R s m args below meth c H locs cells slots Q (F0 m pc ls (.int (nI y) :: .int (nI x) :: rest)) :=
  lv_icmp_eq hexec hb hdg ht (fun h => kt ((nI_eq hX hY).mp h)) (fun h => kf fun q => h ((nI_eq hX hY).mpr q))
theorem lv_icmp_neN (hexec : p.tables.exec = Jvm.exec) (hb : c.code = cc) {x y : Nat} (hX : x < 2147483648) (hY : y < 2147483648) {off : Int} {tgt : Nat} (hdg : decode cc pc = .ok (.if_icmp .ne off, 3)) (ht : (pc : Int) + off = (tgt : Int))
    (kt : ¬ x = y → W p l e R s m args below meth c H locs cells slots Q (F0 m tgt ls rest)) (kf : x = y → W p l e R s m args below meth c H locs cells slots Q (F0 m (pc + 3) ls rest)) : W p l e R s m args below meth c H locs cells slots Q (F0 m pc ls (.int (nI y) :: .int (nI x) :: rest)) :=
  lv_icmp_ne hexec hb hdg ht (fun h => kt fun q => h ((nI_eq hX hY).mpr q)) (fun h => kf ((nI_eq hX hY).mp h))
theorem lv_ifeqN (hexec : p.tables.exec = Jvm.exec) (hb : c.code = cc) {x : Nat} (hX : x < 2147483648) {off : Int} {tgt : Nat} (hdg : decode cc pc = .ok (.ifCond .eq off, 3)) (ht : (pc : Int) + off = (tgt : Int))
    (kt : x = 0 → W p l e R s m args below meth c H locs cells slots Q (F0 m tgt ls rest)) (kf : ¬ x = 0 → W p l e R s m args below meth c H locs cells slots Q (F0 m (pc + 3) ls rest)) : W p l e R s m args below meth c H locs cells slots Q (F0 m pc ls (.int (nI x) :: rest)) :=
  lv_if_eq hexec hb hdg ht (fun h => kt ((nI_eq hX (by decide)).mp h)) (fun h => kf fun q => h ((nI_eq hX (by decide)).mpr q))
theorem lv_ifneN (hexec : p.tables.exec = Jvm.exec) (hb : c.code = cc) {x : Nat} (hX : x < 2147483648) {off : Int} {tgt : Nat} (hdg : decode cc pc = .ok (.ifCond .ne off, 3)) (ht : (pc : Int) + off = (tgt : Int))
    (kt : ¬ x = 0 → W p l e R s m args below meth c H locs cells slots Q (F0 m tgt ls rest)) (kf : x = 0 → W p l e R s m args below meth c H locs cells slots Q (F0 m (pc + 3) ls rest)) : W p l e R s m args below meth c H locs cells slots Q (F0 m pc ls (.int (nI x) :: rest)) :=
  lv_if_ne hexec hb hdg ht (fun h => kt fun q => h ((nI_eq hX (by decide)).mpr q)) (fun h => kf ((nI_eq hX (by decide)).mp h))
theorem lv_ifltN (hexec : p.tables.exec = Jvm.exec) (hb : c.code = cc) {x : Nat} (hX : x < 2147483648) {off : Int} {tgt : Nat} (hdg : decode cc pc = .ok (.ifCond .lt off, 3)) (ht : (pc : Int) + off = (tgt : Int))
    (kf : W p l e R s m args below meth c H locs cells slots Q (F0 m (pc + 3) ls rest)) : W p l e R s m args below meth c H locs cells slots Q (F0 m pc ls (.int (nI x) :: rest)) :=
  lv_if_lt hexec hb hdg ht (fun h => absurd h (nI_pos hX)) (fun _ => kf)
theorem lv_ifleN (hexec : p.tables.exec = Jvm.exec) (hb : c.code = cc) {x : Nat} (hX : x < 2147483648) {off : Int} {tgt : Nat} (hdg : decode cc pc = .ok (.ifCond .le off, 3)) (ht : (pc : Int) + off = (tgt : Int))
    (kt : x = 0 → W p l e R s m args below meth c H locs cells slots Q (F0 m tgt ls rest)) (kf : ¬ x = 0 → W p l e R s m args below meth c H locs cells slots Q (F0 m (pc + 3) ls rest)) : W p l e R s m args below meth c H locs cells slots Q (F0 m pc ls (.int (nI x) :: rest)) :=
  lv_if_le hexec hb hdg ht (fun h => kt (Nat.le_zero.mp ((nI_leI hX (by decide)).mp h))) (fun h => kf fun q => h (by subst q; exact (nI_leI (by decide) (by decide)).mpr (Nat.le_refl 0)))
theorem lv_icmp_ltR (hexec : p.tables.exec = Jvm.exec) (hb : c.code = cc) {x y : Int32} {off : Int} {tgt : Nat} (hdg : decode cc pc = .ok (.if_icmp .lt off, 3)) (ht : (pc : Int) + off = (tgt : Int))
    (kt : x < y → W p l e R s m args below meth c H locs cells slots Q (F0 m tgt ls rest)) (kf : y ≤ x → W p l e R s m args below meth c H locs cells slots Q (F0 m (pc + 3) ls rest)) : W p l e R s m args below meth c H locs cells slots Q (F0 m pc ls (.int y :: .int x :: rest)) :=
  lv_icmp_lt hexec hb hdg ht kt (fun h => kf (Int32.not_lt.mp h))
theorem lv_icmp_geR (hexec : p.tables.exec = Jvm.exec) (hb : c.code = cc) {x y : Int32} {off : Int} {tgt : Nat} (hdg : decode cc pc = .ok (.if_icmp .ge off, 3)) (ht : (pc : Int) + off = (tgt : Int))
    (kt : y ≤ x → W p l e R s m args below meth c H locs cells slots Q (F0 m tgt ls rest)) (kf : x < y → W p l e R s m args below meth c H locs cells slots Q (F0 m (pc + 3) ls rest)) : W p l e R s m args below meth c H locs cells slots Q (F0 m pc ls (.int y :: .int x :: rest)) :=
  lv_icmp_ge hexec hb hdg ht kt (fun h => kf (Int32.not_le.mp h))
theorem lv_icmp_gtR (hexec : p.tables.exec = Jvm.exec) (hb : c.code = cc) {x y : Int32} {off : Int} {tgt : Nat} (hdg : decode cc pc = .ok (.if_icmp .gt off, 3)) (ht : (pc : Int) + off = (tgt : Int))
    (kt : y < x → W p l e R s m args below meth c H locs cells slots Q (F0 m tgt ls rest)) (kf : x ≤ y → W p l e R s m args below meth c H locs cells slots Q (F0 m (pc + 3) ls rest)) : W p l e R s m args below meth c H locs cells slots Q (F0 m pc ls (.int y :: .int x :: rest)) :=
  lv_icmp_gt hexec hb hdg ht kt (fun h => kf (Int32.not_lt.mp h))
theorem lv_icmp_leR (hexec : p.tables.exec = Jvm.exec) (hb : c.code = cc) {x y : Int32} {off : Int} {tgt : Nat} (hdg : decode cc pc = .ok (.if_icmp .le off, 3)) (ht : (pc : Int) + off = (tgt : Int))
    (kt : x ≤ y → W p l e R s m args below meth c H locs cells slots Q (F0 m tgt ls rest)) (kf : y < x → W p l e R s m args below meth c H locs cells slots Q (F0 m (pc + 3) ls rest)) : W p l e R s m args below meth c H locs cells slots Q (F0 m pc ls (.int y :: .int x :: rest)) :=
  lv_icmp_le hexec hb hdg ht kt (fun h => kf (Int32.not_le.mp h))
theorem lv_ifltR (hexec : p.tables.exec = Jvm.exec) (hb : c.code = cc) {x : Int32} {off : Int} {tgt : Nat} (hdg : decode cc pc = .ok (.ifCond .lt off, 3)) (ht : (pc : Int) + off = (tgt : Int))
    (kt : x < 0 → W p l e R s m args below meth c H locs cells slots Q (F0 m tgt ls rest)) (kf : 0 ≤ x → W p l e R s m args below meth c H locs cells slots Q (F0 m (pc + 3) ls rest)) : W p l e R s m args below meth c H locs cells slots Q (F0 m pc ls (.int x :: rest)) :=
  lv_if_lt hexec hb hdg ht kt (fun h => kf (Int32.not_lt.mp h))
theorem lv_ifleR (hexec : p.tables.exec = Jvm.exec) (hb : c.code = cc) {x : Int32} {off : Int} {tgt : Nat} (hdg : decode cc pc = .ok (.ifCond .le off, 3)) (ht : (pc : Int) + off = (tgt : Int))
    (kt : x ≤ 0 → W p l e R s m args below meth c H locs cells slots Q (F0 m tgt ls rest)) (kf : 0 < x → W p l e R s m args below meth c H locs cells slots Q (F0 m (pc + 3) ls rest)) : W p l e R s m args below meth c H locs cells slots Q (F0 m pc ls (.int x :: rest)) :=
  lv_if_le hexec hb hdg ht kt (fun h => kf (Int32.not_le.mp h))
theorem lv_ifgeR (hexec : p.tables.exec = Jvm.exec) (hb : c.code = cc) {x : Int32} {off : Int} {tgt : Nat} (hdg : decode cc pc = .ok (.ifCond .ge off, 3)) (ht : (pc : Int) + off = (tgt : Int))
    (kt : 0 ≤ x → W p l e R s m args below meth c H locs cells slots Q (F0 m tgt ls rest)) (kf : x < 0 → W p l e R s m args below meth c H locs cells slots Q (F0 m (pc + 3) ls rest)) : W p l e R s m args below meth c H locs cells slots Q (F0 m pc ls (.int x :: rest)) :=
  lv_if_ge hexec hb hdg ht kt (fun h => kf (Int32.not_le.mp h))
theorem lv_ifgtR (hexec : p.tables.exec = Jvm.exec) (hb : c.code = cc) {x : Int32} {off : Int} {tgt : Nat} (hdg : decode cc pc = .ok (.ifCond .gt off, 3)) (ht : (pc : Int) + off = (tgt : Int))
    (kt : 0 < x → W p l e R s m args below meth c H locs cells slots Q (F0 m tgt ls rest)) (kf : x ≤ 0 → W p l e R s m args below meth c H locs cells slots Q (F0 m (pc + 3) ls rest)) : W p l e R s m args below meth c H locs cells slots Q (F0 m pc ls (.int x :: rest)) :=
  lv_if_gt hexec hb hdg ht kt (fun h => kf (Int32.not_lt.mp h))
end BASE2
end
section
/-! THE REFERENCE: its object and its seven rows by names; Z: its row of numbers, g: its numbers by the place of the field, hs: its hash, F: its other rows -/
abbrev mdF (ad : Nat → Nat) (g : Nat → Int32) (hs : Int64) : List Value := [.int (g 0), .ref (ad 1), .ref (ad 2), .int (g 3), .ref (ad 3), .ref (ad 4), .ref (ad 5), .ref (ad 6), .int (g 8), .ref (ad 7), .int (g 10), .int (g 11), .int (g 12), .long hs]
def mdc (ct : Nat → ClassId) (ad : Nat → Nat) (Z g : Nat → Int32) (hs : Int64) (F : Nat → Nat → Int32) : Nat → va_E := fun k => match k with
  | 0 => .inr (6, mdF ad g hs)
  | 1 => .inl (ct 0, 119, .inl Z)
  | 2 => .inl (ct 0, 714, .inl (F 2))
  | 3 => .inl (ct 0, 238, .inl (F 3))
  | 4 => .inl (ct 1, 2, .inl (F 4))
  | 5 => .inl (ct 0, 119, .inl (F 5))
  | 6 => .inl (ct 0, 60, .inl (F 6))
  | _ => .inl (ct 0, 110, .inl (F 7))
section MD
variable {p : Program} {l : Launch} {e : Env} {R : Room} {s : State} {m : MethodId} {args : Array Value} {below : List Frame} {meth : Method} {c : Code} {H : Heap} {locs : List Loc} {cells slots : Nat} {Q : State → Prop}
variable {cc : ByteArray} {pc : Nat} {ls : Array Slot} {rest : List Value} {D : va_G} {ct : Nat → ClassId} {ad : Nat → Nat} {Z g : Nat → Int32} {hs : Int64} {F : Nat → Nat → Int32} {H0 : Heap}
theorem md_g0 {v : Int32} (hx : p.tables.exec = Jvm.exec) (hb : c.code = cc) (hown : s.vm.findClass RX6 = some m.cls) (htg : ∀ w ∈ wB, w.before args s = true) (hK : va_K D vwCl (fTys ct) s) (hP : fP D 8 ad (mdc ct ad Z g hs F) H) (hv : g 0 = v) (hdg : decode cc pc = .ok (.getfield 36, 3)) (kk : W p l e R s m args below meth c H locs cells slots Q (F0 m (pc + 3) ls (.int v :: rest))) : W p l e R s m args below meth c H locs cells slots Q (F0 m pc ls (.ref (ad 0) :: rest)) :=
  fr_get (k := 0) (fs := mdF ad g hs) hx hb hown htg hK hP (by decide) rfl (ci := 6) rfl inB_X6 (j := 0) (by decide) fl_X6_36 rfl (by subst hv; rfl) hdg kk
theorem md_p0 {v : Int32} (hx : p.tables.exec = Jvm.exec) (hb : c.code = cc) (hown : s.vm.findClass RX6 = some m.cls) (htg : ∀ w ∈ wB, w.before args s = true) (hK : va_K D vwCl (fTys ct) s) (hI : fI 8 ad) (hS : va_S (fA 8 ad) H0 H locs) (hP : fP D 8 ad (mdc ct ad Z g hs F) H) (hdg : decode cc pc = .ok (.putfield 36, 3)) (kk : ∀ (H1 : Heap) (locs1 : List Loc), fP D 8 ad (mdc ct ad Z (upd g 0 v) hs F) H1 → va_S (fA 8 ad) H0 H1 locs1 → W p l e R s m args below meth c H1 locs1 cells slots Q (F0 m (pc + 3) ls (rest))) : W p l e R s m args below meth c H locs cells slots Q (F0 m pc ls (.int v :: .ref (ad 0) :: rest)) :=
  fr_put (k := 0) (fs := mdF ad g hs) (ty := .int) hx hb hown htg hK hI hP hS (fun _ h => fA_in h) (by decide) rfl (ci := 6) rfl inB_X6 tyX6 tyX6_ok nmX6 (j := 0) (by decide) fl_X6_36 rfl rfl rfl rfl rfl (Nat.le_of_ble_eq_true rfl) hdg (fun i hi => by rcases i with _|_|_|_|_|_|_|_|i <;> first | rfl | omega) kk
theorem md_g1 (hx : p.tables.exec = Jvm.exec) (hb : c.code = cc) (hown : s.vm.findClass RX6 = some m.cls) (htg : ∀ w ∈ wB, w.before args s = true) (hK : va_K D vwCl (fTys ct) s) (hP : fP D 8 ad (mdc ct ad Z g hs F) H) (hdg : decode cc pc = .ok (.getfield 7, 3)) (kk : W p l e R s m args below meth c H locs cells slots Q (F0 m (pc + 3) ls (.ref (ad 1) :: rest))) : W p l e R s m args below meth c H locs cells slots Q (F0 m pc ls (.ref (ad 0) :: rest)) :=
  fr_get (k := 0) (fs := mdF ad g hs) hx hb hown htg hK hP (by decide) rfl (ci := 6) rfl inB_X6 (j := 1) (by decide) fl_X6_7 rfl rfl hdg kk
theorem md_g2 (hx : p.tables.exec = Jvm.exec) (hb : c.code = cc) (hown : s.vm.findClass RX6 = some m.cls) (htg : ∀ w ∈ wB, w.before args s = true) (hK : va_K D vwCl (fTys ct) s) (hP : fP D 8 ad (mdc ct ad Z g hs F) H) (hdg : decode cc pc = .ok (.getfield 13, 3)) (kk : W p l e R s m args below meth c H locs cells slots Q (F0 m (pc + 3) ls (.ref (ad 2) :: rest))) : W p l e R s m args below meth c H locs cells slots Q (F0 m pc ls (.ref (ad 0) :: rest)) :=
  fr_get (k := 0) (fs := mdF ad g hs) hx hb hown htg hK hP (by decide) rfl (ci := 6) rfl inB_X6 (j := 2) (by decide) fl_X6_13 rfl rfl hdg kk
theorem md_g3 {v : Int32} (hx : p.tables.exec = Jvm.exec) (hb : c.code = cc) (hown : s.vm.findClass RX6 = some m.cls) (htg : ∀ w ∈ wB, w.before args s = true) (hK : va_K D vwCl (fTys ct) s) (hP : fP D 8 ad (mdc ct ad Z g hs F) H) (hv : g 3 = v) (hdg : decode cc pc = .ok (.getfield 44, 3)) (kk : W p l e R s m args below meth c H locs cells slots Q (F0 m (pc + 3) ls (.int v :: rest))) : W p l e R s m args below meth c H locs cells slots Q (F0 m pc ls (.ref (ad 0) :: rest)) :=
  fr_get (k := 0) (fs := mdF ad g hs) hx hb hown htg hK hP (by decide) rfl (ci := 6) rfl inB_X6 (j := 3) (by decide) fl_X6_44 rfl (by subst hv; rfl) hdg kk
theorem md_p3 {v : Int32} (hx : p.tables.exec = Jvm.exec) (hb : c.code = cc) (hown : s.vm.findClass RX6 = some m.cls) (htg : ∀ w ∈ wB, w.before args s = true) (hK : va_K D vwCl (fTys ct) s) (hI : fI 8 ad) (hS : va_S (fA 8 ad) H0 H locs) (hP : fP D 8 ad (mdc ct ad Z g hs F) H) (hdg : decode cc pc = .ok (.putfield 44, 3)) (kk : ∀ (H1 : Heap) (locs1 : List Loc), fP D 8 ad (mdc ct ad Z (upd g 3 v) hs F) H1 → va_S (fA 8 ad) H0 H1 locs1 → W p l e R s m args below meth c H1 locs1 cells slots Q (F0 m (pc + 3) ls (rest))) : W p l e R s m args below meth c H locs cells slots Q (F0 m pc ls (.int v :: .ref (ad 0) :: rest)) :=
  fr_put (k := 0) (fs := mdF ad g hs) (ty := .int) hx hb hown htg hK hI hP hS (fun _ h => fA_in h) (by decide) rfl (ci := 6) rfl inB_X6 tyX6 tyX6_ok nmX6 (j := 3) (by decide) fl_X6_44 rfl rfl rfl rfl rfl (Nat.le_of_ble_eq_true rfl) hdg (fun i hi => by rcases i with _|_|_|_|_|_|_|_|i <;> first | rfl | omega) kk
theorem md_g4 (hx : p.tables.exec = Jvm.exec) (hb : c.code = cc) (hown : s.vm.findClass RX6 = some m.cls) (htg : ∀ w ∈ wB, w.before args s = true) (hK : va_K D vwCl (fTys ct) s) (hP : fP D 8 ad (mdc ct ad Z g hs F) H) (hdg : decode cc pc = .ok (.getfield 16, 3)) (kk : W p l e R s m args below meth c H locs cells slots Q (F0 m (pc + 3) ls (.ref (ad 3) :: rest))) : W p l e R s m args below meth c H locs cells slots Q (F0 m pc ls (.ref (ad 0) :: rest)) :=
  fr_get (k := 0) (fs := mdF ad g hs) hx hb hown htg hK hP (by decide) rfl (ci := 6) rfl inB_X6 (j := 4) (by decide) fl_X6_16 rfl rfl hdg kk
theorem md_g5 (hx : p.tables.exec = Jvm.exec) (hb : c.code = cc) (hown : s.vm.findClass RX6 = some m.cls) (htg : ∀ w ∈ wB, w.before args s = true) (hK : va_K D vwCl (fTys ct) s) (hP : fP D 8 ad (mdc ct ad Z g hs F) H) (hdg : decode cc pc = .ok (.getfield 19, 3)) (kk : W p l e R s m args below meth c H locs cells slots Q (F0 m (pc + 3) ls (.ref (ad 4) :: rest))) : W p l e R s m args below meth c H locs cells slots Q (F0 m pc ls (.ref (ad 0) :: rest)) :=
  fr_get (k := 0) (fs := mdF ad g hs) hx hb hown htg hK hP (by decide) rfl (ci := 6) rfl inB_X6 (j := 5) (by decide) fl_X6_19 rfl rfl hdg kk
theorem md_g6 (hx : p.tables.exec = Jvm.exec) (hb : c.code = cc) (hown : s.vm.findClass RX6 = some m.cls) (htg : ∀ w ∈ wB, w.before args s = true) (hK : va_K D vwCl (fTys ct) s) (hP : fP D 8 ad (mdc ct ad Z g hs F) H) (hdg : decode cc pc = .ok (.getfield 23, 3)) (kk : W p l e R s m args below meth c H locs cells slots Q (F0 m (pc + 3) ls (.ref (ad 5) :: rest))) : W p l e R s m args below meth c H locs cells slots Q (F0 m pc ls (.ref (ad 0) :: rest)) :=
  fr_get (k := 0) (fs := mdF ad g hs) hx hb hown htg hK hP (by decide) rfl (ci := 6) rfl inB_X6 (j := 6) (by decide) fl_X6_23 rfl rfl hdg kk
theorem md_g7 (hx : p.tables.exec = Jvm.exec) (hb : c.code = cc) (hown : s.vm.findClass RX6 = some m.cls) (htg : ∀ w ∈ wB, w.before args s = true) (hK : va_K D vwCl (fTys ct) s) (hP : fP D 8 ad (mdc ct ad Z g hs F) H) (hdg : decode cc pc = .ok (.getfield 26, 3)) (kk : W p l e R s m args below meth c H locs cells slots Q (F0 m (pc + 3) ls (.ref (ad 6) :: rest))) : W p l e R s m args below meth c H locs cells slots Q (F0 m pc ls (.ref (ad 0) :: rest)) :=
  fr_get (k := 0) (fs := mdF ad g hs) hx hb hown htg hK hP (by decide) rfl (ci := 6) rfl inB_X6 (j := 7) (by decide) fl_X6_26 rfl rfl hdg kk
theorem md_g8 {v : Int32} (hx : p.tables.exec = Jvm.exec) (hb : c.code = cc) (hown : s.vm.findClass RX6 = some m.cls) (htg : ∀ w ∈ wB, w.before args s = true) (hK : va_K D vwCl (fTys ct) s) (hP : fP D 8 ad (mdc ct ad Z g hs F) H) (hv : g 8 = v) (hdg : decode cc pc = .ok (.getfield 129, 3)) (kk : W p l e R s m args below meth c H locs cells slots Q (F0 m (pc + 3) ls (.int v :: rest))) : W p l e R s m args below meth c H locs cells slots Q (F0 m pc ls (.ref (ad 0) :: rest)) :=
  fr_get (k := 0) (fs := mdF ad g hs) hx hb hown htg hK hP (by decide) rfl (ci := 6) rfl inB_X6 (j := 8) (by decide) fl_X6_129 rfl (by subst hv; rfl) hdg kk
theorem md_p8 {v : Int32} (hx : p.tables.exec = Jvm.exec) (hb : c.code = cc) (hown : s.vm.findClass RX6 = some m.cls) (htg : ∀ w ∈ wB, w.before args s = true) (hK : va_K D vwCl (fTys ct) s) (hI : fI 8 ad) (hS : va_S (fA 8 ad) H0 H locs) (hP : fP D 8 ad (mdc ct ad Z g hs F) H) (hdg : decode cc pc = .ok (.putfield 129, 3)) (kk : ∀ (H1 : Heap) (locs1 : List Loc), fP D 8 ad (mdc ct ad Z (upd g 8 v) hs F) H1 → va_S (fA 8 ad) H0 H1 locs1 → W p l e R s m args below meth c H1 locs1 cells slots Q (F0 m (pc + 3) ls (rest))) : W p l e R s m args below meth c H locs cells slots Q (F0 m pc ls (.int v :: .ref (ad 0) :: rest)) :=
  fr_put (k := 0) (fs := mdF ad g hs) (ty := .int) hx hb hown htg hK hI hP hS (fun _ h => fA_in h) (by decide) rfl (ci := 6) rfl inB_X6 tyX6 tyX6_ok nmX6 (j := 8) (by decide) fl_X6_129 rfl rfl rfl rfl rfl (Nat.le_of_ble_eq_true rfl) hdg (fun i hi => by rcases i with _|_|_|_|_|_|_|_|i <;> first | rfl | omega) kk
theorem md_g9 (hx : p.tables.exec = Jvm.exec) (hb : c.code = cc) (hown : s.vm.findClass RX6 = some m.cls) (htg : ∀ w ∈ wB, w.before args s = true) (hK : va_K D vwCl (fTys ct) s) (hP : fP D 8 ad (mdc ct ad Z g hs F) H) (hdg : decode cc pc = .ok (.getfield 29, 3)) (kk : W p l e R s m args below meth c H locs cells slots Q (F0 m (pc + 3) ls (.ref (ad 7) :: rest))) : W p l e R s m args below meth c H locs cells slots Q (F0 m pc ls (.ref (ad 0) :: rest)) :=
  fr_get (k := 0) (fs := mdF ad g hs) hx hb hown htg hK hP (by decide) rfl (ci := 6) rfl inB_X6 (j := 9) (by decide) fl_X6_29 rfl rfl hdg kk
theorem md_g10 {v : Int32} (hx : p.tables.exec = Jvm.exec) (hb : c.code = cc) (hown : s.vm.findClass RX6 = some m.cls) (htg : ∀ w ∈ wB, w.before args s = true) (hK : va_K D vwCl (fTys ct) s) (hP : fP D 8 ad (mdc ct ad Z g hs F) H) (hv : g 10 = v) (hdg : decode cc pc = .ok (.getfield 148, 3)) (kk : W p l e R s m args below meth c H locs cells slots Q (F0 m (pc + 3) ls (.int v :: rest))) : W p l e R s m args below meth c H locs cells slots Q (F0 m pc ls (.ref (ad 0) :: rest)) :=
  fr_get (k := 0) (fs := mdF ad g hs) hx hb hown htg hK hP (by decide) rfl (ci := 6) rfl inB_X6 (j := 10) (by decide) fl_X6_148 rfl (by subst hv; rfl) hdg kk
theorem md_p10 {v : Int32} (hx : p.tables.exec = Jvm.exec) (hb : c.code = cc) (hown : s.vm.findClass RX6 = some m.cls) (htg : ∀ w ∈ wB, w.before args s = true) (hK : va_K D vwCl (fTys ct) s) (hI : fI 8 ad) (hS : va_S (fA 8 ad) H0 H locs) (hP : fP D 8 ad (mdc ct ad Z g hs F) H) (hdg : decode cc pc = .ok (.putfield 148, 3)) (kk : ∀ (H1 : Heap) (locs1 : List Loc), fP D 8 ad (mdc ct ad Z (upd g 10 v) hs F) H1 → va_S (fA 8 ad) H0 H1 locs1 → W p l e R s m args below meth c H1 locs1 cells slots Q (F0 m (pc + 3) ls (rest))) : W p l e R s m args below meth c H locs cells slots Q (F0 m pc ls (.int v :: .ref (ad 0) :: rest)) :=
  fr_put (k := 0) (fs := mdF ad g hs) (ty := .int) hx hb hown htg hK hI hP hS (fun _ h => fA_in h) (by decide) rfl (ci := 6) rfl inB_X6 tyX6 tyX6_ok nmX6 (j := 10) (by decide) fl_X6_148 rfl rfl rfl rfl rfl (Nat.le_of_ble_eq_true rfl) hdg (fun i hi => by rcases i with _|_|_|_|_|_|_|_|i <;> first | rfl | omega) kk
theorem md_g11 {v : Int32} (hx : p.tables.exec = Jvm.exec) (hb : c.code = cc) (hown : s.vm.findClass RX6 = some m.cls) (htg : ∀ w ∈ wB, w.before args s = true) (hK : va_K D vwCl (fTys ct) s) (hP : fP D 8 ad (mdc ct ad Z g hs F) H) (hv : g 11 = v) (hdg : decode cc pc = .ok (.getfield 132, 3)) (kk : W p l e R s m args below meth c H locs cells slots Q (F0 m (pc + 3) ls (.int v :: rest))) : W p l e R s m args below meth c H locs cells slots Q (F0 m pc ls (.ref (ad 0) :: rest)) :=
  fr_get (k := 0) (fs := mdF ad g hs) hx hb hown htg hK hP (by decide) rfl (ci := 6) rfl inB_X6 (j := 11) (by decide) fl_X6_132 rfl (by subst hv; rfl) hdg kk
theorem md_p11 {v : Int32} (hx : p.tables.exec = Jvm.exec) (hb : c.code = cc) (hown : s.vm.findClass RX6 = some m.cls) (htg : ∀ w ∈ wB, w.before args s = true) (hK : va_K D vwCl (fTys ct) s) (hI : fI 8 ad) (hS : va_S (fA 8 ad) H0 H locs) (hP : fP D 8 ad (mdc ct ad Z g hs F) H) (hdg : decode cc pc = .ok (.putfield 132, 3)) (kk : ∀ (H1 : Heap) (locs1 : List Loc), fP D 8 ad (mdc ct ad Z (upd g 11 v) hs F) H1 → va_S (fA 8 ad) H0 H1 locs1 → W p l e R s m args below meth c H1 locs1 cells slots Q (F0 m (pc + 3) ls (rest))) : W p l e R s m args below meth c H locs cells slots Q (F0 m pc ls (.int v :: .ref (ad 0) :: rest)) :=
  fr_put (k := 0) (fs := mdF ad g hs) (ty := .int) hx hb hown htg hK hI hP hS (fun _ h => fA_in h) (by decide) rfl (ci := 6) rfl inB_X6 tyX6 tyX6_ok nmX6 (j := 11) (by decide) fl_X6_132 rfl rfl rfl rfl rfl (Nat.le_of_ble_eq_true rfl) hdg (fun i hi => by rcases i with _|_|_|_|_|_|_|_|i <;> first | rfl | omega) kk
theorem md_g12 {v : Int32} (hx : p.tables.exec = Jvm.exec) (hb : c.code = cc) (hown : s.vm.findClass RX6 = some m.cls) (htg : ∀ w ∈ wB, w.before args s = true) (hK : va_K D vwCl (fTys ct) s) (hP : fP D 8 ad (mdc ct ad Z g hs F) H) (hv : g 12 = v) (hdg : decode cc pc = .ok (.getfield 135, 3)) (kk : W p l e R s m args below meth c H locs cells slots Q (F0 m (pc + 3) ls (.int v :: rest))) : W p l e R s m args below meth c H locs cells slots Q (F0 m pc ls (.ref (ad 0) :: rest)) :=
  fr_get (k := 0) (fs := mdF ad g hs) hx hb hown htg hK hP (by decide) rfl (ci := 6) rfl inB_X6 (j := 12) (by decide) fl_X6_135 rfl (by subst hv; rfl) hdg kk
theorem md_p12 {v : Int32} (hx : p.tables.exec = Jvm.exec) (hb : c.code = cc) (hown : s.vm.findClass RX6 = some m.cls) (htg : ∀ w ∈ wB, w.before args s = true) (hK : va_K D vwCl (fTys ct) s) (hI : fI 8 ad) (hS : va_S (fA 8 ad) H0 H locs) (hP : fP D 8 ad (mdc ct ad Z g hs F) H) (hdg : decode cc pc = .ok (.putfield 135, 3)) (kk : ∀ (H1 : Heap) (locs1 : List Loc), fP D 8 ad (mdc ct ad Z (upd g 12 v) hs F) H1 → va_S (fA 8 ad) H0 H1 locs1 → W p l e R s m args below meth c H1 locs1 cells slots Q (F0 m (pc + 3) ls (rest))) : W p l e R s m args below meth c H locs cells slots Q (F0 m pc ls (.int v :: .ref (ad 0) :: rest)) :=
  fr_put (k := 0) (fs := mdF ad g hs) (ty := .int) hx hb hown htg hK hI hP hS (fun _ h => fA_in h) (by decide) rfl (ci := 6) rfl inB_X6 tyX6 tyX6_ok nmX6 (j := 12) (by decide) fl_X6_135 rfl rfl rfl rfl rfl (Nat.le_of_ble_eq_true rfl) hdg (fun i hi => by rcases i with _|_|_|_|_|_|_|_|i <;> first | rfl | omega) kk
theorem md_g13 {v : Int64} (hx : p.tables.exec = Jvm.exec) (hb : c.code = cc) (hown : s.vm.findClass RX6 = some m.cls) (htg : ∀ w ∈ wB, w.before args s = true) (hK : va_K D vwCl (fTys ct) s) (hP : fP D 8 ad (mdc ct ad Z g hs F) H) (hv : hs = v) (hdg : decode cc pc = .ok (.getfield 222, 3)) (kk : W p l e R s m args below meth c H locs cells slots Q (F0 m (pc + 3) ls (.long v :: rest))) : W p l e R s m args below meth c H locs cells slots Q (F0 m pc ls (.ref (ad 0) :: rest)) :=
  fr_get (k := 0) (fs := mdF ad g hs) hx hb hown htg hK hP (by decide) rfl (ci := 6) rfl inB_X6 (j := 13) (by decide) fl_X6_222 rfl (by subst hv; rfl) hdg kk
theorem md_p13 {v : Int64} (hx : p.tables.exec = Jvm.exec) (hb : c.code = cc) (hown : s.vm.findClass RX6 = some m.cls) (htg : ∀ w ∈ wB, w.before args s = true) (hK : va_K D vwCl (fTys ct) s) (hI : fI 8 ad) (hS : va_S (fA 8 ad) H0 H locs) (hP : fP D 8 ad (mdc ct ad Z g hs F) H) (hdg : decode cc pc = .ok (.putfield 222, 3)) (kk : ∀ (H1 : Heap) (locs1 : List Loc), fP D 8 ad (mdc ct ad Z g v F) H1 → va_S (fA 8 ad) H0 H1 locs1 → W p l e R s m args below meth c H1 locs1 cells slots Q (F0 m (pc + 3) ls (rest))) : W p l e R s m args below meth c H locs cells slots Q (F0 m pc ls (.long v :: .ref (ad 0) :: rest)) :=
  fr_put (k := 0) (fs := mdF ad g hs) (ty := .long) hx hb hown htg hK hI hP hS (fun _ h => fA_in h) (by decide) rfl (ci := 6) rfl inB_X6 tyX6 tyX6_ok nmX6 (j := 13) (by decide) fl_X6_222 rfl rfl rfl rfl rfl (Nat.le_of_ble_eq_true rfl) hdg (fun i hi => by rcases i with _|_|_|_|_|_|_|_|i <;> first | rfl | omega) kk
theorem md_l1 {i : Nat} (hx : p.tables.exec = Jvm.exec) (hb : c.code = cc) (hK : va_K D vwCl (fTys ct) s) (hP : fP D 8 ad (mdc ct ad Z g hs F) H) (hi : i < 119) (hdg : decode cc pc = .ok (.iaload, 1)) (kk : W p l e R s m args below meth c H locs cells slots Q (F0 m (pc + 1) ls (.int (Z i) :: rest))) : W p l e R s m args below meth c H locs cells slots Q (F0 m pc ls (.int (nI i) :: .ref (ad 1) :: rest)) :=
  fr_iald (k := 1) hx hb hK hP (by decide) rfl hi (by decide) hdg kk
theorem md_s1 {i : Nat} {x : Int32} (hx : p.tables.exec = Jvm.exec) (hb : c.code = cc) (hK : va_K D vwCl (fTys ct) s) (hI : fI 8 ad) (hS : va_S (fA 8 ad) H0 H locs) (hP : fP D 8 ad (mdc ct ad Z g hs F) H) (hi : i < 119) (hdg : decode cc pc = .ok (.iastore, 1)) (kk : ∀ (H1 : Heap) (locs1 : List Loc), fP D 8 ad (mdc ct ad (upd Z i x) g hs F) H1 → va_S (fA 8 ad) H0 H1 locs1 → W p l e R s m args below meth c H1 locs1 cells slots Q (F0 m (pc + 1) ls (rest))) : W p l e R s m args below meth c H locs cells slots Q (F0 m pc ls (.int x :: .int (nI i) :: .ref (ad 1) :: rest)) :=
  fr_iast (k := 1) hx hb hK hI hP hS (fun _ h => fA_in h) (by decide) rfl hi (by decide) hdg (fun i hi => by rcases i with _|_|_|_|_|_|_|_|i <;> first | rfl | omega) kk
theorem md_l2 {i : Nat} (hx : p.tables.exec = Jvm.exec) (hb : c.code = cc) (hK : va_K D vwCl (fTys ct) s) (hP : fP D 8 ad (mdc ct ad Z g hs F) H) (hi : i < 714) (hdg : decode cc pc = .ok (.iaload, 1)) (kk : W p l e R s m args below meth c H locs cells slots Q (F0 m (pc + 1) ls (.int ((F 2) i) :: rest))) : W p l e R s m args below meth c H locs cells slots Q (F0 m pc ls (.int (nI i) :: .ref (ad 2) :: rest)) :=
  fr_iald (k := 2) hx hb hK hP (by decide) rfl hi (by decide) hdg kk
theorem md_s2 {i : Nat} {x : Int32} (hx : p.tables.exec = Jvm.exec) (hb : c.code = cc) (hK : va_K D vwCl (fTys ct) s) (hI : fI 8 ad) (hS : va_S (fA 8 ad) H0 H locs) (hP : fP D 8 ad (mdc ct ad Z g hs F) H) (hi : i < 714) (hdg : decode cc pc = .ok (.iastore, 1)) (kk : ∀ (H1 : Heap) (locs1 : List Loc), fP D 8 ad (mdc ct ad Z g hs (va_up F 2 (upd (F 2) i x))) H1 → va_S (fA 8 ad) H0 H1 locs1 → W p l e R s m args below meth c H1 locs1 cells slots Q (F0 m (pc + 1) ls (rest))) : W p l e R s m args below meth c H locs cells slots Q (F0 m pc ls (.int x :: .int (nI i) :: .ref (ad 2) :: rest)) :=
  fr_iast (k := 2) hx hb hK hI hP hS (fun _ h => fA_in h) (by decide) rfl hi (by decide) hdg (fun i hi => by rcases i with _|_|_|_|_|_|_|_|i <;> first | rfl | omega) kk
theorem md_l3 {i : Nat} (hx : p.tables.exec = Jvm.exec) (hb : c.code = cc) (hK : va_K D vwCl (fTys ct) s) (hP : fP D 8 ad (mdc ct ad Z g hs F) H) (hi : i < 238) (hdg : decode cc pc = .ok (.iaload, 1)) (kk : W p l e R s m args below meth c H locs cells slots Q (F0 m (pc + 1) ls (.int ((F 3) i) :: rest))) : W p l e R s m args below meth c H locs cells slots Q (F0 m pc ls (.int (nI i) :: .ref (ad 3) :: rest)) :=
  fr_iald (k := 3) hx hb hK hP (by decide) rfl hi (by decide) hdg kk
theorem md_s3 {i : Nat} {x : Int32} (hx : p.tables.exec = Jvm.exec) (hb : c.code = cc) (hK : va_K D vwCl (fTys ct) s) (hI : fI 8 ad) (hS : va_S (fA 8 ad) H0 H locs) (hP : fP D 8 ad (mdc ct ad Z g hs F) H) (hi : i < 238) (hdg : decode cc pc = .ok (.iastore, 1)) (kk : ∀ (H1 : Heap) (locs1 : List Loc), fP D 8 ad (mdc ct ad Z g hs (va_up F 3 (upd (F 3) i x))) H1 → va_S (fA 8 ad) H0 H1 locs1 → W p l e R s m args below meth c H1 locs1 cells slots Q (F0 m (pc + 1) ls (rest))) : W p l e R s m args below meth c H locs cells slots Q (F0 m pc ls (.int x :: .int (nI i) :: .ref (ad 3) :: rest)) :=
  fr_iast (k := 3) hx hb hK hI hP hS (fun _ h => fA_in h) (by decide) rfl hi (by decide) hdg (fun i hi => by rcases i with _|_|_|_|_|_|_|_|i <;> first | rfl | omega) kk
theorem md_l4 {i : Nat} (hx : p.tables.exec = Jvm.exec) (hb : c.code = cc) (hK : va_K D vwCl (fTys ct) s) (hP : fP D 8 ad (mdc ct ad Z g hs F) H) (hi : i < 2) (hdg : decode cc pc = .ok (.baload, 1)) (kk : W p l e R s m args below meth c H locs cells slots Q (F0 m (pc + 1) ls (.int ((F 4) i) :: rest))) : W p l e R s m args below meth c H locs cells slots Q (F0 m pc ls (.int (nI i) :: .ref (ad 4) :: rest)) :=
  fr_zald (k := 4) hx hb hK hP (by decide) rfl hi (by decide) hdg kk
theorem md_s4 {i : Nat} {x : Int32} (hx : p.tables.exec = Jvm.exec) (hb : c.code = cc) (hK : va_K D vwCl (fTys ct) s) (hI : fI 8 ad) (hS : va_S (fA 8 ad) H0 H locs) (hP : fP D 8 ad (mdc ct ad Z g hs F) H) (hi : i < 2) (hx1 : vp_nar .boolean x = x) (hdg : decode cc pc = .ok (.bastore, 1)) (kk : ∀ (H1 : Heap) (locs1 : List Loc), fP D 8 ad (mdc ct ad Z g hs (va_up F 4 (upd (F 4) i x))) H1 → va_S (fA 8 ad) H0 H1 locs1 → W p l e R s m args below meth c H1 locs1 cells slots Q (F0 m (pc + 1) ls (rest))) : W p l e R s m args below meth c H locs cells slots Q (F0 m pc ls (.int x :: .int (nI i) :: .ref (ad 4) :: rest)) :=
  fr_zast (k := 4) hx hb hK hI hP hS (fun _ h => fA_in h) (by decide) rfl hi (by decide) hx1 hdg (fun i hi => by rcases i with _|_|_|_|_|_|_|_|i <;> first | rfl | omega) kk
theorem md_l5 {i : Nat} (hx : p.tables.exec = Jvm.exec) (hb : c.code = cc) (hK : va_K D vwCl (fTys ct) s) (hP : fP D 8 ad (mdc ct ad Z g hs F) H) (hi : i < 119) (hdg : decode cc pc = .ok (.iaload, 1)) (kk : W p l e R s m args below meth c H locs cells slots Q (F0 m (pc + 1) ls (.int ((F 5) i) :: rest))) : W p l e R s m args below meth c H locs cells slots Q (F0 m pc ls (.int (nI i) :: .ref (ad 5) :: rest)) :=
  fr_iald (k := 5) hx hb hK hP (by decide) rfl hi (by decide) hdg kk
theorem md_s5 {i : Nat} {x : Int32} (hx : p.tables.exec = Jvm.exec) (hb : c.code = cc) (hK : va_K D vwCl (fTys ct) s) (hI : fI 8 ad) (hS : va_S (fA 8 ad) H0 H locs) (hP : fP D 8 ad (mdc ct ad Z g hs F) H) (hi : i < 119) (hdg : decode cc pc = .ok (.iastore, 1)) (kk : ∀ (H1 : Heap) (locs1 : List Loc), fP D 8 ad (mdc ct ad Z g hs (va_up F 5 (upd (F 5) i x))) H1 → va_S (fA 8 ad) H0 H1 locs1 → W p l e R s m args below meth c H1 locs1 cells slots Q (F0 m (pc + 1) ls (rest))) : W p l e R s m args below meth c H locs cells slots Q (F0 m pc ls (.int x :: .int (nI i) :: .ref (ad 5) :: rest)) :=
  fr_iast (k := 5) hx hb hK hI hP hS (fun _ h => fA_in h) (by decide) rfl hi (by decide) hdg (fun i hi => by rcases i with _|_|_|_|_|_|_|_|i <;> first | rfl | omega) kk
theorem md_l6 {i : Nat} (hx : p.tables.exec = Jvm.exec) (hb : c.code = cc) (hK : va_K D vwCl (fTys ct) s) (hP : fP D 8 ad (mdc ct ad Z g hs F) H) (hi : i < 60) (hdg : decode cc pc = .ok (.iaload, 1)) (kk : W p l e R s m args below meth c H locs cells slots Q (F0 m (pc + 1) ls (.int ((F 6) i) :: rest))) : W p l e R s m args below meth c H locs cells slots Q (F0 m pc ls (.int (nI i) :: .ref (ad 6) :: rest)) :=
  fr_iald (k := 6) hx hb hK hP (by decide) rfl hi (by decide) hdg kk
theorem md_s6 {i : Nat} {x : Int32} (hx : p.tables.exec = Jvm.exec) (hb : c.code = cc) (hK : va_K D vwCl (fTys ct) s) (hI : fI 8 ad) (hS : va_S (fA 8 ad) H0 H locs) (hP : fP D 8 ad (mdc ct ad Z g hs F) H) (hi : i < 60) (hdg : decode cc pc = .ok (.iastore, 1)) (kk : ∀ (H1 : Heap) (locs1 : List Loc), fP D 8 ad (mdc ct ad Z g hs (va_up F 6 (upd (F 6) i x))) H1 → va_S (fA 8 ad) H0 H1 locs1 → W p l e R s m args below meth c H1 locs1 cells slots Q (F0 m (pc + 1) ls (rest))) : W p l e R s m args below meth c H locs cells slots Q (F0 m pc ls (.int x :: .int (nI i) :: .ref (ad 6) :: rest)) :=
  fr_iast (k := 6) hx hb hK hI hP hS (fun _ h => fA_in h) (by decide) rfl hi (by decide) hdg (fun i hi => by rcases i with _|_|_|_|_|_|_|_|i <;> first | rfl | omega) kk
theorem md_l7 {i : Nat} (hx : p.tables.exec = Jvm.exec) (hb : c.code = cc) (hK : va_K D vwCl (fTys ct) s) (hP : fP D 8 ad (mdc ct ad Z g hs F) H) (hi : i < 110) (hdg : decode cc pc = .ok (.iaload, 1)) (kk : W p l e R s m args below meth c H locs cells slots Q (F0 m (pc + 1) ls (.int ((F 7) i) :: rest))) : W p l e R s m args below meth c H locs cells slots Q (F0 m pc ls (.int (nI i) :: .ref (ad 7) :: rest)) :=
  fr_iald (k := 7) hx hb hK hP (by decide) rfl hi (by decide) hdg kk
theorem md_s7 {i : Nat} {x : Int32} (hx : p.tables.exec = Jvm.exec) (hb : c.code = cc) (hK : va_K D vwCl (fTys ct) s) (hI : fI 8 ad) (hS : va_S (fA 8 ad) H0 H locs) (hP : fP D 8 ad (mdc ct ad Z g hs F) H) (hi : i < 110) (hdg : decode cc pc = .ok (.iastore, 1)) (kk : ∀ (H1 : Heap) (locs1 : List Loc), fP D 8 ad (mdc ct ad Z g hs (va_up F 7 (upd (F 7) i x))) H1 → va_S (fA 8 ad) H0 H1 locs1 → W p l e R s m args below meth c H1 locs1 cells slots Q (F0 m (pc + 1) ls (rest))) : W p l e R s m args below meth c H locs cells slots Q (F0 m pc ls (.int x :: .int (nI i) :: .ref (ad 7) :: rest)) :=
  fr_iast (k := 7) hx hb hK hI hP hS (fun _ h => fA_in h) (by decide) rfl hi (by decide) hdg (fun i hi => by rcases i with _|_|_|_|_|_|_|_|i <;> first | rfl | omega) kk
theorem md_cVr {ce' : Nat → va_E} {nL : Nat} {y : MethodName} {cy : ByteArray} {maxL : Nat} {ret : Option FieldType} {fr lo : Nat} {As st0 : List Value} {rv : Value} {idx n : Nat} (hx : p.tables.exec = Jvm.exec) (hb : c.code = cc) (hown : s.vm.findClass RX6 = some m.cls) (htg : ∀ w ∈ wB, w.before args s = true) (hK : va_K D vwCl (fTys ct) s) (hI : fI 8 ad) (hS : va_S (fA 8 ad) H0 H locs) (hP : fP D 8 ad (mdc ct ad Z g hs F) H) (hml : c.maxLocals = nL) (hl : ls.size = nL)
    (hM : FMet l y cy maxL ret fr lo D ct 8 ad (.ref (ad 0) :: As) (mdc ct ad Z g hs F) (some rv) ce') (hcw : cwf RX6 idx RX6 y cy maxL ret n)
    (hst : st0 = As.reverse ++ .ref (ad 0) :: rest) (hn : As.length = n) (hR : fr + 1 ≤ R.frames ∧ 8 + (maxL + 11) + lo ≤ R.locals) (hroom : (rest.map fun v => v.category).sum ≤ 8) (hdg : decode cc pc = .ok (.invokevirtual idx, 3)) (hf : cells ≤ R.cells ∧ slots ≤ R.slots)
    (kk : ∀ (H1 : Heap) (locs1 : List Loc), fP D 8 ad ce' H1 → va_S (fA 8 ad) H0 H1 locs1 → W p l e R s m args below meth c H1 locs1 cells slots Q (F0 m (pc + 3) ls (rv :: rest))) : W p l e R s m args below meth c H locs cells slots Q (F0 m pc ls st0) :=
  fc_Vo hx hb hml hown htg hK hI hP hS hl hM hcw (k0 := 0) (by decide) rfl (ci := 6) rfl rfl hst hn hR hroom hdg hf kk
theorem md_cSr {ce' : Nat → va_E} {nL : Nat} {y : MethodName} {cy : ByteArray} {maxL : Nat} {ret : Option FieldType} {fr lo : Nat} {As st0 : List Value} {rv : Value} {idx n : Nat} (hx : p.tables.exec = Jvm.exec) (hb : c.code = cc) (hown : s.vm.findClass RX6 = some m.cls) (htg : ∀ w ∈ wB, w.before args s = true) (hK : va_K D vwCl (fTys ct) s) (hI : fI 8 ad) (hS : va_S (fA 8 ad) H0 H locs) (hP : fP D 8 ad (mdc ct ad Z g hs F) H) (hml : c.maxLocals = nL) (hl : ls.size = nL)
    (hM : FMet l y cy maxL ret fr lo D ct 8 ad As (mdc ct ad Z g hs F) (some rv) ce') (hcw : cwg RX6 idx y cy maxL ret n)
    (hst : st0 = As.reverse ++ rest) (hn : As.length = n) (hR : fr + 1 ≤ R.frames ∧ 8 + (maxL + 11) + lo ≤ R.locals) (hroom : (rest.map fun v => v.category).sum ≤ 8) (hdg : decode cc pc = .ok (.invokestatic idx, 3)) (hf : cells ≤ R.cells ∧ slots ≤ R.slots)
    (kk : ∀ (H1 : Heap) (locs1 : List Loc), fP D 8 ad ce' H1 → va_S (fA 8 ad) H0 H1 locs1 → W p l e R s m args below meth c H1 locs1 cells slots Q (F0 m (pc + 3) ls (rv :: rest))) : W p l e R s m args below meth c H locs cells slots Q (F0 m pc ls st0) :=
  fc_So hx hb hml hown htg hK hI hP hS hl hM hcw hst hn hR hroom hdg hf kk
theorem md_cV0 {ce' : Nat → va_E} {nL : Nat} {y : MethodName} {cy : ByteArray} {maxL : Nat} {ret : Option FieldType} {fr lo : Nat} {As st0 : List Value} {idx n : Nat} (hx : p.tables.exec = Jvm.exec) (hb : c.code = cc) (hown : s.vm.findClass RX6 = some m.cls) (htg : ∀ w ∈ wB, w.before args s = true) (hK : va_K D vwCl (fTys ct) s) (hI : fI 8 ad) (hS : va_S (fA 8 ad) H0 H locs) (hP : fP D 8 ad (mdc ct ad Z g hs F) H) (hml : c.maxLocals = nL) (hl : ls.size = nL)
    (hM : FMet l y cy maxL ret fr lo D ct 8 ad (.ref (ad 0) :: As) (mdc ct ad Z g hs F) none ce') (hcw : cwf RX6 idx RX6 y cy maxL ret n)
    (hst : st0 = As.reverse ++ .ref (ad 0) :: rest) (hn : As.length = n) (hR : fr + 1 ≤ R.frames ∧ 8 + (maxL + 11) + lo ≤ R.locals) (hroom : (rest.map fun v => v.category).sum ≤ 8) (hdg : decode cc pc = .ok (.invokevirtual idx, 3)) (hf : cells ≤ R.cells ∧ slots ≤ R.slots)
    (kk : ∀ (H1 : Heap) (locs1 : List Loc), fP D 8 ad ce' H1 → va_S (fA 8 ad) H0 H1 locs1 → W p l e R s m args below meth c H1 locs1 cells slots Q (F0 m (pc + 3) ls (rest))) : W p l e R s m args below meth c H locs cells slots Q (F0 m pc ls st0) :=
  fc_Vo hx hb hml hown htg hK hI hP hS hl hM hcw (k0 := 0) (by decide) rfl (ci := 6) rfl rfl hst hn hR hroom hdg hf kk
theorem md_cS0 {ce' : Nat → va_E} {nL : Nat} {y : MethodName} {cy : ByteArray} {maxL : Nat} {ret : Option FieldType} {fr lo : Nat} {As st0 : List Value} {idx n : Nat} (hx : p.tables.exec = Jvm.exec) (hb : c.code = cc) (hown : s.vm.findClass RX6 = some m.cls) (htg : ∀ w ∈ wB, w.before args s = true) (hK : va_K D vwCl (fTys ct) s) (hI : fI 8 ad) (hS : va_S (fA 8 ad) H0 H locs) (hP : fP D 8 ad (mdc ct ad Z g hs F) H) (hml : c.maxLocals = nL) (hl : ls.size = nL)
    (hM : FMet l y cy maxL ret fr lo D ct 8 ad As (mdc ct ad Z g hs F) none ce') (hcw : cwg RX6 idx y cy maxL ret n)
    (hst : st0 = As.reverse ++ rest) (hn : As.length = n) (hR : fr + 1 ≤ R.frames ∧ 8 + (maxL + 11) + lo ≤ R.locals) (hroom : (rest.map fun v => v.category).sum ≤ 8) (hdg : decode cc pc = .ok (.invokestatic idx, 3)) (hf : cells ≤ R.cells ∧ slots ≤ R.slots)
    (kk : ∀ (H1 : Heap) (locs1 : List Loc), fP D 8 ad ce' H1 → va_S (fA 8 ad) H0 H1 locs1 → W p l e R s m args below meth c H1 locs1 cells slots Q (F0 m (pc + 3) ls (rest))) : W p l e R s m args below meth c H locs cells slots Q (F0 m pc ls st0) :=
  fc_So hx hb hml hown htg hK hI hP hS hl hM hcw hst hn hR hroom hdg hf kk
end MD
end
section
/-! THE REFERENCE, as functions of its row of numbers -/
def inB (v lo hi : Int32) : Bool := decide (lo ≤ v) && decide (v ≤ hi)
def stB (Z : Nat → Int32) (k : Int32) : Bool := decide (0 ≤ k) && decide (k < Z 4)
/-- the row is one that can be walked: n stalls, at most ten, each at a socket or none; no bound is below 0 -/
def zW (Z : Nat → Int32) (n : Nat) : Prop := n ≤ 10 ∧ Z 4 = nI n ∧ (∀ k, k < n → (Z (39 + 8 * k + 4) = -1 ∨ ∃ q, q < 12 ∧ Z (39 + 8 * k + 4) = nI q)) ∧ ∀ b, b < 4 → 0 ≤ Z (7 + 5 * b + 0)
theorem zW_upd {Z : Nat → Int32} {n i : Nat} {x : Int32} (h : zW Z n) (h4 : i ≠ 4) (ha : ∀ k, k < n → i ≠ 39 + 8 * k + 4) (hbd : ∀ b, b < 4 → i ≠ 7 + 5 * b + 0) : zW (upd Z i x) n := by
  refine ⟨h.1, by rw [upd, if_neg (Ne.symm h4)]; exact h.2.1, fun k hk => ?_, fun b hb => ?_⟩
  · rw [upd, if_neg (Ne.symm (ha k hk))]
    exact h.2.2.1 k hk
  · rw [upd, if_neg (Ne.symm (hbd b hb))]
    exact h.2.2.2 b hb
theorem zW_10 {Z : Nat → Int32} {n : Nat} (h : zW Z n) : n ≤ 10 := h.1
/-- the socket of a stall that is at one -/
def skt (Z : Nat → Int32) (k : Nat) : Nat := (Z (39 + 8 * k + 4)).toNatClampNeg
theorem skt_lt {Z : Nat → Int32} {n k : Nat} (h : zW Z n) (hk : k < n) (h1 : ¬ Z (39 + 8 * k + 4) = -1) : skt Z k < 12 := by
  rcases h.2.2.1 k hk with h2 | ⟨q, hq, h2⟩
  · exact absurd h2 h1
  · unfold skt; rw [h2, nI_clamp (by omega)]; exact hq
theorem skt_eq {Z : Nat → Int32} {n k : Nat} (h : zW Z n) (hk : k < n) (h1 : ¬ Z (39 + 8 * k + 4) = -1) : Z (39 + 8 * k + 4) = nI (skt Z k) := by
  rcases h.2.2.1 k hk with h2 | ⟨q, hq, h2⟩
  · exact absurd h2 h1
  · unfold skt; rw [h2, nI_clamp (by omega)]
/-- the breaker of a socket -/
def brk (Z : Nat → Int32) (q : Nat) : Nat := if Z (27 + q) = nI 1 then 3 else q / 3
theorem brk_lt {Z : Nat → Int32} {q : Nat} (h : q < 12) : brk Z q < 4 := by
  unfold brk; split <;> omega
def hrD (Z : Nat → Int32) : Int32 := Z 3 - Z 3 / (nI 24) * (nI 24)
def wantB (Z : Nat → Int32) (k : Nat) : Bool := if Z (39 + 8 * k + 1) ≤ Z (39 + 8 * k + 2) then decide (Z (39 + 8 * k + 1) ≤ hrD Z) && decide (hrD Z ≤ Z (39 + 8 * k + 2)) else decide (Z (39 + 8 * k + 1) ≤ hrD Z) || decide (hrD Z ≤ Z (39 + 8 * k + 2))
def rsn (Z : Nat → Int32) (k : Nat) : Nat := if wantB Z k = false then 1 else if Z (39 + 8 * k + 4) = -1 then 2 else if Z (7 + 5 * brk Z (skt Z k) + 1) = 0 then 3 else if Z (39 + 8 * k + 5) = nI 1 then 4 else 0
theorem rsn_lt {Z : Nat → Int32} {k : Nat} : rsn Z k < 5 := by unfold rsn; repeat' split <;> first | omega | skip
def onB (Z : Nat → Int32) (k b : Nat) : Bool := if Z (39 + 8 * k + 4) = -1 then false else decide (brk Z (skt Z k) = b)
def drwB (Z : Nat → Int32) (k b : Nat) : Bool := onB Z k b && decide (rsn Z k = 0)
def carS (Z : Nat → Int32) (b : Nat) : Nat → Int32
  | 0 => 0
  | i + 1 => carS Z b i + (if drwB Z i b = true then Z (39 + 8 * i + 0) else 0)
def gofB (Z : Nat → Int32) (k j : Nat) : Bool := decide (Z (39 + 8 * j + 3) < Z (39 + 8 * k + 3)) || (decide (Z (39 + 8 * k + 3) = Z (39 + 8 * j + 3)) && decide (Z (39 + 8 * j + 0) < Z (39 + 8 * k + 0)))
set_option maxRecDepth 100000 in
set_option maxHeartbeats 4000000 in
theorem m6_in (l : Launch) (D : va_G) (ct : Nat → ClassId) (ad : Nat → Nat) (Z g : Nat → Int32) (hs : Int64) (F : Nat → Nat → Int32) (v : Int32) (lo : Int32) (hi : Int32)   : FMet l yX6_in cX6_in 3 (some .boolean) 0 0 D ct 8 ad [.int (v), .int (lo), .int (hi)] (mdc ct ad Z g hs F) (some (.int (bi (inB v lo hi)))) (mdc ct ad Z g hs F) := by
  refine FMet.of (by decide +kernel) (Nat.le_of_ble_eq_true rfl) ?_
  intro p e s m args below meth c ls hx hb hr hml hown hlocks htg hK hI hP hS hl
  have hl : lv_has ls 3 [(0, .int (v)), (1, .int (lo)), (2, .int (hi))] := hl
  refine lv_iload_n hx hb dX6_in_0 rfl (lv_at hl 0 rfl) ?_
  refine lv_iload_n hx hb dX6_in_1 rfl (lv_at hl 1 rfl) ?_
  refine lv_icmp_ltR (tgt := 14) hx hb dX6_in_2 (by decide) (fun c2 => ?_) (fun c2 => ?_)
  · refine lv_iconst (v := nI 0) hx hb dX6_in_14 (by decide) ?_
    refine fr_iret hx hb hr hlocks hK hI hS rfl dX6_in_15 ?_ ?_
    · exact (congrArg bi (show (inB v lo hi) = false from by simp [inB, c2, Int32.not_le.mpr c2])).symm
    · exact hP
  · refine lv_iload_n hx hb dX6_in_5 rfl (lv_at hl 0 rfl) ?_
    refine lv_iload_n hx hb dX6_in_6 rfl (lv_at hl 2 rfl) ?_
    refine lv_icmp_gtR (tgt := 14) hx hb dX6_in_7 (by decide) (fun c7 => ?_) (fun c7 => ?_)
    · refine lv_iconst (v := nI 0) hx hb dX6_in_14 (by decide) ?_
      refine fr_iret hx hb hr hlocks hK hI hS rfl dX6_in_15 ?_ ?_
      · exact (congrArg bi (show (inB v lo hi) = false from by simp [inB, c2, Int32.not_lt.mpr c2, c7, Int32.not_le.mpr c7])).symm
      · exact hP
    · refine lv_iconst (v := nI 1) hx hb dX6_in_10 (by decide) ?_
      refine lv_goto (tgt := 15) hx hb dX6_in_11 (by decide) ?_
      refine fr_iret hx hb hr hlocks hK hI hS rfl dX6_in_15 ?_ ?_
      · exact (congrArg bi (show (inB v lo hi) = true from by simp [inB, c2, Int32.not_lt.mpr c2, c7, Int32.not_lt.mpr c7])).symm
      · exact hP
set_option maxRecDepth 100000 in
set_option maxHeartbeats 4000000 in
theorem m6_isBreaker (l : Launch) (D : va_G) (ct : Nat → ClassId) (ad : Nat → Nat) (Z g : Nat → Int32) (hs : Int64) (F : Nat → Nat → Int32) (b : Int32)   : FMet l yX6_isBreaker cX6_isBreaker 1 (some .boolean) 1 22 D ct 8 ad [.int (b)] (mdc ct ad Z g hs F) (some (.int (bi (inB b 0 3)))) (mdc ct ad Z g hs F) := by
  refine FMet.of (by decide +kernel) (Nat.le_of_ble_eq_true rfl) ?_
  intro p e s m args below meth c ls hx hb hr hml hown hlocks htg hK hI hP hS hl
  have hl : lv_has ls 1 [(0, .int (b))] := hl
  refine lv_iload_n hx hb dX6_isBreaker_0 rfl (lv_at hl 0 rfl) ?_
  refine lv_iconst (v := nI 0) hx hb dX6_isBreaker_1 (by decide) ?_
  refine lv_iconst (v := nI 3) hx hb dX6_isBreaker_2 (by decide) ?_
  refine md_cSr (As := [.int (b), .int (nI 0), .int (nI 3)]) (rest := []) hx hb hown htg hK hI hS hP hml hl.1 (m6_in l D ct ad _ _ _ _ b (nI 0) (nI 3)) cw_X6_40 rfl rfl ⟨Nat.le_of_ble_eq_true rfl, Nat.le_of_ble_eq_true rfl⟩ (Nat.le_of_ble_eq_true rfl) dX6_isBreaker_3 ⟨Nat.le_refl _, Nat.le_refl _⟩ (fun H locs hP hS => ?_)
  refine fr_iret hx hb hr hlocks hK hI hS bi_n dX6_isBreaker_6 ?_ ?_
  · exact congrArg bi (show (inB b (nI 0) (nI 3)) = (inB b 0 3) from by rfl)
  · exact hP
set_option maxRecDepth 100000 in
set_option maxHeartbeats 4000000 in
theorem m6_isSocket (l : Launch) (D : va_G) (ct : Nat → ClassId) (ad : Nat → Nat) (Z g : Nat → Int32) (hs : Int64) (F : Nat → Nat → Int32) (q : Int32)   : FMet l yX6_isSocket cX6_isSocket 1 (some .boolean) 1 22 D ct 8 ad [.int (q)] (mdc ct ad Z g hs F) (some (.int (bi (inB q 0 11)))) (mdc ct ad Z g hs F) := by
  refine FMet.of (by decide +kernel) (Nat.le_of_ble_eq_true rfl) ?_
  intro p e s m args below meth c ls hx hb hr hml hown hlocks htg hK hI hP hS hl
  have hl : lv_has ls 1 [(0, .int (q))] := hl
  refine lv_iload_n hx hb dX6_isSocket_0 rfl (lv_at hl 0 rfl) ?_
  refine lv_iconst (v := nI 0) hx hb dX6_isSocket_1 (by decide) ?_
  refine lv_bipush (v := nI 11) hx hb dX6_isSocket_2 (by decide) ?_
  refine md_cSr (As := [.int (q), .int (nI 0), .int (nI 11)]) (rest := []) hx hb hown htg hK hI hS hP hml hl.1 (m6_in l D ct ad _ _ _ _ q (nI 0) (nI 11)) cw_X6_40 rfl rfl ⟨Nat.le_of_ble_eq_true rfl, Nat.le_of_ble_eq_true rfl⟩ (Nat.le_of_ble_eq_true rfl) dX6_isSocket_4 ⟨Nat.le_refl _, Nat.le_refl _⟩ (fun H locs hP hS => ?_)
  refine fr_iret hx hb hr hlocks hK hI hS bi_n dX6_isSocket_7 ?_ ?_
  · exact congrArg bi (show (inB q (nI 0) (nI 11)) = (inB q 0 11) from by rfl)
  · exact hP
set_option maxRecDepth 100000 in
set_option maxHeartbeats 4000000 in
theorem m6_isStall (l : Launch) (D : va_G) (ct : Nat → ClassId) (ad : Nat → Nat) (Z g : Nat → Int32) (hs : Int64) (F : Nat → Nat → Int32) (k : Int32)   : FMet l yX6_isStall cX6_isStall 2 (some .boolean) 0 0 D ct 8 ad [.ref (ad 0), .int (k)] (mdc ct ad Z g hs F) (some (.int (bi (stB Z k)))) (mdc ct ad Z g hs F) := by
  refine FMet.of (by decide +kernel) (Nat.le_of_ble_eq_true rfl) ?_
  intro p e s m args below meth c ls hx hb hr hml hown hlocks htg hK hI hP hS hl
  have hl : lv_has ls 2 [(0, .ref (ad 0)), (1, .int (k))] := hl
  refine lv_iload_n hx hb dX6_isStall_0 rfl (lv_at hl 1 rfl) ?_
  refine lv_ifltR (tgt := 18) hx hb dX6_isStall_1 (by decide) (fun c1 => ?_) (fun c1 => ?_)
  · refine lv_iconst (v := nI 0) hx hb dX6_isStall_18 (by decide) ?_
    refine fr_iret hx hb hr hlocks hK hI hS rfl dX6_isStall_19 ?_ ?_
    · exact (congrArg bi (show (stB Z k) = false from by simp [stB, c1, Int32.not_le.mpr c1])).symm
    · exact hP
  · refine lv_iload_n hx hb dX6_isStall_4 rfl (lv_at hl 1 rfl) ?_
    refine lv_aload_n hx hb dX6_isStall_5 rfl (lv_at hl 0 rfl) ?_
    refine md_g1 hx hb hown htg hK hP dX6_isStall_6 ?_
    refine lv_iconst (v := nI 4) hx hb dX6_isStall_9 (by decide) ?_
    refine md_l1 hx hb hK hP (by omega) dX6_isStall_10 ?_
    refine lv_icmp_geR (tgt := 18) hx hb dX6_isStall_11 (by decide) (fun c11 => ?_) (fun c11 => ?_)
    · refine lv_iconst (v := nI 0) hx hb dX6_isStall_18 (by decide) ?_
      refine fr_iret hx hb hr hlocks hK hI hS rfl dX6_isStall_19 ?_ ?_
      · exact (congrArg bi (show (stB Z k) = false from by simp [stB, c1, Int32.not_lt.mpr c1, c11, Int32.not_lt.mpr c11])).symm
      · exact hP
    · refine lv_iconst (v := nI 1) hx hb dX6_isStall_14 (by decide) ?_
      refine lv_goto (tgt := 19) hx hb dX6_isStall_15 (by decide) ?_
      refine fr_iret hx hb hr hlocks hK hI hS rfl dX6_isStall_19 ?_ ?_
      · exact (congrArg bi (show (stB Z k) = true from by simp [stB, c1, Int32.not_lt.mpr c1, c11, Int32.not_le.mpr c11])).symm
      · exact hP
set_option maxRecDepth 100000 in
set_option maxHeartbeats 4000000 in
theorem m6_thrown (l : Launch) (D : va_G) (ct : Nat → ClassId) (ad : Nat → Nat) (Z g : Nat → Int32) (hs : Int64) (F : Nat → Nat → Int32)    : FMet l yX6_thrown cX6_thrown 1 (some .int) 0 0 D ct 8 ad [.ref (ad 0)] (mdc ct ad Z g hs F) (some (.int (g 0))) (mdc ct ad Z g hs F) := by
  refine FMet.of (by decide +kernel) (Nat.le_of_ble_eq_true rfl) ?_
  intro p e s m args below meth c ls hx hb hr hml hown hlocks htg hK hI hP hS hl
  have hl : lv_has ls 1 [(0, .ref (ad 0))] := hl
  refine lv_aload_n hx hb dX6_thrown_0 rfl (lv_at hl 0 rfl) ?_
  refine md_g0 (v := g 0) hx hb hown htg hK hP rfl dX6_thrown_1 ?_
  refine fr_iret hx hb hr hlocks hK hI hS rfl dX6_thrown_4 ?_ ?_
  · exact rfl
  · exact hP
set_option maxRecDepth 100000 in
set_option maxHeartbeats 4000000 in
theorem m6_by (l : Launch) (D : va_G) (ct : Nat → ClassId) (ad : Nat → Nat) (Z g : Nat → Int32) (hs : Int64) (F : Nat → Nat → Int32) (b : Nat) (w : Nat)  (hb4 : b < 4) (hw5 : w < 5) : FMet l yX6_by cX6_by 3 (some .int) 0 0 D ct 8 ad [.ref (ad 0), .int (nI b), .int (nI w)] (mdc ct ad Z g hs F) (some (.int (Z (7 + 5 * b + w)))) (mdc ct ad Z g hs F) := by
  refine FMet.of (by decide +kernel) (Nat.le_of_ble_eq_true rfl) ?_
  intro p e s m args below meth c ls hx hb hr hml hown hlocks htg hK hI hP hS hl
  have hl : lv_has ls 3 [(0, .ref (ad 0)), (1, .int (nI b)), (2, .int (nI w))] := hl
  refine lv_aload_n hx hb dX6_by_0 rfl (lv_at hl 0 rfl) ?_
  refine md_g1 hx hb hown htg hK hP dX6_by_1 ?_
  refine lv_bipush (v := nI 7) hx hb dX6_by_4 (by decide) ?_
  refine lv_iconst (v := nI 5) hx hb dX6_by_6 (by decide) ?_
  refine lv_iload_n hx hb dX6_by_7 rfl (lv_at hl 1 rfl) ?_
  refine lv_imulN hx hb dX6_by_8 ?_
  refine lv_iaddN hx hb dX6_by_9 ?_
  refine lv_iload_n hx hb dX6_by_10 rfl (lv_at hl 2 rfl) ?_
  refine lv_iaddN hx hb dX6_by_11 ?_
  refine md_l1 hx hb hK hP (by omega) dX6_by_12 ?_
  refine fr_iret hx hb hr hlocks hK hI hS rfl dX6_by_13 ?_ ?_
  · exact rfl
  · exact hP
set_option maxRecDepth 100000 in
set_option maxHeartbeats 4000000 in
theorem m6_put (l : Launch) (D : va_G) (ct : Nat → ClassId) (ad : Nat → Nat) (Z g : Nat → Int32) (hs : Int64) (F : Nat → Nat → Int32) (b : Nat) (w : Nat) (v : Int32)  (hb4 : b < 4) (hw5 : w < 5) : FMet l yX6_put cX6_put 4 (none : Option Jvm.ClassFile.FieldType) 0 0 D ct 8 ad [.ref (ad 0), .int (nI b), .int (nI w), .int (v)] (mdc ct ad Z g hs F) none (mdc ct ad (upd Z (7 + 5 * b + w) v) g hs F) := by
  refine FMet.of (by decide +kernel) (Nat.le_of_ble_eq_true rfl) ?_
  intro p e s m args below meth c ls hx hb hr hml hown hlocks htg hK hI hP hS hl
  have hl : lv_has ls 4 [(0, .ref (ad 0)), (1, .int (nI b)), (2, .int (nI w)), (3, .int (v))] := hl
  refine lv_aload_n hx hb dX6_put_0 rfl (lv_at hl 0 rfl) ?_
  refine md_g1 hx hb hown htg hK hP dX6_put_1 ?_
  refine lv_bipush (v := nI 7) hx hb dX6_put_4 (by decide) ?_
  refine lv_iconst (v := nI 5) hx hb dX6_put_6 (by decide) ?_
  refine lv_iload_n hx hb dX6_put_7 rfl (lv_at hl 1 rfl) ?_
  refine lv_imulN hx hb dX6_put_8 ?_
  refine lv_iaddN hx hb dX6_put_9 ?_
  refine lv_iload_n hx hb dX6_put_10 rfl (lv_at hl 2 rfl) ?_
  refine lv_iaddN hx hb dX6_put_11 ?_
  refine lv_iload_n hx hb dX6_put_12 rfl (lv_at hl 3 rfl) ?_
  refine md_s1 hx hb hK hI hS hP (by omega) dX6_put_13 (fun H locs hP hS => ?_)
  refine fr_vret hx hb hr hlocks hK hI hS dX6_put_14 ?_
  exact hP
set_option maxRecDepth 100000 in
set_option maxHeartbeats 4000000 in
theorem m6_of (l : Launch) (D : va_G) (ct : Nat → ClassId) (ad : Nat → Nat) (Z g : Nat → Int32) (hs : Int64) (F : Nat → Nat → Int32) (k : Nat) (w : Nat)  (hk10 : k < 10) (hw8 : w < 8) : FMet l yX6_of cX6_of 3 (some .int) 0 0 D ct 8 ad [.ref (ad 0), .int (nI k), .int (nI w)] (mdc ct ad Z g hs F) (some (.int (Z (39 + 8 * k + w)))) (mdc ct ad Z g hs F) := by
  refine FMet.of (by decide +kernel) (Nat.le_of_ble_eq_true rfl) ?_
  intro p e s m args below meth c ls hx hb hr hml hown hlocks htg hK hI hP hS hl
  have hl : lv_has ls 3 [(0, .ref (ad 0)), (1, .int (nI k)), (2, .int (nI w))] := hl
  refine lv_aload_n hx hb dX6_of_0 rfl (lv_at hl 0 rfl) ?_
  refine md_g1 hx hb hown htg hK hP dX6_of_1 ?_
  refine lv_bipush (v := nI 39) hx hb dX6_of_4 (by decide) ?_
  refine lv_bipush (v := nI 8) hx hb dX6_of_6 (by decide) ?_
  refine lv_iload_n hx hb dX6_of_8 rfl (lv_at hl 1 rfl) ?_
  refine lv_imulN hx hb dX6_of_9 ?_
  refine lv_iaddN hx hb dX6_of_10 ?_
  refine lv_iload_n hx hb dX6_of_11 rfl (lv_at hl 2 rfl) ?_
  refine lv_iaddN hx hb dX6_of_12 ?_
  refine md_l1 hx hb hK hP (by omega) dX6_of_13 ?_
  refine fr_iret hx hb hr hlocks hK hI hS rfl dX6_of_14 ?_ ?_
  · exact rfl
  · exact hP
set_option maxRecDepth 100000 in
set_option maxHeartbeats 4000000 in
theorem m6_lay (l : Launch) (D : va_G) (ct : Nat → ClassId) (ad : Nat → Nat) (Z g : Nat → Int32) (hs : Int64) (F : Nat → Nat → Int32) (k : Nat) (w : Nat) (v : Int32)  (hk10 : k < 10) (hw8 : w < 8) : FMet l yX6_lay cX6_lay 4 (none : Option Jvm.ClassFile.FieldType) 0 0 D ct 8 ad [.ref (ad 0), .int (nI k), .int (nI w), .int (v)] (mdc ct ad Z g hs F) none (mdc ct ad (upd Z (39 + 8 * k + w) v) g hs F) := by
  refine FMet.of (by decide +kernel) (Nat.le_of_ble_eq_true rfl) ?_
  intro p e s m args below meth c ls hx hb hr hml hown hlocks htg hK hI hP hS hl
  have hl : lv_has ls 4 [(0, .ref (ad 0)), (1, .int (nI k)), (2, .int (nI w)), (3, .int (v))] := hl
  refine lv_aload_n hx hb dX6_lay_0 rfl (lv_at hl 0 rfl) ?_
  refine md_g1 hx hb hown htg hK hP dX6_lay_1 ?_
  refine lv_bipush (v := nI 39) hx hb dX6_lay_4 (by decide) ?_
  refine lv_bipush (v := nI 8) hx hb dX6_lay_6 (by decide) ?_
  refine lv_iload_n hx hb dX6_lay_8 rfl (lv_at hl 1 rfl) ?_
  refine lv_imulN hx hb dX6_lay_9 ?_
  refine lv_iaddN hx hb dX6_lay_10 ?_
  refine lv_iload_n hx hb dX6_lay_11 rfl (lv_at hl 2 rfl) ?_
  refine lv_iaddN hx hb dX6_lay_12 ?_
  refine lv_iload_n hx hb dX6_lay_13 rfl (lv_at hl 3 rfl) ?_
  refine md_s1 hx hb hK hI hS hP (by omega) dX6_lay_14 (fun H locs hP hS => ?_)
  refine fr_vret hx hb hr hlocks hK hI hS dX6_lay_15 ?_
  exact hP
set_option maxRecDepth 100000 in
set_option maxHeartbeats 4000000 in
theorem m6_breakerOf (l : Launch) (D : va_G) (ct : Nat → ClassId) (ad : Nat → Nat) (Z g : Nat → Int32) (hs : Int64) (F : Nat → Nat → Int32) (q : Nat)  (hq : q < 12) : FMet l yX6_breakerOf cX6_breakerOf 2 (some .int) 0 0 D ct 8 ad [.ref (ad 0), .int (nI q)] (mdc ct ad Z g hs F) (some (.int (nI (brk Z q)))) (mdc ct ad Z g hs F) := by
  refine FMet.of (by decide +kernel) (Nat.le_of_ble_eq_true rfl) ?_
  intro p e s m args below meth c ls hx hb hr hml hown hlocks htg hK hI hP hS hl
  have hl : lv_has ls 2 [(0, .ref (ad 0)), (1, .int (nI q))] := hl
  refine lv_aload_n hx hb dX6_breakerOf_0 rfl (lv_at hl 0 rfl) ?_
  refine md_g1 hx hb hown htg hK hP dX6_breakerOf_1 ?_
  refine lv_bipush (v := nI 27) hx hb dX6_breakerOf_4 (by decide) ?_
  refine lv_iload_n hx hb dX6_breakerOf_6 rfl (lv_at hl 1 rfl) ?_
  refine lv_iaddN hx hb dX6_breakerOf_7 ?_
  refine md_l1 hx hb hK hP (by omega) dX6_breakerOf_8 ?_
  refine lv_iconst (v := nI 1) hx hb dX6_breakerOf_9 (by decide) ?_
  refine lv_icmp_ne (tgt := 17) hx hb dX6_breakerOf_10 (by decide) (fun c10 => ?_) (fun c10 => ?_)
  · refine lv_iload_n hx hb dX6_breakerOf_17 rfl (lv_at hl 1 rfl) ?_
    refine lv_iconst (v := nI 3) hx hb dX6_breakerOf_18 (by decide) ?_
    refine lv_idivN hx hb (by omega) (by omega) (by omega) dX6_breakerOf_19 ?_
    refine fr_iret hx hb hr hlocks hK hI hS rfl dX6_breakerOf_20 ?_ ?_
    · exact congrArg nI (show q / 3 = brk Z q from by simp [brk, c10])
    · exact hP
  · refine lv_iconst (v := nI 3) hx hb dX6_breakerOf_13 (by decide) ?_
    refine lv_goto (tgt := 20) hx hb dX6_breakerOf_14 (by decide) ?_
    refine fr_iret hx hb hr hlocks hK hI hS rfl dX6_breakerOf_20 ?_ ?_
    · exact congrArg nI (show 3 = brk Z q from by simp [brk, c10])
    · exact hP
set_option maxRecDepth 100000 in
set_option maxHeartbeats 4000000 in
theorem m6_wantsLoad (l : Launch) (D : va_G) (ct : Nat → ClassId) (ad : Nat → Nat) (Z g : Nat → Int32) (hs : Int64) (F : Nat → Nat → Int32) (k : Nat) (n : Nat) (hw : zW Z n) (hkn : k < n) : FMet l yX6_wantsLoad cX6_wantsLoad 5 (some .boolean) 1 22 D ct 8 ad [.ref (ad 0), .int (nI k)] (mdc ct ad Z g hs F) (some (.int (bi (wantB Z k)))) (mdc ct ad Z g hs F) := by
  refine FMet.of (by decide +kernel) (Nat.le_of_ble_eq_true rfl) ?_
  intro p e s m args below meth c ls hx hb hr hml hown hlocks htg hK hI hP hS hl
  have hl : lv_has ls 5 [(0, .ref (ad 0)), (1, .int (nI k))] := hl
  have hn10 := hw.1
  refine lv_aload_n hx hb dX6_wantsLoad_0 rfl (lv_at hl 0 rfl) ?_
  refine md_g1 hx hb hown htg hK hP dX6_wantsLoad_1 ?_
  refine lv_iconst (v := nI 3) hx hb dX6_wantsLoad_4 (by decide) ?_
  refine md_l1 hx hb hK hP (by omega) dX6_wantsLoad_5 ?_
  refine lv_bipush (v := nI 24) hx hb dX6_wantsLoad_6 (by decide) ?_
  refine lv_irem hx hb dX6_wantsLoad_8 (by decide) ?_
  refine lv_istore_n (lv' := [(2, .int ((Z 3) - (Z 3) / (nI 24) * (nI 24))), (0, .ref (ad 0)), (1, .int (nI k))]) hx hb dX6_wantsLoad_9 rfl hl (by decide) rfl (fun ls hl => ?_)
  refine lv_aload_n hx hb dX6_wantsLoad_10 rfl (lv_at hl 1 rfl) ?_
  refine lv_iload_n hx hb dX6_wantsLoad_11 rfl (lv_at hl 2 rfl) ?_
  refine lv_iconst (v := nI 1) hx hb dX6_wantsLoad_12 (by decide) ?_
  refine md_cVr (As := [.int (nI k), .int (nI 1)]) (rest := []) hx hb hown htg hK hI hS hP hml hl.1 (m6_of l D ct ad _ _ _ _ k 1 (by omega) (by omega)) cw_X6_47 rfl rfl ⟨Nat.le_of_ble_eq_true rfl, Nat.le_of_ble_eq_true rfl⟩ (Nat.le_of_ble_eq_true rfl) dX6_wantsLoad_13 ⟨Nat.le_refl _, Nat.le_refl _⟩ (fun H locs hP hS => ?_)
  refine lv_istore_n (lv' := [(3, .int (Z (39 + 8 * k + 1))), (2, .int ((Z 3) - (Z 3) / (nI 24) * (nI 24))), (0, .ref (ad 0)), (1, .int (nI k))]) hx hb dX6_wantsLoad_16 rfl hl (by decide) rfl (fun ls hl => ?_)
  refine lv_aload_n hx hb dX6_wantsLoad_17 rfl (lv_at hl 2 rfl) ?_
  refine lv_iload_n hx hb dX6_wantsLoad_18 rfl (lv_at hl 3 rfl) ?_
  refine lv_iconst (v := nI 2) hx hb dX6_wantsLoad_19 (by decide) ?_
  refine md_cVr (As := [.int (nI k), .int (nI 2)]) (rest := []) hx hb hown htg hK hI hS hP hml hl.1 (m6_of l D ct ad _ _ _ _ k 2 (by omega) (by omega)) cw_X6_47 rfl rfl ⟨Nat.le_of_ble_eq_true rfl, Nat.le_of_ble_eq_true rfl⟩ (Nat.le_of_ble_eq_true rfl) dX6_wantsLoad_20 ⟨Nat.le_refl _, Nat.le_refl _⟩ (fun H locs hP hS => ?_)
  refine lv_istore (lv' := [(4, .int (Z (39 + 8 * k + 2))), (3, .int (Z (39 + 8 * k + 1))), (2, .int ((Z 3) - (Z 3) / (nI 24) * (nI 24))), (0, .ref (ad 0)), (1, .int (nI k))]) hx hb dX6_wantsLoad_23 hl (by decide) rfl (fun ls hl => ?_)
  refine lv_iload_n hx hb dX6_wantsLoad_25 rfl (lv_at hl 1 rfl) ?_
  refine lv_iload hx hb dX6_wantsLoad_26 (lv_at hl 0 rfl) ?_
  refine lv_icmp_gtR (tgt := 50) hx hb dX6_wantsLoad_28 (by decide) (fun c28 => ?_) (fun c28 => ?_)
  · refine lv_iload_n hx hb dX6_wantsLoad_50 rfl (lv_at hl 2 rfl) ?_
    refine lv_iload_n hx hb dX6_wantsLoad_51 rfl (lv_at hl 1 rfl) ?_
    refine lv_icmp_geR (tgt := 61) hx hb dX6_wantsLoad_52 (by decide) (fun c52 => ?_) (fun c52 => ?_)
    · refine lv_iconst (v := nI 1) hx hb dX6_wantsLoad_61 (by decide) ?_
      refine lv_goto (tgt := 66) hx hb dX6_wantsLoad_62 (by decide) ?_
      refine fr_iret hx hb hr hlocks hK hI hS rfl dX6_wantsLoad_66 ?_ ?_
      · exact (congrArg bi (show (wantB Z k) = true from by simp [wantB, hrD, c28, Int32.not_le.mpr c28, c52, Int32.not_lt.mpr c52])).symm
      · exact hP
    · refine lv_iload_n hx hb dX6_wantsLoad_55 rfl (lv_at hl 2 rfl) ?_
      refine lv_iload hx hb dX6_wantsLoad_56 (lv_at hl 0 rfl) ?_
      refine lv_icmp_gtR (tgt := 65) hx hb dX6_wantsLoad_58 (by decide) (fun c58 => ?_) (fun c58 => ?_)
      · refine lv_iconst (v := nI 0) hx hb dX6_wantsLoad_65 (by decide) ?_
        refine fr_iret hx hb hr hlocks hK hI hS rfl dX6_wantsLoad_66 ?_ ?_
        · exact (congrArg bi (show (wantB Z k) = false from by simp [wantB, hrD, c28, Int32.not_le.mpr c28, c52, Int32.not_le.mpr c52, c58, Int32.not_le.mpr c58])).symm
        · exact hP
      · refine lv_iconst (v := nI 1) hx hb dX6_wantsLoad_61 (by decide) ?_
        refine lv_goto (tgt := 66) hx hb dX6_wantsLoad_62 (by decide) ?_
        refine fr_iret hx hb hr hlocks hK hI hS rfl dX6_wantsLoad_66 ?_ ?_
        · exact (congrArg bi (show (wantB Z k) = true from by simp [wantB, hrD, c28, Int32.not_le.mpr c28, c52, Int32.not_le.mpr c52, c58, Int32.not_lt.mpr c58])).symm
        · exact hP
  · refine lv_iload_n hx hb dX6_wantsLoad_31 rfl (lv_at hl 2 rfl) ?_
    refine lv_iload_n hx hb dX6_wantsLoad_32 rfl (lv_at hl 1 rfl) ?_
    refine lv_icmp_ltR (tgt := 46) hx hb dX6_wantsLoad_33 (by decide) (fun c33 => ?_) (fun c33 => ?_)
    · refine lv_iconst (v := nI 0) hx hb dX6_wantsLoad_46 (by decide) ?_
      refine lv_goto (tgt := 66) hx hb dX6_wantsLoad_47 (by decide) ?_
      refine fr_iret hx hb hr hlocks hK hI hS rfl dX6_wantsLoad_66 ?_ ?_
      · exact (congrArg bi (show (wantB Z k) = false from by simp [wantB, hrD, c28, Int32.not_lt.mpr c28, c33, Int32.not_le.mpr c33])).symm
      · exact hP
    · refine lv_iload_n hx hb dX6_wantsLoad_36 rfl (lv_at hl 2 rfl) ?_
      refine lv_iload hx hb dX6_wantsLoad_37 (lv_at hl 0 rfl) ?_
      refine lv_icmp_gtR (tgt := 46) hx hb dX6_wantsLoad_39 (by decide) (fun c39 => ?_) (fun c39 => ?_)
      · refine lv_iconst (v := nI 0) hx hb dX6_wantsLoad_46 (by decide) ?_
        refine lv_goto (tgt := 66) hx hb dX6_wantsLoad_47 (by decide) ?_
        refine fr_iret hx hb hr hlocks hK hI hS rfl dX6_wantsLoad_66 ?_ ?_
        · exact (congrArg bi (show (wantB Z k) = false from by simp [wantB, hrD, c28, Int32.not_lt.mpr c28, c33, Int32.not_lt.mpr c33, c39, Int32.not_le.mpr c39])).symm
        · exact hP
      · refine lv_iconst (v := nI 1) hx hb dX6_wantsLoad_42 (by decide) ?_
        refine lv_goto (tgt := 66) hx hb dX6_wantsLoad_43 (by decide) ?_
        refine fr_iret hx hb hr hlocks hK hI hS rfl dX6_wantsLoad_66 ?_ ?_
        · exact (congrArg bi (show (wantB Z k) = true from by simp [wantB, hrD, c28, Int32.not_lt.mpr c28, c33, Int32.not_lt.mpr c33, c39, Int32.not_lt.mpr c39])).symm
        · exact hP
end
section
/-! THE REFERENCE: reasons, loads, who is shed first -/
def drN (Z : Nat → Int32) (b : Nat) : Nat → Nat
  | 0 => 0
  | i + 1 => drN Z b i + (if drwB Z i b = true then 1 else 0)
/-- a stall's number, or none: 10 -/
def ox (x : Nat) : Int32 := if x = 10 then -1 else nI x
theorem ox_10 {x : Nat} (h : x = 10) : ox x = -1 := if_pos h
theorem ox_n {x : Nat} (h : x ≠ 10) : ox x = nI x := if_neg h
theorem ox_m {x : Nat} (hx : x ≤ 10) (h : ox x = -1) : x = 10 := by
  by_cases h1 : x = 10
  · exact h1
  · rw [ox_n h1] at h
    have h2 := congrArg Int32.toInt h
    rw [nI_toInt (by omega)] at h2
    have h3 : (-1 : Int32).toInt = -1 := by decide
    rw [h3] at h2
    omega
theorem ox_nm {x : Nat} (h : ¬ ox x = -1) : x ≠ 10 := fun q => h (ox_10 q)
def ftn (Z : Nat → Int32) (b : Nat) : Nat → Nat
  | 0 => 10
  | i + 1 => if drwB Z i b = true ∧ (ftn Z b i = 10 ∨ gofB Z i (ftn Z b i) = true) then i else ftn Z b i
theorem ftn_lt (Z : Nat → Int32) (b : Nat) : ∀ i, ftn Z b i = 10 ∨ ftn Z b i < i
  | 0 => Or.inl rfl
  | i + 1 => by
    unfold ftn
    rcases ftn_lt Z b i with h | h <;> split <;> omega
theorem ftn_le (Z : Nat → Int32) (b i : Nat) (h : i ≤ 10) : ftn Z b i ≤ 10 := by
  rcases ftn_lt Z b i with h1 | h1 <;> omega
theorem ftn_drw (Z : Nat → Int32) (b : Nat) : ∀ i, ftn Z b i ≠ 10 → drwB Z (ftn Z b i) b = true
  | 0, h => absurd rfl h
  | i + 1, h => by
    unfold ftn at h ⊢
    split
    · rename_i q; exact q.1
    · rename_i q; rw [if_neg q] at h; exact ftn_drw Z b i h
theorem ftn_none (Z : Nat → Int32) (b : Nat) : ∀ i, i ≤ 10 → ftn Z b i = 10 → ∀ j, j < i → drwB Z j b = false
  | 0, _, _, j, hj => absurd hj (Nat.not_lt_zero _)
  | i + 1, hi, h, j, hj => by
    unfold ftn at h
    by_cases q : drwB Z i b = true ∧ (ftn Z b i = 10 ∨ gofB Z i (ftn Z b i) = true)
    · rw [if_pos q] at h; omega
    · rw [if_neg q] at h
      rcases Nat.lt_succ_iff_lt_or_eq.mp hj with h1 | rfl
      · exact ftn_none Z b i (by omega) h j h1
      · cases h2 : drwB Z j b
        · rfl
        · exact absurd ⟨h2, Or.inl h⟩ q
theorem ftn_no {Z : Nat → Int32} {b i : Nat} (h : drwB Z i b = false) : ftn Z b (i + 1) = ftn Z b i := by
  show (if _ then _ else _) = _
  rw [if_neg (by rw [h]; simp)]
theorem ftn_first {Z : Nat → Int32} {b i : Nat} (h : drwB Z i b = true) (h2 : ftn Z b i = 10) : ftn Z b (i + 1) = i := by
  show (if _ then _ else _) = _
  rw [if_pos ⟨h, Or.inl h2⟩]
theorem ftn_better {Z : Nat → Int32} {b i : Nat} (h : drwB Z i b = true) (h2 : gofB Z i (ftn Z b i) = true) : ftn Z b (i + 1) = i := by
  show (if _ then _ else _) = _
  rw [if_pos ⟨h, Or.inr h2⟩]
theorem ftn_worse {Z : Nat → Int32} {b i : Nat} (h : ftn Z b i ≠ 10) (h2 : gofB Z i (ftn Z b i) = false) : ftn Z b (i + 1) = ftn Z b i := by
  show (if _ then _ else _) = _
  rw [if_neg (by rw [h2]; simp [h])]
theorem carS_0 (Z : Nat → Int32) (b : Nat) : ∀ i, (∀ j, j < i → drwB Z j b = false) → carS Z b i = 0
  | 0, _ => rfl
  | i + 1, h => by
    unfold carS
    rw [carS_0 Z b i (fun j hj => h j (by omega)), h i (by omega)]
    rfl
def shC (Z : Nat → Int32) (b n : Nat) : Bool := decide (Z 1 = nI 1) && decide (Z (7 + 5 * b + 1) = nI 1) && decide (Z (7 + 5 * b + 0) < carS Z b n)
def shS (Z : Nat → Int32) (b n : Nat) : Nat → Int32 := upd (upd Z (39 + 8 * ftn Z b n + 5) (nI 1)) 5 ((upd Z (39 + 8 * ftn Z b n + 5) (nI 1)) 5 + nI 1)
def shL (b n : Nat) : Nat → (Nat → Int32) → Nat → Int32
  | 0, Z => Z
  | f + 1, Z => if shC Z b n = true then shL b n f (shS Z b n) else Z
def shdZ (Z : Nat → Int32) (b n : Nat) : Nat → Int32 := shL b n 10 Z
theorem upd_s {f : Nat → Int32} {k : Nat} {x : Int32} : upd f k x k = x := if_pos rfl
theorem upd_n {f : Nat → Int32} {k j : Nat} {x : Int32} (h : j ≠ k) : upd f k x j = f j := if_neg h
theorem shC_ftn {Z : Nat → Int32} {b n : Nat} (h : zW Z n) (hb : b < 4) (hC : Z (7 + 5 * b + 0) < carS Z b n) : ftn Z b n ≠ 10 := by
  intro q
  rw [carS_0 Z b n (ftn_none Z b n h.1 q)] at hC
  exact Int32.not_lt.mpr (h.2.2.2 b hb) hC
theorem drN_eq {Z Y : Nat → Int32} {b : Nat} : ∀ i, (∀ j, j < i → drwB Y j b = drwB Z j b) → drN Y b i = drN Z b i
  | 0, _ => rfl
  | i + 1, h => by unfold drN; rw [drN_eq i (fun j hj => h j (by omega)), h i (by omega)]
theorem drN_lt {Z Y : Nat → Int32} {b k : Nat} : ∀ i, k < i → (∀ j, j < i → j ≠ k → drwB Y j b = drwB Z j b) → drwB Z k b = true → drwB Y k b = false → drN Y b i < drN Z b i
  | 0, hk, _, _, _ => absurd hk (Nat.not_lt_zero _)
  | i + 1, hk, h, h1, h2 => by
    unfold drN
    by_cases e : k = i
    · subst e
      rw [h1, h2, drN_eq k (fun j hj => h j (by omega) (by omega))]
      simp
    · have := drN_lt i (by omega) (fun j hj hne => h j (by omega) hne) h1 h2
      rw [h i (by omega) (Ne.symm e)]
      omega
/-- what two rows that differ in a stall's shedding alone say alike -/
theorem brk_congr {Z Y : Nat → Int32} {q : Nat} (hY : Y (27 + q) = Z (27 + q)) : brk Y q = brk Z q := by unfold brk; rw [hY]
theorem wantB_congr {Z Y : Nat → Int32} {k : Nat} (h3 : Y 3 = Z 3) (h1 : Y (39 + 8 * k + 1) = Z (39 + 8 * k + 1)) (h2 : Y (39 + 8 * k + 2) = Z (39 + 8 * k + 2)) : wantB Y k = wantB Z k := by unfold wantB hrD; rw [h3, h1, h2]
theorem skt_congr {Z Y : Nat → Int32} {k : Nat} (h : Y (39 + 8 * k + 4) = Z (39 + 8 * k + 4)) : skt Y k = skt Z k := by unfold skt; rw [h]
theorem onB_congr {Z Y : Nat → Int32} {k b : Nat} (h : Y (39 + 8 * k + 4) = Z (39 + 8 * k + 4)) (hk : ∀ q, q < 12 → Y (27 + q) = Z (27 + q)) (hq : ¬ Z (39 + 8 * k + 4) = -1 → skt Z k < 12) : onB Y k b = onB Z k b := by
  unfold onB
  rw [h, skt_congr h]
  by_cases e : Z (39 + 8 * k + 4) = -1
  · rw [if_pos e, if_pos e]
  · rw [if_neg e, if_neg e, brk_congr (hk _ (hq e))]
theorem rsn_congr {Z Y : Nat → Int32} {k : Nat} (h3 : Y 3 = Z 3) (hs : ∀ w, w < 6 → Y (39 + 8 * k + w) = Z (39 + 8 * k + w)) (hk : ∀ q, q < 12 → Y (27 + q) = Z (27 + q)) (hb : ∀ b, b < 4 → Y (7 + 5 * b + 1) = Z (7 + 5 * b + 1)) (hq : ¬ Z (39 + 8 * k + 4) = -1 → skt Z k < 12) : rsn Y k = rsn Z k := by
  unfold rsn
  rw [wantB_congr h3 (hs 1 (by omega)) (hs 2 (by omega)), hs 4 (by omega), hs 5 (by omega), skt_congr (hs 4 (by omega))]
  by_cases e : Z (39 + 8 * k + 4) = -1
  · rw [if_pos e, if_pos e]
  · rw [if_neg e, if_neg e, brk_congr (hk _ (hq e)), hb _ (brk_lt (hq e))]
theorem drwB_congr {Z Y : Nat → Int32} {k b : Nat} (h3 : Y 3 = Z 3) (hs : ∀ w, w < 6 → Y (39 + 8 * k + w) = Z (39 + 8 * k + w)) (hk : ∀ q, q < 12 → Y (27 + q) = Z (27 + q)) (hb : ∀ b, b < 4 → Y (7 + 5 * b + 1) = Z (7 + 5 * b + 1)) (hq : ¬ Z (39 + 8 * k + 4) = -1 → skt Z k < 12) : drwB Y k b = drwB Z k b := by
  unfold drwB
  rw [onB_congr (hs 4 (by omega)) hk hq, rsn_congr h3 hs hk hb hq]
theorem shS_at {Z : Nat → Int32} {b n j : Nat} (h5 : j ≠ 5) (hj : j ≠ 39 + 8 * ftn Z b n + 5) : shS Z b n j = Z j := by
  unfold shS
  rw [upd_n h5, upd_n hj]
theorem shS_zW {Z : Nat → Int32} {b n : Nat} (h : zW Z n) : zW (shS Z b n) n :=
  zW_upd (zW_upd h (by omega) (fun _ _ => by omega) (fun _ _ => by omega)) (by omega) (fun _ _ => by omega) (fun _ _ => by omega)
theorem rsn_shed {Z : Nat → Int32} {k : Nat} (h : Z (39 + 8 * k + 5) = nI 1) : rsn Z k ≠ 0 := by
  unfold rsn
  rw [if_pos h]
  repeat' split
  all_goals omega
theorem shS_dr {Z : Nat → Int32} {b n j : Nat} (h : zW Z n) (hj : j < n) (hne : j ≠ ftn Z b n) (c : Nat) : drwB (shS Z b n) j c = drwB Z j c :=
  drwB_congr (shS_at (by omega) (by omega)) (fun w hw => shS_at (by omega) (by omega)) (fun q hq => shS_at (by omega) (by omega)) (fun b hb => shS_at (by omega) (by omega)) (skt_lt h hj)
theorem shS_dr0 {Z : Nat → Int32} {b n : Nat} (c : Nat) : drwB (shS Z b n) (ftn Z b n) c = false := by
  have h : rsn (shS Z b n) (ftn Z b n) ≠ 0 := rsn_shed (by unfold shS; rw [upd_n (by omega), upd_s])
  unfold drwB
  simp [h]
theorem drN_sh {Z : Nat → Int32} {b n : Nat} (h : zW Z n) (h1 : ftn Z b n ≠ 10) : drN (shS Z b n) b n < drN Z b n := by
  have hl : ftn Z b n < n := by rcases ftn_lt Z b n with q | q; exact absurd q h1; exact q
  exact drN_lt n hl (fun j hj hne => shS_dr h hj hne b) (ftn_drw Z b n h1) (shS_dr0 b)
theorem drN_le (Z : Nat → Int32) (b : Nat) : ∀ i, drN Z b i ≤ i
  | 0 => Nat.le_refl 0
  | i + 1 => by unfold drN; have := drN_le Z b i; split <;> omega
theorem shL_zW {b n : Nat} : ∀ f {Z : Nat → Int32}, zW Z n → zW (shL b n f Z) n
  | 0, _, h => h
  | f + 1, Z, h => by
    unfold shL
    split
    · exact shL_zW f (shS_zW h)
    · exact h
theorem shdZ_zW {Z : Nat → Int32} {b n : Nat} (h : zW Z n) : zW (shdZ Z b n) n := shL_zW 10 h
set_option maxRecDepth 100000 in
set_option maxHeartbeats 4000000 in
theorem m6_reason (l : Launch) (D : va_G) (ct : Nat → ClassId) (ad : Nat → Nat) (Z g : Nat → Int32) (hs : Int64) (F : Nat → Nat → Int32) (k : Nat) (n : Nat) (hw : zW Z n) (hkn : k < n) : FMet l yX6_reason cX6_reason 2 (some .int) 2 46 D ct 8 ad [.ref (ad 0), .int (nI k)] (mdc ct ad Z g hs F) (some (.int (nI (rsn Z k)))) (mdc ct ad Z g hs F) := by
  refine FMet.of (by decide +kernel) (Nat.le_of_ble_eq_true rfl) ?_
  intro p e s m args below meth c ls hx hb hr hml hown hlocks htg hK hI hP hS hl
  have hl : lv_has ls 2 [(0, .ref (ad 0)), (1, .int (nI k))] := hl
  have hn10 := hw.1
  refine lv_aload_n hx hb dX6_reason_0 rfl (lv_at hl 0 rfl) ?_
  refine lv_iload_n hx hb dX6_reason_1 rfl (lv_at hl 1 rfl) ?_
  refine md_cVr (As := [.int (nI k)]) (rest := []) hx hb hown htg hK hI hS hP hml hl.1 (m6_wantsLoad l D ct ad _ _ _ _ k n hw (by omega)) cw_X6_51 rfl rfl ⟨Nat.le_of_ble_eq_true rfl, Nat.le_of_ble_eq_true rfl⟩ (Nat.le_of_ble_eq_true rfl) dX6_reason_2 ⟨Nat.le_refl _, Nat.le_refl _⟩ (fun H locs hP hS => ?_)
  refine lv_ifneB (tgt := 10) hx hb dX6_reason_5 (by decide) (fun c5 => ?_) (fun c5 => ?_)
  · refine lv_aload_n hx hb dX6_reason_10 rfl (lv_at hl 0 rfl) ?_
    refine lv_iload_n hx hb dX6_reason_11 rfl (lv_at hl 1 rfl) ?_
    refine lv_iconst (v := nI 4) hx hb dX6_reason_12 (by decide) ?_
    refine md_cVr (As := [.int (nI k), .int (nI 4)]) (rest := []) hx hb hown htg hK hI hS hP hml hl.1 (m6_of l D ct ad _ _ _ _ k 4 (by omega) (by omega)) cw_X6_47 rfl rfl ⟨Nat.le_of_ble_eq_true rfl, Nat.le_of_ble_eq_true rfl⟩ (Nat.le_of_ble_eq_true rfl) dX6_reason_13 ⟨Nat.le_refl _, Nat.le_refl _⟩ (fun H locs hP hS => ?_)
    refine lv_iconst (v := -1) hx hb dX6_reason_16 (by decide) ?_
    refine lv_icmp_ne (tgt := 22) hx hb dX6_reason_17 (by decide) (fun c17 => ?_) (fun c17 => ?_)
    · have hqk := skt_lt hw hkn c17
      have hbqk := brk_lt (Z := Z) hqk
      refine lv_aload_n hx hb dX6_reason_22 rfl (lv_at hl 0 rfl) ?_
      refine lv_aload_n hx hb dX6_reason_23 rfl (lv_at hl 0 rfl) ?_
      refine lv_aload_n hx hb dX6_reason_24 rfl (lv_at hl 0 rfl) ?_
      refine lv_iload_n hx hb dX6_reason_25 rfl (lv_at hl 1 rfl) ?_
      refine lv_iconst (v := nI 4) hx hb dX6_reason_26 (by decide) ?_
      refine md_cVr (As := [.int (nI k), .int (nI 4)]) (rest := [.ref (ad 0), .ref (ad 0)]) hx hb hown htg hK hI hS hP hml hl.1 (m6_of l D ct ad _ _ _ _ k 4 (by omega) (by omega)) cw_X6_47 rfl rfl ⟨Nat.le_of_ble_eq_true rfl, Nat.le_of_ble_eq_true rfl⟩ (Nat.le_of_ble_eq_true rfl) dX6_reason_27 ⟨Nat.le_refl _, Nat.le_refl _⟩ (fun H locs hP hS => ?_)
      refine lv_teq (skt_eq hw hkn c17) ?_
      refine md_cVr (As := [.int (nI (skt Z k))]) (rest := [.ref (ad 0)]) hx hb hown htg hK hI hS hP hml hl.1 (m6_breakerOf l D ct ad _ _ _ _ (skt Z k) (by omega)) cw_X6_55 rfl rfl ⟨Nat.le_of_ble_eq_true rfl, Nat.le_of_ble_eq_true rfl⟩ (Nat.le_of_ble_eq_true rfl) dX6_reason_30 ⟨Nat.le_refl _, Nat.le_refl _⟩ (fun H locs hP hS => ?_)
      refine lv_iconst (v := nI 1) hx hb dX6_reason_33 (by decide) ?_
      refine md_cVr (As := [.int (nI (brk Z (skt Z k))), .int (nI 1)]) (rest := []) hx hb hown htg hK hI hS hP hml hl.1 (m6_by l D ct ad _ _ _ _ (brk Z (skt Z k)) 1 (by omega) (by omega)) cw_X6_59 rfl rfl ⟨Nat.le_of_ble_eq_true rfl, Nat.le_of_ble_eq_true rfl⟩ (Nat.le_of_ble_eq_true rfl) dX6_reason_34 ⟨Nat.le_refl _, Nat.le_refl _⟩ (fun H locs hP hS => ?_)
      refine lv_if_ne (tgt := 44) hx hb dX6_reason_37 (by decide) (fun c37 => ?_) (fun c37 => ?_)
      · refine lv_aload_n hx hb dX6_reason_44 rfl (lv_at hl 0 rfl) ?_
        refine lv_iload_n hx hb dX6_reason_45 rfl (lv_at hl 1 rfl) ?_
        refine lv_iconst (v := nI 5) hx hb dX6_reason_46 (by decide) ?_
        refine md_cVr (As := [.int (nI k), .int (nI 5)]) (rest := []) hx hb hown htg hK hI hS hP hml hl.1 (m6_of l D ct ad _ _ _ _ k 5 (by omega) (by omega)) cw_X6_47 rfl rfl ⟨Nat.le_of_ble_eq_true rfl, Nat.le_of_ble_eq_true rfl⟩ (Nat.le_of_ble_eq_true rfl) dX6_reason_47 ⟨Nat.le_refl _, Nat.le_refl _⟩ (fun H locs hP hS => ?_)
        refine lv_iconst (v := nI 1) hx hb dX6_reason_50 (by decide) ?_
        refine lv_icmp_ne (tgt := 58) hx hb dX6_reason_51 (by decide) (fun c51 => ?_) (fun c51 => ?_)
        · refine lv_iconst (v := nI 0) hx hb dX6_reason_58 (by decide) ?_
          refine fr_iret hx hb hr hlocks hK hI hS rfl dX6_reason_59 ?_ ?_
          · exact congrArg nI (show 0 = rsn Z k from by first | (exfalso; omega) | (simp only [rsn, c5, c17, c37, c51, decide_true, decide_false, Bool.and_true, Bool.true_and, Bool.and_false, Bool.false_and, Bool.or_true, Bool.true_or, Bool.or_false, Bool.false_or, Bool.and_self, Bool.or_self, if_true, if_false, eq_self, Bool.false_eq_true, Bool.true_eq_false, reduceCtorEq, nI_0, not_true_eq_false, not_false_eq_true, and_true, true_and, and_false, false_and, or_true, true_or, or_false, false_or, and_self, or_self, Int32.add_zero]; done) | (simp [rsn, c5, c17, c37, c51, nI_0]; done) | (simp only [rsn, c5, c17, c37, c51, decide_true, decide_false, Bool.and_true, Bool.true_and, Bool.and_false, Bool.false_and, Bool.or_true, Bool.true_or, Bool.or_false, Bool.false_or, Bool.and_self, Bool.or_self, if_true, if_false, eq_self, Bool.false_eq_true, Bool.true_eq_false, reduceCtorEq, nI_0, not_true_eq_false, not_false_eq_true, and_true, true_and, and_false, false_and, or_true, true_or, or_false, false_or, and_self, or_self, Int32.add_zero]; omega) | (simp [rsn, c5, c17, c37, c51, nI_0]; omega))
          · exact hP
        · refine lv_iconst (v := nI 4) hx hb dX6_reason_54 (by decide) ?_
          refine lv_goto (tgt := 59) hx hb dX6_reason_55 (by decide) ?_
          refine fr_iret hx hb hr hlocks hK hI hS rfl dX6_reason_59 ?_ ?_
          · exact congrArg nI (show 4 = rsn Z k from by first | (exfalso; omega) | (simp only [rsn, c5, c17, c37, c51, decide_true, decide_false, Bool.and_true, Bool.true_and, Bool.and_false, Bool.false_and, Bool.or_true, Bool.true_or, Bool.or_false, Bool.false_or, Bool.and_self, Bool.or_self, if_true, if_false, eq_self, Bool.false_eq_true, Bool.true_eq_false, reduceCtorEq, nI_0, not_true_eq_false, not_false_eq_true, and_true, true_and, and_false, false_and, or_true, true_or, or_false, false_or, and_self, or_self, Int32.add_zero]; done) | (simp [rsn, c5, c17, c37, c51, nI_0]; done) | (simp only [rsn, c5, c17, c37, c51, decide_true, decide_false, Bool.and_true, Bool.true_and, Bool.and_false, Bool.false_and, Bool.or_true, Bool.true_or, Bool.or_false, Bool.false_or, Bool.and_self, Bool.or_self, if_true, if_false, eq_self, Bool.false_eq_true, Bool.true_eq_false, reduceCtorEq, nI_0, not_true_eq_false, not_false_eq_true, and_true, true_and, and_false, false_and, or_true, true_or, or_false, false_or, and_self, or_self, Int32.add_zero]; omega) | (simp [rsn, c5, c17, c37, c51, nI_0]; omega))
          · exact hP
      · refine lv_iconst (v := nI 3) hx hb dX6_reason_40 (by decide) ?_
        refine lv_goto (tgt := 59) hx hb dX6_reason_41 (by decide) ?_
        refine fr_iret hx hb hr hlocks hK hI hS rfl dX6_reason_59 ?_ ?_
        · exact congrArg nI (show 3 = rsn Z k from by first | (exfalso; omega) | (simp only [rsn, c5, c17, c37, decide_true, decide_false, Bool.and_true, Bool.true_and, Bool.and_false, Bool.false_and, Bool.or_true, Bool.true_or, Bool.or_false, Bool.false_or, Bool.and_self, Bool.or_self, if_true, if_false, eq_self, Bool.false_eq_true, Bool.true_eq_false, reduceCtorEq, nI_0, not_true_eq_false, not_false_eq_true, and_true, true_and, and_false, false_and, or_true, true_or, or_false, false_or, and_self, or_self, Int32.add_zero]; done) | (simp [rsn, c5, c17, c37, nI_0]; done) | (simp only [rsn, c5, c17, c37, decide_true, decide_false, Bool.and_true, Bool.true_and, Bool.and_false, Bool.false_and, Bool.or_true, Bool.true_or, Bool.or_false, Bool.false_or, Bool.and_self, Bool.or_self, if_true, if_false, eq_self, Bool.false_eq_true, Bool.true_eq_false, reduceCtorEq, nI_0, not_true_eq_false, not_false_eq_true, and_true, true_and, and_false, false_and, or_true, true_or, or_false, false_or, and_self, or_self, Int32.add_zero]; omega) | (simp [rsn, c5, c17, c37, nI_0]; omega))
        · exact hP
    · refine lv_iconst (v := nI 2) hx hb dX6_reason_20 (by decide) ?_
      refine fr_iret hx hb hr hlocks hK hI hS rfl dX6_reason_21 ?_ ?_
      · exact congrArg nI (show 2 = rsn Z k from by first | (exfalso; omega) | (simp only [rsn, c5, c17, decide_true, decide_false, Bool.and_true, Bool.true_and, Bool.and_false, Bool.false_and, Bool.or_true, Bool.true_or, Bool.or_false, Bool.false_or, Bool.and_self, Bool.or_self, if_true, if_false, eq_self, Bool.false_eq_true, Bool.true_eq_false, reduceCtorEq, nI_0, not_true_eq_false, not_false_eq_true, and_true, true_and, and_false, false_and, or_true, true_or, or_false, false_or, and_self, or_self, Int32.add_zero]; done) | (simp [rsn, c5, c17, nI_0]; done) | (simp only [rsn, c5, c17, decide_true, decide_false, Bool.and_true, Bool.true_and, Bool.and_false, Bool.false_and, Bool.or_true, Bool.true_or, Bool.or_false, Bool.false_or, Bool.and_self, Bool.or_self, if_true, if_false, eq_self, Bool.false_eq_true, Bool.true_eq_false, reduceCtorEq, nI_0, not_true_eq_false, not_false_eq_true, and_true, true_and, and_false, false_and, or_true, true_or, or_false, false_or, and_self, or_self, Int32.add_zero]; omega) | (simp [rsn, c5, c17, nI_0]; omega))
      · exact hP
  · refine lv_iconst (v := nI 1) hx hb dX6_reason_8 (by decide) ?_
    refine fr_iret hx hb hr hlocks hK hI hS rfl dX6_reason_9 ?_ ?_
    · exact congrArg nI (show 1 = rsn Z k from by first | (exfalso; omega) | (simp only [rsn, c5, decide_true, decide_false, Bool.and_true, Bool.true_and, Bool.and_false, Bool.false_and, Bool.or_true, Bool.true_or, Bool.or_false, Bool.false_or, Bool.and_self, Bool.or_self, if_true, if_false, eq_self, Bool.false_eq_true, Bool.true_eq_false, reduceCtorEq, nI_0, not_true_eq_false, not_false_eq_true, and_true, true_and, and_false, false_and, or_true, true_or, or_false, false_or, and_self, or_self, Int32.add_zero]; done) | (simp [rsn, c5, nI_0]; done) | (simp only [rsn, c5, decide_true, decide_false, Bool.and_true, Bool.true_and, Bool.and_false, Bool.false_and, Bool.or_true, Bool.true_or, Bool.or_false, Bool.false_or, Bool.and_self, Bool.or_self, if_true, if_false, eq_self, Bool.false_eq_true, Bool.true_eq_false, reduceCtorEq, nI_0, not_true_eq_false, not_false_eq_true, and_true, true_and, and_false, false_and, or_true, true_or, or_false, false_or, and_self, or_self, Int32.add_zero]; omega) | (simp [rsn, c5, nI_0]; omega))
    · exact hP
set_option maxRecDepth 100000 in
set_option maxHeartbeats 4000000 in
theorem m6_isOn (l : Launch) (D : va_G) (ct : Nat → ClassId) (ad : Nat → Nat) (Z g : Nat → Int32) (hs : Int64) (F : Nat → Nat → Int32) (k : Nat) (b : Nat) (n : Nat) (hw : zW Z n) (hkn : k < n) (hb4 : b < 4) : FMet l yX6_isOn cX6_isOn 3 (some .boolean) 1 22 D ct 8 ad [.ref (ad 0), .int (nI k), .int (nI b)] (mdc ct ad Z g hs F) (some (.int (bi (onB Z k b)))) (mdc ct ad Z g hs F) := by
  refine FMet.of (by decide +kernel) (Nat.le_of_ble_eq_true rfl) ?_
  intro p e s m args below meth c ls hx hb hr hml hown hlocks htg hK hI hP hS hl
  have hl : lv_has ls 3 [(0, .ref (ad 0)), (1, .int (nI k)), (2, .int (nI b))] := hl
  have hn10 := hw.1
  refine lv_aload_n hx hb dX6_isOn_0 rfl (lv_at hl 0 rfl) ?_
  refine lv_iload_n hx hb dX6_isOn_1 rfl (lv_at hl 1 rfl) ?_
  refine lv_iconst (v := nI 4) hx hb dX6_isOn_2 (by decide) ?_
  refine md_cVr (As := [.int (nI k), .int (nI 4)]) (rest := []) hx hb hown htg hK hI hS hP hml hl.1 (m6_of l D ct ad _ _ _ _ k 4 (by omega) (by omega)) cw_X6_47 rfl rfl ⟨Nat.le_of_ble_eq_true rfl, Nat.le_of_ble_eq_true rfl⟩ (Nat.le_of_ble_eq_true rfl) dX6_isOn_3 ⟨Nat.le_refl _, Nat.le_refl _⟩ (fun H locs hP hS => ?_)
  refine lv_iconst (v := -1) hx hb dX6_isOn_6 (by decide) ?_
  refine lv_icmp_eq (tgt := 28) hx hb dX6_isOn_7 (by decide) (fun c7 => ?_) (fun c7 => ?_)
  · refine lv_iconst (v := nI 0) hx hb dX6_isOn_28 (by decide) ?_
    refine fr_iret hx hb hr hlocks hK hI hS rfl dX6_isOn_29 ?_ ?_
    · exact (congrArg bi (show (onB Z k b) = false from by first | (exfalso; omega) | (simp only [onB, c7, decide_true, decide_false, Bool.and_true, Bool.true_and, Bool.and_false, Bool.false_and, Bool.or_true, Bool.true_or, Bool.or_false, Bool.false_or, Bool.and_self, Bool.or_self, if_true, if_false, eq_self, Bool.false_eq_true, Bool.true_eq_false, reduceCtorEq, nI_0, not_true_eq_false, not_false_eq_true, and_true, true_and, and_false, false_and, or_true, true_or, or_false, false_or, and_self, or_self, Int32.add_zero]; done) | (simp [onB, c7, nI_0]; done) | (simp only [onB, c7, decide_true, decide_false, Bool.and_true, Bool.true_and, Bool.and_false, Bool.false_and, Bool.or_true, Bool.true_or, Bool.or_false, Bool.false_or, Bool.and_self, Bool.or_self, if_true, if_false, eq_self, Bool.false_eq_true, Bool.true_eq_false, reduceCtorEq, nI_0, not_true_eq_false, not_false_eq_true, and_true, true_and, and_false, false_and, or_true, true_or, or_false, false_or, and_self, or_self, Int32.add_zero]; omega) | (simp [onB, c7, nI_0]; omega))).symm
    · exact hP
  · have hqk := skt_lt hw hkn c7
    have hbqk := brk_lt (Z := Z) hqk
    refine lv_aload_n hx hb dX6_isOn_10 rfl (lv_at hl 0 rfl) ?_
    refine lv_aload_n hx hb dX6_isOn_11 rfl (lv_at hl 0 rfl) ?_
    refine lv_iload_n hx hb dX6_isOn_12 rfl (lv_at hl 1 rfl) ?_
    refine lv_iconst (v := nI 4) hx hb dX6_isOn_13 (by decide) ?_
    refine md_cVr (As := [.int (nI k), .int (nI 4)]) (rest := [.ref (ad 0)]) hx hb hown htg hK hI hS hP hml hl.1 (m6_of l D ct ad _ _ _ _ k 4 (by omega) (by omega)) cw_X6_47 rfl rfl ⟨Nat.le_of_ble_eq_true rfl, Nat.le_of_ble_eq_true rfl⟩ (Nat.le_of_ble_eq_true rfl) dX6_isOn_14 ⟨Nat.le_refl _, Nat.le_refl _⟩ (fun H locs hP hS => ?_)
    refine lv_teq (skt_eq hw hkn c7) ?_
    refine md_cVr (As := [.int (nI (skt Z k))]) (rest := []) hx hb hown htg hK hI hS hP hml hl.1 (m6_breakerOf l D ct ad _ _ _ _ (skt Z k) (by omega)) cw_X6_55 rfl rfl ⟨Nat.le_of_ble_eq_true rfl, Nat.le_of_ble_eq_true rfl⟩ (Nat.le_of_ble_eq_true rfl) dX6_isOn_17 ⟨Nat.le_refl _, Nat.le_refl _⟩ (fun H locs hP hS => ?_)
    refine lv_iload_n hx hb dX6_isOn_20 rfl (lv_at hl 2 rfl) ?_
    refine lv_icmp_neN (tgt := 28) hx hb (by omega) (by omega) dX6_isOn_21 (by decide) (fun c21 => ?_) (fun c21 => ?_)
    · refine lv_iconst (v := nI 0) hx hb dX6_isOn_28 (by decide) ?_
      refine fr_iret hx hb hr hlocks hK hI hS rfl dX6_isOn_29 ?_ ?_
      · exact (congrArg bi (show (onB Z k b) = false from by first | (exfalso; omega) | (simp only [onB, c7, c21, decide_true, decide_false, Bool.and_true, Bool.true_and, Bool.and_false, Bool.false_and, Bool.or_true, Bool.true_or, Bool.or_false, Bool.false_or, Bool.and_self, Bool.or_self, if_true, if_false, eq_self, Bool.false_eq_true, Bool.true_eq_false, reduceCtorEq, nI_0, not_true_eq_false, not_false_eq_true, and_true, true_and, and_false, false_and, or_true, true_or, or_false, false_or, and_self, or_self, Int32.add_zero]; done) | (simp [onB, c7, c21, nI_0]; done) | (simp only [onB, c7, c21, decide_true, decide_false, Bool.and_true, Bool.true_and, Bool.and_false, Bool.false_and, Bool.or_true, Bool.true_or, Bool.or_false, Bool.false_or, Bool.and_self, Bool.or_self, if_true, if_false, eq_self, Bool.false_eq_true, Bool.true_eq_false, reduceCtorEq, nI_0, not_true_eq_false, not_false_eq_true, and_true, true_and, and_false, false_and, or_true, true_or, or_false, false_or, and_self, or_self, Int32.add_zero]; omega) | (simp [onB, c7, c21, nI_0]; omega))).symm
      · exact hP
    · refine lv_iconst (v := nI 1) hx hb dX6_isOn_24 (by decide) ?_
      refine lv_goto (tgt := 29) hx hb dX6_isOn_25 (by decide) ?_
      refine fr_iret hx hb hr hlocks hK hI hS rfl dX6_isOn_29 ?_ ?_
      · exact (congrArg bi (show (onB Z k b) = true from by first | (exfalso; omega) | (simp only [onB, c7, c21, decide_true, decide_false, Bool.and_true, Bool.true_and, Bool.and_false, Bool.false_and, Bool.or_true, Bool.true_or, Bool.or_false, Bool.false_or, Bool.and_self, Bool.or_self, if_true, if_false, eq_self, Bool.false_eq_true, Bool.true_eq_false, reduceCtorEq, nI_0, not_true_eq_false, not_false_eq_true, and_true, true_and, and_false, false_and, or_true, true_or, or_false, false_or, and_self, or_self, Int32.add_zero]; done) | (simp [onB, c7, c21, nI_0]; done) | (simp only [onB, c7, c21, decide_true, decide_false, Bool.and_true, Bool.true_and, Bool.and_false, Bool.false_and, Bool.or_true, Bool.true_or, Bool.or_false, Bool.false_or, Bool.and_self, Bool.or_self, if_true, if_false, eq_self, Bool.false_eq_true, Bool.true_eq_false, reduceCtorEq, nI_0, not_true_eq_false, not_false_eq_true, and_true, true_and, and_false, false_and, or_true, true_or, or_false, false_or, and_self, or_self, Int32.add_zero]; omega) | (simp [onB, c7, c21, nI_0]; omega))).symm
      · exact hP
set_option maxRecDepth 100000 in
set_option maxHeartbeats 4000000 in
theorem m6_carried (l : Launch) (D : va_G) (ct : Nat → ClassId) (ad : Nat → Nat) (Z g : Nat → Int32) (hs : Int64) (F : Nat → Nat → Int32) (b : Nat) (n : Nat) (hw : zW Z n) (hb4 : b < 4) : FMet l yX6_carried cX6_carried 4 (some .int) 3 67 D ct 8 ad [.ref (ad 0), .int (nI b)] (mdc ct ad Z g hs F) (some (.int (carS Z b n))) (mdc ct ad Z g hs F) := by
  refine FMet.of (by decide +kernel) (Nat.le_of_ble_eq_true rfl) ?_
  intro p e s m args below meth c ls hx hb hr hml hown hlocks htg hK hI hP hS hl
  have hl : lv_has ls 4 [(0, .ref (ad 0)), (1, .int (nI b))] := hl
  have hn10 := hw.1
  refine lv_iconst (v := nI 0) hx hb dX6_carried_0 (by decide) ?_
  refine lv_istore_n (lv' := [(2, .int (nI 0)), (0, .ref (ad 0)), (1, .int (nI b))]) hx hb dX6_carried_1 rfl hl (by decide) rfl (fun ls hl => ?_)
  refine lv_iconst (v := nI 0) hx hb dX6_carried_2 (by decide) ?_
  refine lv_istore_n (lv' := [(3, .int (nI 0)), (2, .int (nI 0)), (0, .ref (ad 0)), (1, .int (nI b))]) hx hb dX6_carried_3 rfl hl (by decide) rfl (fun ls hl => ?_)
  have lp4 : ∀ (fu : Nat) (i : Nat), i ≤ n → n - i < fu → ∀ (H : Heap) (locs : List Loc), fP D 8 ad (mdc ct ad Z g hs F) H → va_S (fA 8 ad) s.heap H locs → ∀ (ls : Array Slot), lv_has ls 4 [(3, .int (nI i)), (2, .int (carS Z b i)), (0, .ref (ad 0)), (1, .int (nI b))] → W p l e ({ frames := 3, cells := 0, slots := 0, locals := 67 }) s m args below meth c H locs 0 0 (MQ below (fQ D ct 8 ad (some (.int (carS Z b n))) (mdc ct ad Z g hs F)) args s 0 0 (fA 8 ad)) (F0 m 4 ls []) := by
    intro fu
    induction fu with
    | zero => intro i hi hfu; exact absurd hfu (Nat.not_lt_zero _)
    | succ fu ih =>
      intro i hi hfu H locs hP hS ls hl
      refine lv_iload_n hx hb dX6_carried_4 rfl (lv_at hl 0 rfl) ?_
      refine lv_aload_n hx hb dX6_carried_5 rfl (lv_at hl 2 rfl) ?_
      refine md_g1 hx hb hown htg hK hP dX6_carried_6 ?_
      refine lv_iconst (v := nI 4) hx hb dX6_carried_9 (by decide) ?_
      refine md_l1 hx hb hK hP (by omega) dX6_carried_10 ?_
      refine lv_teq (hw).2.1 ?_
      refine lv_icmp_geN (tgt := 50) hx hb (by omega) (by omega) dX6_carried_11 (by decide) (fun c11 => ?_) (fun c11 => ?_)
      · refine lv_iload_n hx hb dX6_carried_50 rfl (lv_at hl 1 rfl) ?_
        refine fr_iret hx hb hr hlocks hK hI hS rfl dX6_carried_51 ?_ ?_
        · rw [show i = n from by omega]
        · exact hP
      · refine lv_iload_n hx hb dX6_carried_14 rfl (lv_at hl 1 rfl) ?_
        refine lv_aload_n hx hb dX6_carried_15 rfl (lv_at hl 2 rfl) ?_
        refine lv_iload_n hx hb dX6_carried_16 rfl (lv_at hl 0 rfl) ?_
        refine lv_iload_n hx hb dX6_carried_17 rfl (lv_at hl 3 rfl) ?_
        refine md_cVr (As := [.int (nI i), .int (nI b)]) (rest := [.int (carS Z b i)]) hx hb hown htg hK hI hS hP hml hl.1 (m6_isOn l D ct ad _ _ _ _ i b n hw (by omega) (by omega)) cw_X6_62 rfl rfl ⟨Nat.le_of_ble_eq_true rfl, Nat.le_of_ble_eq_true rfl⟩ (Nat.le_of_ble_eq_true rfl) dX6_carried_18 ⟨Nat.le_refl _, Nat.le_refl _⟩ (fun H locs hP hS => ?_)
        refine lv_ifeqB (tgt := 41) hx hb dX6_carried_21 (by decide) (fun c21 => ?_) (fun c21 => ?_)
        · refine lv_iconst (v := nI 0) hx hb dX6_carried_41 (by decide) ?_
          refine lv_iadd hx hb dX6_carried_42 ?_
          refine lv_istore_n (lv' := [(2, .int ((carS Z b i) + (nI 0))), (3, .int (nI i)), (0, .ref (ad 0)), (1, .int (nI b))]) hx hb dX6_carried_43 rfl hl (by decide) rfl (fun ls hl => ?_)
          refine lv_iinc (v := nI (i + 1)) (lv' := [(3, .int (nI (i + 1))), (2, .int ((carS Z b i) + (nI 0))), (0, .ref (ad 0)), (1, .int (nI b))]) hx hb dX6_carried_44 hl (k := 1) rfl (nI_add i 1) (by decide) rfl (fun ls hl => ?_)
          refine lv_goto (tgt := 4) hx hb dX6_carried_47 (by decide) ?_
          have hl := lv_sub (l' := [(3, .int (nI (i + 1))), (2, .int ((carS Z b i) + (nI 0))), (0, .ref (ad 0)), (1, .int (nI b))]) hl [0, 1, 2, 3] rfl
          have e2 : Value.int ((carS Z b i) + (nI 0)) = Value.int (carS Z b (i + 1)) := by first | (exfalso; omega) | (simp only [carS, drwB, c11, Nat.not_le.mpr c11, c21, decide_true, decide_false, Bool.and_true, Bool.true_and, Bool.and_false, Bool.false_and, Bool.or_true, Bool.true_or, Bool.or_false, Bool.false_or, Bool.and_self, Bool.or_self, if_true, if_false, eq_self, Bool.false_eq_true, Bool.true_eq_false, reduceCtorEq, nI_0, not_true_eq_false, not_false_eq_true, and_true, true_and, and_false, false_and, or_true, true_or, or_false, false_or, and_self, or_self, Int32.add_zero]; done) | (simp [carS, drwB, c11, Nat.not_le.mpr c11, c21, nI_0]; done) | (simp only [carS, drwB, c11, Nat.not_le.mpr c11, c21, decide_true, decide_false, Bool.and_true, Bool.true_and, Bool.and_false, Bool.false_and, Bool.or_true, Bool.true_or, Bool.or_false, Bool.false_or, Bool.and_self, Bool.or_self, if_true, if_false, eq_self, Bool.false_eq_true, Bool.true_eq_false, reduceCtorEq, nI_0, not_true_eq_false, not_false_eq_true, and_true, true_and, and_false, false_and, or_true, true_or, or_false, false_or, and_self, or_self, Int32.add_zero]; omega) | (simp [carS, drwB, c11, Nat.not_le.mpr c11, c21, nI_0]; omega)
          rw [e2] at hl
          exact ih (i + 1) (by omega) (by omega) _ _ hP hS _ hl
        · refine lv_aload_n hx hb dX6_carried_24 rfl (lv_at hl 2 rfl) ?_
          refine lv_iload_n hx hb dX6_carried_25 rfl (lv_at hl 0 rfl) ?_
          refine md_cVr (As := [.int (nI i)]) (rest := [.int (carS Z b i)]) hx hb hown htg hK hI hS hP hml hl.1 (m6_reason l D ct ad _ _ _ _ i n hw (by omega)) cw_X6_66 rfl rfl ⟨Nat.le_of_ble_eq_true rfl, Nat.le_of_ble_eq_true rfl⟩ (Nat.le_of_ble_eq_true rfl) dX6_carried_26 ⟨Nat.le_refl _, Nat.le_refl _⟩ (fun H locs hP hS => ?_)
          have hrl := @rsn_lt Z i
          refine lv_ifneN (tgt := 41) hx hb (by omega) dX6_carried_29 (by decide) (fun c29 => ?_) (fun c29 => ?_)
          · refine lv_iconst (v := nI 0) hx hb dX6_carried_41 (by decide) ?_
            refine lv_iadd hx hb dX6_carried_42 ?_
            refine lv_istore_n (lv' := [(2, .int ((carS Z b i) + (nI 0))), (3, .int (nI i)), (0, .ref (ad 0)), (1, .int (nI b))]) hx hb dX6_carried_43 rfl hl (by decide) rfl (fun ls hl => ?_)
            refine lv_iinc (v := nI (i + 1)) (lv' := [(3, .int (nI (i + 1))), (2, .int ((carS Z b i) + (nI 0))), (0, .ref (ad 0)), (1, .int (nI b))]) hx hb dX6_carried_44 hl (k := 1) rfl (nI_add i 1) (by decide) rfl (fun ls hl => ?_)
            refine lv_goto (tgt := 4) hx hb dX6_carried_47 (by decide) ?_
            have hl := lv_sub (l' := [(3, .int (nI (i + 1))), (2, .int ((carS Z b i) + (nI 0))), (0, .ref (ad 0)), (1, .int (nI b))]) hl [0, 1, 2, 3] rfl
            have e2 : Value.int ((carS Z b i) + (nI 0)) = Value.int (carS Z b (i + 1)) := by first | (exfalso; omega) | (simp only [carS, drwB, c11, Nat.not_le.mpr c11, c21, c29, decide_true, decide_false, Bool.and_true, Bool.true_and, Bool.and_false, Bool.false_and, Bool.or_true, Bool.true_or, Bool.or_false, Bool.false_or, Bool.and_self, Bool.or_self, if_true, if_false, eq_self, Bool.false_eq_true, Bool.true_eq_false, reduceCtorEq, nI_0, not_true_eq_false, not_false_eq_true, and_true, true_and, and_false, false_and, or_true, true_or, or_false, false_or, and_self, or_self, Int32.add_zero]; done) | (simp [carS, drwB, c11, Nat.not_le.mpr c11, c21, c29, nI_0]; done) | (simp only [carS, drwB, c11, Nat.not_le.mpr c11, c21, c29, decide_true, decide_false, Bool.and_true, Bool.true_and, Bool.and_false, Bool.false_and, Bool.or_true, Bool.true_or, Bool.or_false, Bool.false_or, Bool.and_self, Bool.or_self, if_true, if_false, eq_self, Bool.false_eq_true, Bool.true_eq_false, reduceCtorEq, nI_0, not_true_eq_false, not_false_eq_true, and_true, true_and, and_false, false_and, or_true, true_or, or_false, false_or, and_self, or_self, Int32.add_zero]; omega) | (simp [carS, drwB, c11, Nat.not_le.mpr c11, c21, c29, nI_0]; omega)
            rw [e2] at hl
            exact ih (i + 1) (by omega) (by omega) _ _ hP hS _ hl
          · refine lv_aload_n hx hb dX6_carried_32 rfl (lv_at hl 2 rfl) ?_
            refine lv_iload_n hx hb dX6_carried_33 rfl (lv_at hl 0 rfl) ?_
            refine lv_iconst (v := nI 0) hx hb dX6_carried_34 (by decide) ?_
            refine md_cVr (As := [.int (nI i), .int (nI 0)]) (rest := [.int (carS Z b i)]) hx hb hown htg hK hI hS hP hml hl.1 (m6_of l D ct ad _ _ _ _ i 0 (by omega) (by omega)) cw_X6_47 rfl rfl ⟨Nat.le_of_ble_eq_true rfl, Nat.le_of_ble_eq_true rfl⟩ (Nat.le_of_ble_eq_true rfl) dX6_carried_35 ⟨Nat.le_refl _, Nat.le_refl _⟩ (fun H locs hP hS => ?_)
            refine lv_goto (tgt := 42) hx hb dX6_carried_38 (by decide) ?_
            refine lv_iadd hx hb dX6_carried_42 ?_
            refine lv_istore_n (lv' := [(2, .int ((carS Z b i) + (Z (39 + 8 * i + 0)))), (3, .int (nI i)), (0, .ref (ad 0)), (1, .int (nI b))]) hx hb dX6_carried_43 rfl hl (by decide) rfl (fun ls hl => ?_)
            refine lv_iinc (v := nI (i + 1)) (lv' := [(3, .int (nI (i + 1))), (2, .int ((carS Z b i) + (Z (39 + 8 * i + 0)))), (0, .ref (ad 0)), (1, .int (nI b))]) hx hb dX6_carried_44 hl (k := 1) rfl (nI_add i 1) (by decide) rfl (fun ls hl => ?_)
            refine lv_goto (tgt := 4) hx hb dX6_carried_47 (by decide) ?_
            have hl := lv_sub (l' := [(3, .int (nI (i + 1))), (2, .int ((carS Z b i) + (Z (39 + 8 * i + 0)))), (0, .ref (ad 0)), (1, .int (nI b))]) hl [0, 1, 2, 3] rfl
            have e2 : Value.int ((carS Z b i) + (Z (39 + 8 * i + 0))) = Value.int (carS Z b (i + 1)) := by first | (exfalso; omega) | (simp only [carS, drwB, c11, Nat.not_le.mpr c11, c21, c29, decide_true, decide_false, Bool.and_true, Bool.true_and, Bool.and_false, Bool.false_and, Bool.or_true, Bool.true_or, Bool.or_false, Bool.false_or, Bool.and_self, Bool.or_self, if_true, if_false, eq_self, Bool.false_eq_true, Bool.true_eq_false, reduceCtorEq, nI_0, not_true_eq_false, not_false_eq_true, and_true, true_and, and_false, false_and, or_true, true_or, or_false, false_or, and_self, or_self, Int32.add_zero]; done) | (simp [carS, drwB, c11, Nat.not_le.mpr c11, c21, c29, nI_0]; done) | (simp only [carS, drwB, c11, Nat.not_le.mpr c11, c21, c29, decide_true, decide_false, Bool.and_true, Bool.true_and, Bool.and_false, Bool.false_and, Bool.or_true, Bool.true_or, Bool.or_false, Bool.false_or, Bool.and_self, Bool.or_self, if_true, if_false, eq_self, Bool.false_eq_true, Bool.true_eq_false, reduceCtorEq, nI_0, not_true_eq_false, not_false_eq_true, and_true, true_and, and_false, false_and, or_true, true_or, or_false, false_or, and_self, or_self, Int32.add_zero]; omega) | (simp [carS, drwB, c11, Nat.not_le.mpr c11, c21, c29, nI_0]; omega)
            rw [e2] at hl
            exact ih (i + 1) (by omega) (by omega) _ _ hP hS _ hl
  have hl := lv_sub (l' := [(3, .int (nI 0)), (2, .int (nI 0)), (0, .ref (ad 0)), (1, .int (nI b))]) hl [0, 1, 2, 3] rfl
  have e2 : Value.int (nI 0) = Value.int (carS Z b 0) := by rfl
  rw [e2] at hl
  exact lp4 (n - 0 + 1) 0 (by omega) (Nat.lt_succ_self _) _ _ hP hS _ hl
set_option maxRecDepth 100000 in
set_option maxHeartbeats 4000000 in
theorem m6_goesFirst (l : Launch) (D : va_G) (ct : Nat → ClassId) (ad : Nat → Nat) (Z g : Nat → Int32) (hs : Int64) (F : Nat → Nat → Int32) (k : Nat) (j : Nat)  (hk10 : k < 10) (hj10 : j < 10) : FMet l yX6_goesFirst cX6_goesFirst 3 (some .boolean) 1 22 D ct 8 ad [.ref (ad 0), .int (nI k), .int (nI j)] (mdc ct ad Z g hs F) (some (.int (bi (gofB Z k j)))) (mdc ct ad Z g hs F) := by
  refine FMet.of (by decide +kernel) (Nat.le_of_ble_eq_true rfl) ?_
  intro p e s m args below meth c ls hx hb hr hml hown hlocks htg hK hI hP hS hl
  have hl : lv_has ls 3 [(0, .ref (ad 0)), (1, .int (nI k)), (2, .int (nI j))] := hl
  refine lv_aload_n hx hb dX6_goesFirst_0 rfl (lv_at hl 0 rfl) ?_
  refine lv_iload_n hx hb dX6_goesFirst_1 rfl (lv_at hl 1 rfl) ?_
  refine lv_iconst (v := nI 3) hx hb dX6_goesFirst_2 (by decide) ?_
  refine md_cVr (As := [.int (nI k), .int (nI 3)]) (rest := []) hx hb hown htg hK hI hS hP hml hl.1 (m6_of l D ct ad _ _ _ _ k 3 (by omega) (by omega)) cw_X6_47 rfl rfl ⟨Nat.le_of_ble_eq_true rfl, Nat.le_of_ble_eq_true rfl⟩ (Nat.le_of_ble_eq_true rfl) dX6_goesFirst_3 ⟨Nat.le_refl _, Nat.le_refl _⟩ (fun H locs hP hS => ?_)
  refine lv_aload_n hx hb dX6_goesFirst_6 rfl (lv_at hl 0 rfl) ?_
  refine lv_iload_n hx hb dX6_goesFirst_7 rfl (lv_at hl 2 rfl) ?_
  refine lv_iconst (v := nI 3) hx hb dX6_goesFirst_8 (by decide) ?_
  refine md_cVr (As := [.int (nI j), .int (nI 3)]) (rest := [.int (Z (39 + 8 * k + 3))]) hx hb hown htg hK hI hS hP hml hl.1 (m6_of l D ct ad _ _ _ _ j 3 (by omega) (by omega)) cw_X6_47 rfl rfl ⟨Nat.le_of_ble_eq_true rfl, Nat.le_of_ble_eq_true rfl⟩ (Nat.le_of_ble_eq_true rfl) dX6_goesFirst_9 ⟨Nat.le_refl _, Nat.le_refl _⟩ (fun H locs hP hS => ?_)
  refine lv_icmp_gtR (tgt := 45) hx hb dX6_goesFirst_12 (by decide) (fun c12 => ?_) (fun c12 => ?_)
  · refine lv_iconst (v := nI 1) hx hb dX6_goesFirst_45 (by decide) ?_
    refine lv_goto (tgt := 50) hx hb dX6_goesFirst_46 (by decide) ?_
    refine fr_iret hx hb hr hlocks hK hI hS rfl dX6_goesFirst_50 ?_ ?_
    · exact (congrArg bi (show (gofB Z k j) = true from by first | (exfalso; omega) | (simp only [gofB, c12, Int32.not_le.mpr c12, decide_true, decide_false, Bool.and_true, Bool.true_and, Bool.and_false, Bool.false_and, Bool.or_true, Bool.true_or, Bool.or_false, Bool.false_or, Bool.and_self, Bool.or_self, if_true, if_false, eq_self, Bool.false_eq_true, Bool.true_eq_false, reduceCtorEq, nI_0, not_true_eq_false, not_false_eq_true, and_true, true_and, and_false, false_and, or_true, true_or, or_false, false_or, and_self, or_self, Int32.add_zero]; done) | (simp [gofB, c12, Int32.not_le.mpr c12, nI_0]; done) | (simp only [gofB, c12, Int32.not_le.mpr c12, decide_true, decide_false, Bool.and_true, Bool.true_and, Bool.and_false, Bool.false_and, Bool.or_true, Bool.true_or, Bool.or_false, Bool.false_or, Bool.and_self, Bool.or_self, if_true, if_false, eq_self, Bool.false_eq_true, Bool.true_eq_false, reduceCtorEq, nI_0, not_true_eq_false, not_false_eq_true, and_true, true_and, and_false, false_and, or_true, true_or, or_false, false_or, and_self, or_self, Int32.add_zero]; omega) | (simp [gofB, c12, Int32.not_le.mpr c12, nI_0]; omega))).symm
    · exact hP
  · refine lv_aload_n hx hb dX6_goesFirst_15 rfl (lv_at hl 0 rfl) ?_
    refine lv_iload_n hx hb dX6_goesFirst_16 rfl (lv_at hl 1 rfl) ?_
    refine lv_iconst (v := nI 3) hx hb dX6_goesFirst_17 (by decide) ?_
    refine md_cVr (As := [.int (nI k), .int (nI 3)]) (rest := []) hx hb hown htg hK hI hS hP hml hl.1 (m6_of l D ct ad _ _ _ _ k 3 (by omega) (by omega)) cw_X6_47 rfl rfl ⟨Nat.le_of_ble_eq_true rfl, Nat.le_of_ble_eq_true rfl⟩ (Nat.le_of_ble_eq_true rfl) dX6_goesFirst_18 ⟨Nat.le_refl _, Nat.le_refl _⟩ (fun H locs hP hS => ?_)
    refine lv_aload_n hx hb dX6_goesFirst_21 rfl (lv_at hl 0 rfl) ?_
    refine lv_iload_n hx hb dX6_goesFirst_22 rfl (lv_at hl 2 rfl) ?_
    refine lv_iconst (v := nI 3) hx hb dX6_goesFirst_23 (by decide) ?_
    refine md_cVr (As := [.int (nI j), .int (nI 3)]) (rest := [.int (Z (39 + 8 * k + 3))]) hx hb hown htg hK hI hS hP hml hl.1 (m6_of l D ct ad _ _ _ _ j 3 (by omega) (by omega)) cw_X6_47 rfl rfl ⟨Nat.le_of_ble_eq_true rfl, Nat.le_of_ble_eq_true rfl⟩ (Nat.le_of_ble_eq_true rfl) dX6_goesFirst_24 ⟨Nat.le_refl _, Nat.le_refl _⟩ (fun H locs hP hS => ?_)
    refine lv_icmp_ne (tgt := 49) hx hb dX6_goesFirst_27 (by decide) (fun c27 => ?_) (fun c27 => ?_)
    · refine lv_iconst (v := nI 0) hx hb dX6_goesFirst_49 (by decide) ?_
      refine fr_iret hx hb hr hlocks hK hI hS rfl dX6_goesFirst_50 ?_ ?_
      · exact (congrArg bi (show (gofB Z k j) = false from by first | (exfalso; omega) | (simp only [gofB, c12, Int32.not_lt.mpr c12, c27, decide_true, decide_false, Bool.and_true, Bool.true_and, Bool.and_false, Bool.false_and, Bool.or_true, Bool.true_or, Bool.or_false, Bool.false_or, Bool.and_self, Bool.or_self, if_true, if_false, eq_self, Bool.false_eq_true, Bool.true_eq_false, reduceCtorEq, nI_0, not_true_eq_false, not_false_eq_true, and_true, true_and, and_false, false_and, or_true, true_or, or_false, false_or, and_self, or_self, Int32.add_zero]; done) | (simp [gofB, c12, Int32.not_lt.mpr c12, c27, nI_0]; done) | (simp only [gofB, c12, Int32.not_lt.mpr c12, c27, decide_true, decide_false, Bool.and_true, Bool.true_and, Bool.and_false, Bool.false_and, Bool.or_true, Bool.true_or, Bool.or_false, Bool.false_or, Bool.and_self, Bool.or_self, if_true, if_false, eq_self, Bool.false_eq_true, Bool.true_eq_false, reduceCtorEq, nI_0, not_true_eq_false, not_false_eq_true, and_true, true_and, and_false, false_and, or_true, true_or, or_false, false_or, and_self, or_self, Int32.add_zero]; omega) | (simp [gofB, c12, Int32.not_lt.mpr c12, c27, nI_0]; omega))).symm
      · exact hP
    · refine lv_aload_n hx hb dX6_goesFirst_30 rfl (lv_at hl 0 rfl) ?_
      refine lv_iload_n hx hb dX6_goesFirst_31 rfl (lv_at hl 1 rfl) ?_
      refine lv_iconst (v := nI 0) hx hb dX6_goesFirst_32 (by decide) ?_
      refine md_cVr (As := [.int (nI k), .int (nI 0)]) (rest := []) hx hb hown htg hK hI hS hP hml hl.1 (m6_of l D ct ad _ _ _ _ k 0 (by omega) (by omega)) cw_X6_47 rfl rfl ⟨Nat.le_of_ble_eq_true rfl, Nat.le_of_ble_eq_true rfl⟩ (Nat.le_of_ble_eq_true rfl) dX6_goesFirst_33 ⟨Nat.le_refl _, Nat.le_refl _⟩ (fun H locs hP hS => ?_)
      refine lv_aload_n hx hb dX6_goesFirst_36 rfl (lv_at hl 0 rfl) ?_
      refine lv_iload_n hx hb dX6_goesFirst_37 rfl (lv_at hl 2 rfl) ?_
      refine lv_iconst (v := nI 0) hx hb dX6_goesFirst_38 (by decide) ?_
      refine md_cVr (As := [.int (nI j), .int (nI 0)]) (rest := [.int (Z (39 + 8 * k + 0))]) hx hb hown htg hK hI hS hP hml hl.1 (m6_of l D ct ad _ _ _ _ j 0 (by omega) (by omega)) cw_X6_47 rfl rfl ⟨Nat.le_of_ble_eq_true rfl, Nat.le_of_ble_eq_true rfl⟩ (Nat.le_of_ble_eq_true rfl) dX6_goesFirst_39 ⟨Nat.le_refl _, Nat.le_refl _⟩ (fun H locs hP hS => ?_)
      refine lv_icmp_leR (tgt := 49) hx hb dX6_goesFirst_42 (by decide) (fun c42 => ?_) (fun c42 => ?_)
      · refine lv_iconst (v := nI 0) hx hb dX6_goesFirst_49 (by decide) ?_
        refine fr_iret hx hb hr hlocks hK hI hS rfl dX6_goesFirst_50 ?_ ?_
        · exact (congrArg bi (show (gofB Z k j) = false from by first | (exfalso; omega) | (simp only [gofB, c12, Int32.not_lt.mpr c12, c27, c42, Int32.not_lt.mpr c42, decide_true, decide_false, Bool.and_true, Bool.true_and, Bool.and_false, Bool.false_and, Bool.or_true, Bool.true_or, Bool.or_false, Bool.false_or, Bool.and_self, Bool.or_self, if_true, if_false, eq_self, Bool.false_eq_true, Bool.true_eq_false, reduceCtorEq, nI_0, not_true_eq_false, not_false_eq_true, and_true, true_and, and_false, false_and, or_true, true_or, or_false, false_or, and_self, or_self, Int32.add_zero]; done) | (simp [gofB, c12, Int32.not_lt.mpr c12, c27, c42, Int32.not_lt.mpr c42, nI_0]; done) | (simp only [gofB, c12, Int32.not_lt.mpr c12, c27, c42, Int32.not_lt.mpr c42, decide_true, decide_false, Bool.and_true, Bool.true_and, Bool.and_false, Bool.false_and, Bool.or_true, Bool.true_or, Bool.or_false, Bool.false_or, Bool.and_self, Bool.or_self, if_true, if_false, eq_self, Bool.false_eq_true, Bool.true_eq_false, reduceCtorEq, nI_0, not_true_eq_false, not_false_eq_true, and_true, true_and, and_false, false_and, or_true, true_or, or_false, false_or, and_self, or_self, Int32.add_zero]; omega) | (simp [gofB, c12, Int32.not_lt.mpr c12, c27, c42, Int32.not_lt.mpr c42, nI_0]; omega))).symm
        · exact hP
      · refine lv_iconst (v := nI 1) hx hb dX6_goesFirst_45 (by decide) ?_
        refine lv_goto (tgt := 50) hx hb dX6_goesFirst_46 (by decide) ?_
        refine fr_iret hx hb hr hlocks hK hI hS rfl dX6_goesFirst_50 ?_ ?_
        · exact (congrArg bi (show (gofB Z k j) = true from by first | (exfalso; omega) | (simp only [gofB, c12, Int32.not_lt.mpr c12, c27, c42, Int32.not_le.mpr c42, decide_true, decide_false, Bool.and_true, Bool.true_and, Bool.and_false, Bool.false_and, Bool.or_true, Bool.true_or, Bool.or_false, Bool.false_or, Bool.and_self, Bool.or_self, if_true, if_false, eq_self, Bool.false_eq_true, Bool.true_eq_false, reduceCtorEq, nI_0, not_true_eq_false, not_false_eq_true, and_true, true_and, and_false, false_and, or_true, true_or, or_false, false_or, and_self, or_self, Int32.add_zero]; done) | (simp [gofB, c12, Int32.not_lt.mpr c12, c27, c42, Int32.not_le.mpr c42, nI_0]; done) | (simp only [gofB, c12, Int32.not_lt.mpr c12, c27, c42, Int32.not_le.mpr c42, decide_true, decide_false, Bool.and_true, Bool.true_and, Bool.and_false, Bool.false_and, Bool.or_true, Bool.true_or, Bool.or_false, Bool.false_or, Bool.and_self, Bool.or_self, if_true, if_false, eq_self, Bool.false_eq_true, Bool.true_eq_false, reduceCtorEq, nI_0, not_true_eq_false, not_false_eq_true, and_true, true_and, and_false, false_and, or_true, true_or, or_false, false_or, and_self, or_self, Int32.add_zero]; omega) | (simp [gofB, c12, Int32.not_lt.mpr c12, c27, c42, Int32.not_le.mpr c42, nI_0]; omega))).symm
        · exact hP
set_option maxRecDepth 100000 in
set_option maxHeartbeats 4000000 in
theorem m6_firstToShed (l : Launch) (D : va_G) (ct : Nat → ClassId) (ad : Nat → Nat) (Z g : Nat → Int32) (hs : Int64) (F : Nat → Nat → Int32) (b : Nat) (n : Nat) (hw : zW Z n) (hb4 : b < 4) : FMet l yX6_firstToShed cX6_firstToShed 4 (some .int) 3 67 D ct 8 ad [.ref (ad 0), .int (nI b)] (mdc ct ad Z g hs F) (some (.int (ox (ftn Z b n)))) (mdc ct ad Z g hs F) := by
  refine FMet.of (by decide +kernel) (Nat.le_of_ble_eq_true rfl) ?_
  intro p e s m args below meth c ls hx hb hr hml hown hlocks htg hK hI hP hS hl
  have hl : lv_has ls 4 [(0, .ref (ad 0)), (1, .int (nI b))] := hl
  have hn10 := hw.1
  refine lv_iconst (v := -1) hx hb dX6_firstToShed_0 (by decide) ?_
  refine lv_istore_n (lv' := [(2, .int (-1)), (0, .ref (ad 0)), (1, .int (nI b))]) hx hb dX6_firstToShed_1 rfl hl (by decide) rfl (fun ls hl => ?_)
  refine lv_iconst (v := nI 0) hx hb dX6_firstToShed_2 (by decide) ?_
  refine lv_istore_n (lv' := [(3, .int (nI 0)), (2, .int (-1)), (0, .ref (ad 0)), (1, .int (nI b))]) hx hb dX6_firstToShed_3 rfl hl (by decide) rfl (fun ls hl => ?_)
  have lp4 : ∀ (fu : Nat) (i : Nat), i ≤ n → n - i < fu → ∀ (H : Heap) (locs : List Loc), fP D 8 ad (mdc ct ad Z g hs F) H → va_S (fA 8 ad) s.heap H locs → ∀ (ls : Array Slot), lv_has ls 4 [(3, .int (nI i)), (2, .int (ox (ftn Z b i))), (0, .ref (ad 0)), (1, .int (nI b))] → W p l e ({ frames := 3, cells := 0, slots := 0, locals := 67 }) s m args below meth c H locs 0 0 (MQ below (fQ D ct 8 ad (some (.int (ox (ftn Z b n)))) (mdc ct ad Z g hs F)) args s 0 0 (fA 8 ad)) (F0 m 4 ls []) := by
    intro fu
    induction fu with
    | zero => intro i hi hfu; exact absurd hfu (Nat.not_lt_zero _)
    | succ fu ih =>
      intro i hi hfu H locs hP hS ls hl
      refine lv_iload_n hx hb dX6_firstToShed_4 rfl (lv_at hl 0 rfl) ?_
      refine lv_aload_n hx hb dX6_firstToShed_5 rfl (lv_at hl 2 rfl) ?_
      refine md_g1 hx hb hown htg hK hP dX6_firstToShed_6 ?_
      refine lv_iconst (v := nI 4) hx hb dX6_firstToShed_9 (by decide) ?_
      refine md_l1 hx hb hK hP (by omega) dX6_firstToShed_10 ?_
      refine lv_teq (hw).2.1 ?_
      refine lv_icmp_geN (tgt := 57) hx hb (by omega) (by omega) dX6_firstToShed_11 (by decide) (fun c11 => ?_) (fun c11 => ?_)
      · refine lv_iload_n hx hb dX6_firstToShed_57 rfl (lv_at hl 1 rfl) ?_
        refine fr_iret hx hb hr hlocks hK hI hS rfl dX6_firstToShed_58 ?_ ?_
        · rw [show i = n from by omega]
        · exact hP
      · refine lv_aload_n hx hb dX6_firstToShed_14 rfl (lv_at hl 2 rfl) ?_
        refine lv_iload_n hx hb dX6_firstToShed_15 rfl (lv_at hl 0 rfl) ?_
        refine lv_iload_n hx hb dX6_firstToShed_16 rfl (lv_at hl 3 rfl) ?_
        refine md_cVr (As := [.int (nI i), .int (nI b)]) (rest := []) hx hb hown htg hK hI hS hP hml hl.1 (m6_isOn l D ct ad _ _ _ _ i b n hw (by omega) (by omega)) cw_X6_62 rfl rfl ⟨Nat.le_of_ble_eq_true rfl, Nat.le_of_ble_eq_true rfl⟩ (Nat.le_of_ble_eq_true rfl) dX6_firstToShed_17 ⟨Nat.le_refl _, Nat.le_refl _⟩ (fun H locs hP hS => ?_)
        refine lv_ifeqB (tgt := 49) hx hb dX6_firstToShed_20 (by decide) (fun c20 => ?_) (fun c20 => ?_)
        · refine lv_iload_n hx hb dX6_firstToShed_49 rfl (lv_at hl 1 rfl) ?_
          refine lv_istore_n (lv' := [(2, .int (ox (ftn Z b i))), (3, .int (nI i)), (0, .ref (ad 0)), (1, .int (nI b))]) hx hb dX6_firstToShed_50 rfl hl (by decide) rfl (fun ls hl => ?_)
          refine lv_iinc (v := nI (i + 1)) (lv' := [(3, .int (nI (i + 1))), (2, .int (ox (ftn Z b i))), (0, .ref (ad 0)), (1, .int (nI b))]) hx hb dX6_firstToShed_51 hl (k := 1) rfl (nI_add i 1) (by decide) rfl (fun ls hl => ?_)
          refine lv_goto (tgt := 4) hx hb dX6_firstToShed_54 (by decide) ?_
          have hl := lv_sub (l' := [(3, .int (nI (i + 1))), (2, .int (ox (ftn Z b i))), (0, .ref (ad 0)), (1, .int (nI b))]) hl [0, 1, 2, 3] rfl
          have e2 : Value.int (ox (ftn Z b i)) = Value.int (ox (ftn Z b (i + 1))) := by first | (rw [ftn_no]; simp only [drwB, c11, Nat.not_le.mpr c11, c20, decide_true, decide_false, Bool.and_true, Bool.true_and, Bool.and_false, Bool.false_and, Bool.or_true, Bool.true_or, Bool.or_false, Bool.false_or, Bool.and_self, Bool.or_self, if_true, if_false, eq_self, Bool.false_eq_true, Bool.true_eq_false, reduceCtorEq, nI_0, not_true_eq_false, not_false_eq_true, and_true, true_and, and_false, false_and, or_true, true_or, or_false, false_or, and_self, or_self, Int32.add_zero]; done) | (rw [ftn_worse d32 c42, ox_n d32]; done) | (rw [ftn_first, ox_n (by omega)]; simp only [drwB, c11, Nat.not_le.mpr c11, c20, decide_true, decide_false, Bool.and_true, Bool.true_and, Bool.and_false, Bool.false_and, Bool.or_true, Bool.true_or, Bool.or_false, Bool.false_or, Bool.and_self, Bool.or_self, if_true, if_false, eq_self, Bool.false_eq_true, Bool.true_eq_false, reduceCtorEq, nI_0, not_true_eq_false, not_false_eq_true, and_true, true_and, and_false, false_and, or_true, true_or, or_false, false_or, and_self, or_self, Int32.add_zero]; exact ox_m (ftn_le Z b i (by omega)) c33) | (rw [ftn_better (by simp only [drwB, c11, Nat.not_le.mpr c11, c20, decide_true, decide_false, Bool.and_true, Bool.true_and, Bool.and_false, Bool.false_and, Bool.or_true, Bool.true_or, Bool.or_false, Bool.false_or, Bool.and_self, Bool.or_self, if_true, if_false, eq_self, Bool.false_eq_true, Bool.true_eq_false, reduceCtorEq, nI_0, not_true_eq_false, not_false_eq_true, and_true, true_and, and_false, false_and, or_true, true_or, or_false, false_or, and_self, or_self, Int32.add_zero]) c42, ox_n (by omega)])
          rw [e2] at hl
          exact ih (i + 1) (by omega) (by omega) _ _ hP hS _ hl
        · refine lv_aload_n hx hb dX6_firstToShed_23 rfl (lv_at hl 2 rfl) ?_
          refine lv_iload_n hx hb dX6_firstToShed_24 rfl (lv_at hl 0 rfl) ?_
          refine md_cVr (As := [.int (nI i)]) (rest := []) hx hb hown htg hK hI hS hP hml hl.1 (m6_reason l D ct ad _ _ _ _ i n hw (by omega)) cw_X6_66 rfl rfl ⟨Nat.le_of_ble_eq_true rfl, Nat.le_of_ble_eq_true rfl⟩ (Nat.le_of_ble_eq_true rfl) dX6_firstToShed_25 ⟨Nat.le_refl _, Nat.le_refl _⟩ (fun H locs hP hS => ?_)
          have hrl := @rsn_lt Z i
          refine lv_ifneN (tgt := 49) hx hb (by omega) dX6_firstToShed_28 (by decide) (fun c28 => ?_) (fun c28 => ?_)
          · refine lv_iload_n hx hb dX6_firstToShed_49 rfl (lv_at hl 1 rfl) ?_
            refine lv_istore_n (lv' := [(2, .int (ox (ftn Z b i))), (3, .int (nI i)), (0, .ref (ad 0)), (1, .int (nI b))]) hx hb dX6_firstToShed_50 rfl hl (by decide) rfl (fun ls hl => ?_)
            refine lv_iinc (v := nI (i + 1)) (lv' := [(3, .int (nI (i + 1))), (2, .int (ox (ftn Z b i))), (0, .ref (ad 0)), (1, .int (nI b))]) hx hb dX6_firstToShed_51 hl (k := 1) rfl (nI_add i 1) (by decide) rfl (fun ls hl => ?_)
            refine lv_goto (tgt := 4) hx hb dX6_firstToShed_54 (by decide) ?_
            have hl := lv_sub (l' := [(3, .int (nI (i + 1))), (2, .int (ox (ftn Z b i))), (0, .ref (ad 0)), (1, .int (nI b))]) hl [0, 1, 2, 3] rfl
            have e2 : Value.int (ox (ftn Z b i)) = Value.int (ox (ftn Z b (i + 1))) := by first | (rw [ftn_no]; simp only [drwB, c11, Nat.not_le.mpr c11, c20, c28, decide_true, decide_false, Bool.and_true, Bool.true_and, Bool.and_false, Bool.false_and, Bool.or_true, Bool.true_or, Bool.or_false, Bool.false_or, Bool.and_self, Bool.or_self, if_true, if_false, eq_self, Bool.false_eq_true, Bool.true_eq_false, reduceCtorEq, nI_0, not_true_eq_false, not_false_eq_true, and_true, true_and, and_false, false_and, or_true, true_or, or_false, false_or, and_self, or_self, Int32.add_zero]; done) | (rw [ftn_worse d32 c42, ox_n d32]; done) | (rw [ftn_first, ox_n (by omega)]; simp only [drwB, c11, Nat.not_le.mpr c11, c20, c28, decide_true, decide_false, Bool.and_true, Bool.true_and, Bool.and_false, Bool.false_and, Bool.or_true, Bool.true_or, Bool.or_false, Bool.false_or, Bool.and_self, Bool.or_self, if_true, if_false, eq_self, Bool.false_eq_true, Bool.true_eq_false, reduceCtorEq, nI_0, not_true_eq_false, not_false_eq_true, and_true, true_and, and_false, false_and, or_true, true_or, or_false, false_or, and_self, or_self, Int32.add_zero]; exact ox_m (ftn_le Z b i (by omega)) c33) | (rw [ftn_better (by simp only [drwB, c11, Nat.not_le.mpr c11, c20, c28, decide_true, decide_false, Bool.and_true, Bool.true_and, Bool.and_false, Bool.false_and, Bool.or_true, Bool.true_or, Bool.or_false, Bool.false_or, Bool.and_self, Bool.or_self, if_true, if_false, eq_self, Bool.false_eq_true, Bool.true_eq_false, reduceCtorEq, nI_0, not_true_eq_false, not_false_eq_true, and_true, true_and, and_false, false_and, or_true, true_or, or_false, false_or, and_self, or_self, Int32.add_zero]) c42, ox_n (by omega)])
            rw [e2] at hl
            exact ih (i + 1) (by omega) (by omega) _ _ hP hS _ hl
          · refine lv_iload_n hx hb dX6_firstToShed_31 rfl (lv_at hl 1 rfl) ?_
            refine lv_iconst (v := -1) hx hb dX6_firstToShed_32 (by decide) ?_
            refine lv_icmp_eq (tgt := 45) hx hb dX6_firstToShed_33 (by decide) (fun c33 => ?_) (fun c33 => ?_)
            · refine lv_iload_n hx hb dX6_firstToShed_45 rfl (lv_at hl 0 rfl) ?_
              refine lv_goto (tgt := 50) hx hb dX6_firstToShed_46 (by decide) ?_
              refine lv_istore_n (lv' := [(2, .int (nI i)), (3, .int (nI i)), (0, .ref (ad 0)), (1, .int (nI b))]) hx hb dX6_firstToShed_50 rfl hl (by decide) rfl (fun ls hl => ?_)
              refine lv_iinc (v := nI (i + 1)) (lv' := [(3, .int (nI (i + 1))), (2, .int (nI i)), (0, .ref (ad 0)), (1, .int (nI b))]) hx hb dX6_firstToShed_51 hl (k := 1) rfl (nI_add i 1) (by decide) rfl (fun ls hl => ?_)
              refine lv_goto (tgt := 4) hx hb dX6_firstToShed_54 (by decide) ?_
              have hl := lv_sub (l' := [(3, .int (nI (i + 1))), (2, .int (nI i)), (0, .ref (ad 0)), (1, .int (nI b))]) hl [0, 1, 2, 3] rfl
              have e2 : Value.int (nI i) = Value.int (ox (ftn Z b (i + 1))) := by first | (rw [ftn_no]; simp only [drwB, c11, Nat.not_le.mpr c11, c20, c28, c33, decide_true, decide_false, Bool.and_true, Bool.true_and, Bool.and_false, Bool.false_and, Bool.or_true, Bool.true_or, Bool.or_false, Bool.false_or, Bool.and_self, Bool.or_self, if_true, if_false, eq_self, Bool.false_eq_true, Bool.true_eq_false, reduceCtorEq, nI_0, not_true_eq_false, not_false_eq_true, and_true, true_and, and_false, false_and, or_true, true_or, or_false, false_or, and_self, or_self, Int32.add_zero]; done) | (rw [ftn_worse d32 c42, ox_n d32]; done) | (rw [ftn_first, ox_n (by omega)]; simp only [drwB, c11, Nat.not_le.mpr c11, c20, c28, c33, decide_true, decide_false, Bool.and_true, Bool.true_and, Bool.and_false, Bool.false_and, Bool.or_true, Bool.true_or, Bool.or_false, Bool.false_or, Bool.and_self, Bool.or_self, if_true, if_false, eq_self, Bool.false_eq_true, Bool.true_eq_false, reduceCtorEq, nI_0, not_true_eq_false, not_false_eq_true, and_true, true_and, and_false, false_and, or_true, true_or, or_false, false_or, and_self, or_self, Int32.add_zero]; exact ox_m (ftn_le Z b i (by omega)) c33) | (rw [ftn_better (by simp only [drwB, c11, Nat.not_le.mpr c11, c20, c28, c33, decide_true, decide_false, Bool.and_true, Bool.true_and, Bool.and_false, Bool.false_and, Bool.or_true, Bool.true_or, Bool.or_false, Bool.false_or, Bool.and_self, Bool.or_self, if_true, if_false, eq_self, Bool.false_eq_true, Bool.true_eq_false, reduceCtorEq, nI_0, not_true_eq_false, not_false_eq_true, and_true, true_and, and_false, false_and, or_true, true_or, or_false, false_or, and_self, or_self, Int32.add_zero]) c42, ox_n (by omega)])
              rw [e2] at hl
              exact ih (i + 1) (by omega) (by omega) _ _ hP hS _ hl
            · have d32 := ox_nm c33
              have dl := ftn_lt Z b i
              refine lv_aload_n hx hb dX6_firstToShed_36 rfl (lv_at hl 2 rfl) ?_
              refine lv_iload_n hx hb dX6_firstToShed_37 rfl (lv_at hl 0 rfl) ?_
              refine lv_iload_n hx hb dX6_firstToShed_38 rfl (lv_at hl 1 rfl) ?_
              refine lv_teq (ox_n d32) ?_
              refine md_cVr (As := [.int (nI i), .int (nI (ftn Z b i))]) (rest := []) hx hb hown htg hK hI hS hP hml hl.1 (m6_goesFirst l D ct ad _ _ _ _ i (ftn Z b i) (by omega) (by omega)) cw_X6_69 rfl rfl ⟨Nat.le_of_ble_eq_true rfl, Nat.le_of_ble_eq_true rfl⟩ (Nat.le_of_ble_eq_true rfl) dX6_firstToShed_39 ⟨Nat.le_refl _, Nat.le_refl _⟩ (fun H locs hP hS => ?_)
              refine lv_ifeqB (tgt := 49) hx hb dX6_firstToShed_42 (by decide) (fun c42 => ?_) (fun c42 => ?_)
              · refine lv_iload_n hx hb dX6_firstToShed_49 rfl (lv_at hl 1 rfl) ?_
                refine lv_teq (ox_n d32) ?_
                refine lv_istore_n (lv' := [(2, .int (nI (ftn Z b i))), (3, .int (nI i)), (0, .ref (ad 0)), (1, .int (nI b))]) hx hb dX6_firstToShed_50 rfl hl (by decide) rfl (fun ls hl => ?_)
                refine lv_iinc (v := nI (i + 1)) (lv' := [(3, .int (nI (i + 1))), (2, .int (nI (ftn Z b i))), (0, .ref (ad 0)), (1, .int (nI b))]) hx hb dX6_firstToShed_51 hl (k := 1) rfl (nI_add i 1) (by decide) rfl (fun ls hl => ?_)
                refine lv_goto (tgt := 4) hx hb dX6_firstToShed_54 (by decide) ?_
                have hl := lv_sub (l' := [(3, .int (nI (i + 1))), (2, .int (nI (ftn Z b i))), (0, .ref (ad 0)), (1, .int (nI b))]) hl [0, 1, 2, 3] rfl
                have e2 : Value.int (nI (ftn Z b i)) = Value.int (ox (ftn Z b (i + 1))) := by first | (rw [ftn_no]; simp only [drwB, c11, Nat.not_le.mpr c11, c20, c28, c33, c42, decide_true, decide_false, Bool.and_true, Bool.true_and, Bool.and_false, Bool.false_and, Bool.or_true, Bool.true_or, Bool.or_false, Bool.false_or, Bool.and_self, Bool.or_self, if_true, if_false, eq_self, Bool.false_eq_true, Bool.true_eq_false, reduceCtorEq, nI_0, not_true_eq_false, not_false_eq_true, and_true, true_and, and_false, false_and, or_true, true_or, or_false, false_or, and_self, or_self, Int32.add_zero]; done) | (rw [ftn_worse d32 c42, ox_n d32]; done) | (rw [ftn_first, ox_n (by omega)]; simp only [drwB, c11, Nat.not_le.mpr c11, c20, c28, c33, c42, decide_true, decide_false, Bool.and_true, Bool.true_and, Bool.and_false, Bool.false_and, Bool.or_true, Bool.true_or, Bool.or_false, Bool.false_or, Bool.and_self, Bool.or_self, if_true, if_false, eq_self, Bool.false_eq_true, Bool.true_eq_false, reduceCtorEq, nI_0, not_true_eq_false, not_false_eq_true, and_true, true_and, and_false, false_and, or_true, true_or, or_false, false_or, and_self, or_self, Int32.add_zero]; exact ox_m (ftn_le Z b i (by omega)) c33) | (rw [ftn_better (by simp only [drwB, c11, Nat.not_le.mpr c11, c20, c28, c33, c42, decide_true, decide_false, Bool.and_true, Bool.true_and, Bool.and_false, Bool.false_and, Bool.or_true, Bool.true_or, Bool.or_false, Bool.false_or, Bool.and_self, Bool.or_self, if_true, if_false, eq_self, Bool.false_eq_true, Bool.true_eq_false, reduceCtorEq, nI_0, not_true_eq_false, not_false_eq_true, and_true, true_and, and_false, false_and, or_true, true_or, or_false, false_or, and_self, or_self, Int32.add_zero]) c42, ox_n (by omega)])
                rw [e2] at hl
                exact ih (i + 1) (by omega) (by omega) _ _ hP hS _ hl
              · refine lv_iload_n hx hb dX6_firstToShed_45 rfl (lv_at hl 0 rfl) ?_
                refine lv_goto (tgt := 50) hx hb dX6_firstToShed_46 (by decide) ?_
                refine lv_istore_n (lv' := [(2, .int (nI i)), (3, .int (nI i)), (0, .ref (ad 0)), (1, .int (nI b))]) hx hb dX6_firstToShed_50 rfl hl (by decide) rfl (fun ls hl => ?_)
                refine lv_iinc (v := nI (i + 1)) (lv' := [(3, .int (nI (i + 1))), (2, .int (nI i)), (0, .ref (ad 0)), (1, .int (nI b))]) hx hb dX6_firstToShed_51 hl (k := 1) rfl (nI_add i 1) (by decide) rfl (fun ls hl => ?_)
                refine lv_goto (tgt := 4) hx hb dX6_firstToShed_54 (by decide) ?_
                have hl := lv_sub (l' := [(3, .int (nI (i + 1))), (2, .int (nI i)), (0, .ref (ad 0)), (1, .int (nI b))]) hl [0, 1, 2, 3] rfl
                have e2 : Value.int (nI i) = Value.int (ox (ftn Z b (i + 1))) := by first | (rw [ftn_no]; simp only [drwB, c11, Nat.not_le.mpr c11, c20, c28, c33, c42, decide_true, decide_false, Bool.and_true, Bool.true_and, Bool.and_false, Bool.false_and, Bool.or_true, Bool.true_or, Bool.or_false, Bool.false_or, Bool.and_self, Bool.or_self, if_true, if_false, eq_self, Bool.false_eq_true, Bool.true_eq_false, reduceCtorEq, nI_0, not_true_eq_false, not_false_eq_true, and_true, true_and, and_false, false_and, or_true, true_or, or_false, false_or, and_self, or_self, Int32.add_zero]; done) | (rw [ftn_worse d32 c42, ox_n d32]; done) | (rw [ftn_first, ox_n (by omega)]; simp only [drwB, c11, Nat.not_le.mpr c11, c20, c28, c33, c42, decide_true, decide_false, Bool.and_true, Bool.true_and, Bool.and_false, Bool.false_and, Bool.or_true, Bool.true_or, Bool.or_false, Bool.false_or, Bool.and_self, Bool.or_self, if_true, if_false, eq_self, Bool.false_eq_true, Bool.true_eq_false, reduceCtorEq, nI_0, not_true_eq_false, not_false_eq_true, and_true, true_and, and_false, false_and, or_true, true_or, or_false, false_or, and_self, or_self, Int32.add_zero]; exact ox_m (ftn_le Z b i (by omega)) c33) | (rw [ftn_better (by simp only [drwB, c11, Nat.not_le.mpr c11, c20, c28, c33, c42, decide_true, decide_false, Bool.and_true, Bool.true_and, Bool.and_false, Bool.false_and, Bool.or_true, Bool.true_or, Bool.or_false, Bool.false_or, Bool.and_self, Bool.or_self, if_true, if_false, eq_self, Bool.false_eq_true, Bool.true_eq_false, reduceCtorEq, nI_0, not_true_eq_false, not_false_eq_true, and_true, true_and, and_false, false_and, or_true, true_or, or_false, false_or, and_self, or_self, Int32.add_zero]) c42, ox_n (by omega)])
                rw [e2] at hl
                exact ih (i + 1) (by omega) (by omega) _ _ hP hS _ hl
  have hl := lv_sub (l' := [(3, .int (nI 0)), (2, .int (-1)), (0, .ref (ad 0)), (1, .int (nI b))]) hl [0, 1, 2, 3] rfl
  have e2 : Value.int (-1) = Value.int (ox (ftn Z b 0)) := by rfl
  rw [e2] at hl
  exact lp4 (n - 0 + 1) 0 (by omega) (Nat.lt_succ_self _) _ _ hP hS _ hl
set_option maxRecDepth 100000 in
set_option maxHeartbeats 4000000 in
theorem m6_shedByRank (l : Launch) (D : va_G) (ct : Nat → ClassId) (ad : Nat → Nat) (Z g : Nat → Int32) (hs : Int64) (F : Nat → Nat → Int32) (b : Nat) (n : Nat) (hw : zW Z n) (hb4 : b < 4) : FMet l yX6_shedByRank cX6_shedByRank 2 (none : Option Jvm.ClassFile.FieldType) 4 90 D ct 8 ad [.ref (ad 0), .int (nI b)] (mdc ct ad Z g hs F) none (mdc ct ad (shdZ Z b n) g hs F) := by
  refine FMet.of (by decide +kernel) (Nat.le_of_ble_eq_true rfl) ?_
  intro p e s m args below meth c ls hx hb hr hml hown hlocks htg hK hI hP hS hl
  have hl : lv_has ls 2 [(0, .ref (ad 0)), (1, .int (nI b))] := hl
  have hn10 := hw.1
  have lp0 : ∀ (fu : Nat) (f : Nat) (X : Nat → Int32), zW X n → drN X b n ≤ f → shL b n f X = shL b n 10 Z → f < fu → ∀ (H : Heap) (locs : List Loc), fP D 8 ad (mdc ct ad X g hs F) H → va_S (fA 8 ad) s.heap H locs → ∀ (ls : Array Slot), lv_has ls 2 [(0, .ref (ad 0)), (1, .int (nI b))] → W p l e ({ frames := 4, cells := 0, slots := 0, locals := 90 }) s m args below meth c H locs 0 0 (MQ below (fQ D ct 8 ad none (mdc ct ad (shdZ Z b n) g hs F)) args s 0 0 (fA 8 ad)) (F0 m 0 ls []) := by
    intro fu
    induction fu with
    | zero => intro f X hX hdf hres hfu; exact absurd hfu (Nat.not_lt_zero _)
    | succ fu ih =>
      intro f X hX hdf hres hfu H locs hP hS ls hl
      refine lv_aload_n hx hb dX6_shedByRank_0 rfl (lv_at hl 0 rfl) ?_
      refine md_g1 hx hb hown htg hK hP dX6_shedByRank_1 ?_
      refine lv_iconst (v := nI 1) hx hb dX6_shedByRank_4 (by decide) ?_
      refine md_l1 hx hb hK hP (by omega) dX6_shedByRank_5 ?_
      refine lv_iconst (v := nI 1) hx hb dX6_shedByRank_6 (by decide) ?_
      refine lv_icmp_ne (tgt := 58) hx hb dX6_shedByRank_7 (by decide) (fun c7 => ?_) (fun c7 => ?_)
      · refine fr_vret hx hb hr hlocks hK hI hS dX6_shedByRank_58 ?_
        rw [show (shdZ Z b n) = X from by rw [shdZ, ← hres]; cases f <;> first | rfl | (simp only [shL, shC, c7, decide_true, decide_false, Bool.and_true, Bool.true_and, Bool.and_false, Bool.false_and, Bool.or_true, Bool.true_or, Bool.or_false, Bool.false_or, Bool.and_self, Bool.or_self, if_true, if_false, eq_self, Bool.false_eq_true, Bool.true_eq_false, reduceCtorEq, nI_0, not_true_eq_false, not_false_eq_true, and_true, true_and, and_false, false_and, or_true, true_or, or_false, false_or, and_self, or_self, Int32.add_zero]; done)]
        exact hP
      · refine lv_aload_n hx hb dX6_shedByRank_10 rfl (lv_at hl 0 rfl) ?_
        refine lv_iload_n hx hb dX6_shedByRank_11 rfl (lv_at hl 1 rfl) ?_
        refine lv_iconst (v := nI 1) hx hb dX6_shedByRank_12 (by decide) ?_
        refine md_cVr (As := [.int (nI b), .int (nI 1)]) (rest := []) hx hb hown htg hK hI hS hP hml hl.1 (m6_by l D ct ad _ _ _ _ b 1 (by omega) (by omega)) cw_X6_59 rfl rfl ⟨Nat.le_of_ble_eq_true rfl, Nat.le_of_ble_eq_true rfl⟩ (Nat.le_of_ble_eq_true rfl) dX6_shedByRank_13 ⟨Nat.le_refl _, Nat.le_refl _⟩ (fun H locs hP hS => ?_)
        refine lv_iconst (v := nI 1) hx hb dX6_shedByRank_16 (by decide) ?_
        refine lv_icmp_ne (tgt := 58) hx hb dX6_shedByRank_17 (by decide) (fun c17 => ?_) (fun c17 => ?_)
        · refine fr_vret hx hb hr hlocks hK hI hS dX6_shedByRank_58 ?_
          rw [show (shdZ Z b n) = X from by rw [shdZ, ← hres]; cases f <;> first | rfl | (simp only [shL, shC, c7, c17, decide_true, decide_false, Bool.and_true, Bool.true_and, Bool.and_false, Bool.false_and, Bool.or_true, Bool.true_or, Bool.or_false, Bool.false_or, Bool.and_self, Bool.or_self, if_true, if_false, eq_self, Bool.false_eq_true, Bool.true_eq_false, reduceCtorEq, nI_0, not_true_eq_false, not_false_eq_true, and_true, true_and, and_false, false_and, or_true, true_or, or_false, false_or, and_self, or_self, Int32.add_zero]; done)]
          exact hP
        · refine lv_aload_n hx hb dX6_shedByRank_20 rfl (lv_at hl 0 rfl) ?_
          refine lv_iload_n hx hb dX6_shedByRank_21 rfl (lv_at hl 1 rfl) ?_
          refine md_cVr (As := [.int (nI b)]) (rest := []) hx hb hown htg hK hI hS hP hml hl.1 (m6_carried l D ct ad _ _ _ _ b n hX (by omega)) cw_X6_72 rfl rfl ⟨Nat.le_of_ble_eq_true rfl, Nat.le_of_ble_eq_true rfl⟩ (Nat.le_of_ble_eq_true rfl) dX6_shedByRank_22 ⟨Nat.le_refl _, Nat.le_refl _⟩ (fun H locs hP hS => ?_)
          refine lv_aload_n hx hb dX6_shedByRank_25 rfl (lv_at hl 0 rfl) ?_
          refine lv_iload_n hx hb dX6_shedByRank_26 rfl (lv_at hl 1 rfl) ?_
          refine lv_iconst (v := nI 0) hx hb dX6_shedByRank_27 (by decide) ?_
          refine md_cVr (As := [.int (nI b), .int (nI 0)]) (rest := [.int (carS X b n)]) hx hb hown htg hK hI hS hP hml hl.1 (m6_by l D ct ad _ _ _ _ b 0 (by omega) (by omega)) cw_X6_59 rfl rfl ⟨Nat.le_of_ble_eq_true rfl, Nat.le_of_ble_eq_true rfl⟩ (Nat.le_of_ble_eq_true rfl) dX6_shedByRank_28 ⟨Nat.le_refl _, Nat.le_refl _⟩ (fun H locs hP hS => ?_)
          refine lv_icmp_leR (tgt := 58) hx hb dX6_shedByRank_31 (by decide) (fun c31 => ?_) (fun c31 => ?_)
          · refine fr_vret hx hb hr hlocks hK hI hS dX6_shedByRank_58 ?_
            rw [show (shdZ Z b n) = X from by rw [shdZ, ← hres]; cases f <;> first | rfl | (simp only [shL, shC, c7, c17, c31, Int32.not_lt.mpr c31, decide_true, decide_false, Bool.and_true, Bool.true_and, Bool.and_false, Bool.false_and, Bool.or_true, Bool.true_or, Bool.or_false, Bool.false_or, Bool.and_self, Bool.or_self, if_true, if_false, eq_self, Bool.false_eq_true, Bool.true_eq_false, reduceCtorEq, nI_0, not_true_eq_false, not_false_eq_true, and_true, true_and, and_false, false_and, or_true, true_or, or_false, false_or, and_self, or_self, Int32.add_zero]; done)]
            exact hP
          · have hC : shC X b n = true := by simp only [shC, c7, c17, c31, Int32.not_le.mpr c31, decide_true, Bool.and_self]
            have hF := shC_ftn hX hb4 c31
            have hd := drN_sh hX hF
            have hfl := ftn_lt X b n
            have hf1 : 1 ≤ f := by omega
            refine lv_aload_n hx hb dX6_shedByRank_34 rfl (lv_at hl 0 rfl) ?_
            refine lv_aload_n hx hb dX6_shedByRank_35 rfl (lv_at hl 0 rfl) ?_
            refine lv_iload_n hx hb dX6_shedByRank_36 rfl (lv_at hl 1 rfl) ?_
            refine md_cVr (As := [.int (nI b)]) (rest := [.ref (ad 0)]) hx hb hown htg hK hI hS hP hml hl.1 (m6_firstToShed l D ct ad _ _ _ _ b n hX (by omega)) cw_X6_75 rfl rfl ⟨Nat.le_of_ble_eq_true rfl, Nat.le_of_ble_eq_true rfl⟩ (Nat.le_of_ble_eq_true rfl) dX6_shedByRank_37 ⟨Nat.le_refl _, Nat.le_refl _⟩ (fun H locs hP hS => ?_)
            refine lv_teq (ox_n hF) ?_
            refine lv_iconst (v := nI 5) hx hb dX6_shedByRank_40 (by decide) ?_
            refine lv_iconst (v := nI 1) hx hb dX6_shedByRank_41 (by decide) ?_
            refine md_cV0 (As := [.int (nI (ftn X b n)), .int (nI 5), .int (nI 1)]) (rest := []) hx hb hown htg hK hI hS hP hml hl.1 (m6_lay l D ct ad _ _ _ _ (ftn X b n) 5 (nI 1) (by omega) (by omega)) cw_X6_78 rfl rfl ⟨Nat.le_of_ble_eq_true rfl, Nat.le_of_ble_eq_true rfl⟩ (Nat.le_of_ble_eq_true rfl) dX6_shedByRank_42 ⟨Nat.le_refl _, Nat.le_refl _⟩ (fun H locs hP hS => ?_)
            refine lv_aload_n hx hb dX6_shedByRank_45 rfl (lv_at hl 0 rfl) ?_
            refine md_g1 hx hb hown htg hK hP dX6_shedByRank_46 ?_
            refine lv_iconst (v := nI 5) hx hb dX6_shedByRank_49 (by decide) ?_
            refine lv_dup2_11 hx hb dX6_shedByRank_50 rfl rfl ?_
            refine md_l1 hx hb hK hP (by omega) dX6_shedByRank_51 ?_
            refine lv_iconst (v := nI 1) hx hb dX6_shedByRank_52 (by decide) ?_
            refine lv_iadd hx hb dX6_shedByRank_53 ?_
            refine md_s1 hx hb hK hI hS hP (by omega) dX6_shedByRank_54 (fun H locs hP hS => ?_)
            refine lv_goto (tgt := 0) hx hb dX6_shedByRank_55 (by decide) ?_
            have hl := lv_sub (l' := [(0, .ref (ad 0)), (1, .int (nI b))]) hl [0, 1] rfl
            rw [show (upd (upd X (39 + 8 * (ftn X b n) + 5) (nI 1)) 5 (((upd X (39 + 8 * (ftn X b n) + 5) (nI 1)) 5) + (nI 1))) = (shS X b n) from by rfl] at hP
            exact ih (f - 1) (shS X b n) (shS_zW hX) (by omega) (by rw [show f = (f - 1) + 1 from by omega] at hres; simpa only [shL, hC, if_true] using hres) (by omega) _ _ hP hS _ hl
  have hl := lv_sub (l' := [(0, .ref (ad 0)), (1, .int (nI b))]) hl [0, 1] rfl
  exact lp0 (10 + 1) 10 Z (hw) (by have := drN_le Z b n; omega) (rfl) (Nat.lt_succ_self _) _ _ hP hS _ hl
end
