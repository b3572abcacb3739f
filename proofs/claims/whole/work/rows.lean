section
-- ===== PART A: goes FIRST, ahead of the names: the tables' words, and 'selects' of the private methods out of them =====
/-- a private method of a class that the tables say can be made, by its rows of tables_1 -/
def lw_okq (q : MethodName × Nat) : Prop := (q.1.cls ≠ "java/lang/invoke/MethodHandle" ∧ q.1.cls ≠ "java/lang/invoke/VarHandle") ∧ Cond.instantiable q.1.cls q.2 ∈ tables_1 ∧ Cond.privateMethod q.1 ∈ tables_1 ∧ Cond.instanceMethod q.1 ∈ tables_1
theorem lw_p0 : lw_okq (⟨"GraphCompare$Match", "allPairsAgree", "(LGraphCompare$Designs;)Z"⟩, 5) := ⟨⟨by decide +kernel, by decide +kernel⟩, List.mem_of_getElem? (i := 273) (by decide +kernel), List.mem_of_getElem? (i := 386) (by decide +kernel), List.mem_of_getElem? (i := 387) (by decide +kernel)⟩
theorem lw_p1 : lw_okq (⟨"GraphCompare$Match", "pairAgrees", "(LGraphCompare$Designs;I)Z"⟩, 5) := ⟨⟨by decide +kernel, by decide +kernel⟩, List.mem_of_getElem? (i := 273) (by decide +kernel), List.mem_of_getElem? (i := 390) (by decide +kernel), List.mem_of_getElem? (i := 391) (by decide +kernel)⟩
theorem lw_p2 : lw_okq (⟨"GraphCompare", "sideAt", "(I)LGraphCompare$Side;"⟩, 8) := ⟨⟨by decide +kernel, by decide +kernel⟩, List.mem_of_getElem? (i := 22) (by decide +kernel), List.mem_of_getElem? (i := 419) (by decide +kernel), List.mem_of_getElem? (i := 420) (by decide +kernel)⟩
theorem lw_p3 : lw_okq (⟨"java/lang/Throwable", "fillInStackTrace", "(I)Ljava/lang/Throwable;"⟩, 6) := ⟨⟨by decide +kernel, by decide +kernel⟩, List.mem_of_getElem? (i := 461) (by decide +kernel), List.mem_of_getElem? (i := 459) (by decide +kernel), List.mem_of_getElem? (i := 460) (by decide +kernel)⟩
theorem lw_p4 : lw_okq (⟨"GraphCompare$Joining", "joinFirstPair", "(LGraphCompare$Side;LGraphCompare$Kinds;I)Z"⟩, 1) := ⟨⟨by decide +kernel, by decide +kernel⟩, List.mem_of_getElem? (i := 140) (by decide +kernel), List.mem_of_getElem? (i := 628) (by decide +kernel), List.mem_of_getElem? (i := 629) (by decide +kernel)⟩
theorem lw_p5 : lw_okq (⟨"GraphCompare$Joining", "countPins", "(LGraphCompare$Side;)V"⟩, 1) := ⟨⟨by decide +kernel, by decide +kernel⟩, List.mem_of_getElem? (i := 140) (by decide +kernel), List.mem_of_getElem? (i := 632) (by decide +kernel), List.mem_of_getElem? (i := 633) (by decide +kernel)⟩
theorem lw_p6 : lw_okq (⟨"GraphCompare$Joining", "joinPair", "(LGraphCompare$Side;LGraphCompare$Kinds;III)Z"⟩, 1) := ⟨⟨by decide +kernel, by decide +kernel⟩, List.mem_of_getElem? (i := 140) (by decide +kernel), List.mem_of_getElem? (i := 641) (by decide +kernel), List.mem_of_getElem? (i := 642) (by decide +kernel)⟩
theorem lw_p7 : lw_okq (⟨"GraphCompare$Joining", "joinSeries", "(LGraphCompare$Side;LGraphCompare$Kinds;II)Z"⟩, 1) := ⟨⟨by decide +kernel, by decide +kernel⟩, List.mem_of_getElem? (i := 140) (by decide +kernel), List.mem_of_getElem? (i := 650) (by decide +kernel), List.mem_of_getElem? (i := 651) (by decide +kernel)⟩
theorem lw_p8 : lw_okq (⟨"GraphCompare$Joining", "netBetween", "(LGraphCompare$Side;II)I"⟩, 1) := ⟨⟨by decide +kernel, by decide +kernel⟩, List.mem_of_getElem? (i := 140) (by decide +kernel), List.mem_of_getElem? (i := 657) (by decide +kernel), List.mem_of_getElem? (i := 658) (by decide +kernel)⟩
theorem lw_p9 : lw_okq (⟨"GraphCompare$Classes", "enterAll", "(LGraphCompare$Designs;)V"⟩, 5) := ⟨⟨by decide +kernel, by decide +kernel⟩, List.mem_of_getElem? (i := 150) (by decide +kernel), List.mem_of_getElem? (i := 688) (by decide +kernel), List.mem_of_getElem? (i := 689) (by decide +kernel)⟩
theorem lw_p10 : lw_okq (⟨"GraphCompare$Partition", "partLike", "(II)I"⟩, 9) := ⟨⟨by decide +kernel, by decide +kernel⟩, List.mem_of_getElem? (i := 156) (by decide +kernel), List.mem_of_getElem? (i := 714) (by decide +kernel), List.mem_of_getElem? (i := 715) (by decide +kernel)⟩
theorem lw_p11 : lw_okq (⟨"GraphCompare$Partition", "haveSameCodes", "(II)Z"⟩, 9) := ⟨⟨by decide +kernel, by decide +kernel⟩, List.mem_of_getElem? (i := 156) (by decide +kernel), List.mem_of_getElem? (i := 718) (by decide +kernel), List.mem_of_getElem? (i := 719) (by decide +kernel)⟩
theorem lw_p12 : lw_okq (⟨"GraphCompare$Classes", "makeRound", "(LGraphCompare$Designs;)Z"⟩, 5) := ⟨⟨by decide +kernel, by decide +kernel⟩, List.mem_of_getElem? (i := 150) (by decide +kernel), List.mem_of_getElem? (i := 722) (by decide +kernel), List.mem_of_getElem? (i := 723) (by decide +kernel)⟩
theorem lw_p13 : lw_okq (⟨"GraphCompare$Classes", "addCodes", "(LGraphCompare$Kinds;LGraphCompare$Side;II)V"⟩, 5) := ⟨⟨by decide +kernel, by decide +kernel⟩, List.mem_of_getElem? (i := 150) (by decide +kernel), List.mem_of_getElem? (i := 727) (by decide +kernel), List.mem_of_getElem? (i := 728) (by decide +kernel)⟩
theorem lw_p14 : lw_okq (⟨"GraphCompare$Classes", "countMembers", "(LGraphCompare$Side;I[I)V"⟩, 5) := ⟨⟨by decide +kernel, by decide +kernel⟩, List.mem_of_getElem? (i := 150) (by decide +kernel), List.mem_of_getElem? (i := 734) (by decide +kernel), List.mem_of_getElem? (i := 735) (by decide +kernel)⟩
theorem lw_p15 : lw_okq (⟨"GraphCompare$Search", "begin", "(LGraphCompare$Designs;)V"⟩, 11) := ⟨⟨by decide +kernel, by decide +kernel⟩, List.mem_of_getElem? (i := 210) (by decide +kernel), List.mem_of_getElem? (i := 764) (by decide +kernel), List.mem_of_getElem? (i := 765) (by decide +kernel)⟩
def lw_privs_1 : List (MethodName × Nat) := [(⟨"GraphCompare$Match", "allPairsAgree", "(LGraphCompare$Designs;)Z"⟩, 5), (⟨"GraphCompare$Match", "pairAgrees", "(LGraphCompare$Designs;I)Z"⟩, 5), (⟨"GraphCompare", "sideAt", "(I)LGraphCompare$Side;"⟩, 8), (⟨"java/lang/Throwable", "fillInStackTrace", "(I)Ljava/lang/Throwable;"⟩, 6), (⟨"GraphCompare$Joining", "joinFirstPair", "(LGraphCompare$Side;LGraphCompare$Kinds;I)Z"⟩, 1), (⟨"GraphCompare$Joining", "countPins", "(LGraphCompare$Side;)V"⟩, 1), (⟨"GraphCompare$Joining", "joinPair", "(LGraphCompare$Side;LGraphCompare$Kinds;III)Z"⟩, 1), (⟨"GraphCompare$Joining", "joinSeries", "(LGraphCompare$Side;LGraphCompare$Kinds;II)Z"⟩, 1), (⟨"GraphCompare$Joining", "netBetween", "(LGraphCompare$Side;II)I"⟩, 1), (⟨"GraphCompare$Classes", "enterAll", "(LGraphCompare$Designs;)V"⟩, 5), (⟨"GraphCompare$Partition", "partLike", "(II)I"⟩, 9), (⟨"GraphCompare$Partition", "haveSameCodes", "(II)Z"⟩, 9), (⟨"GraphCompare$Classes", "makeRound", "(LGraphCompare$Designs;)Z"⟩, 5), (⟨"GraphCompare$Classes", "addCodes", "(LGraphCompare$Kinds;LGraphCompare$Side;II)V"⟩, 5), (⟨"GraphCompare$Classes", "countMembers", "(LGraphCompare$Side;I[I)V"⟩, 5), (⟨"GraphCompare$Search", "begin", "(LGraphCompare$Designs;)V"⟩, 11)]
theorem lw_r1 : ∀ q ∈ lw_privs_1, lw_okq q := List.forall_mem_cons.mpr ⟨lw_p0, List.forall_mem_cons.mpr ⟨lw_p1, List.forall_mem_cons.mpr ⟨lw_p2, List.forall_mem_cons.mpr ⟨lw_p3, List.forall_mem_cons.mpr ⟨lw_p4, List.forall_mem_cons.mpr ⟨lw_p5, List.forall_mem_cons.mpr ⟨lw_p6, List.forall_mem_cons.mpr ⟨lw_p7, List.forall_mem_cons.mpr ⟨lw_p8, List.forall_mem_cons.mpr ⟨lw_p9, List.forall_mem_cons.mpr ⟨lw_p10, List.forall_mem_cons.mpr ⟨lw_p11, List.forall_mem_cons.mpr ⟨lw_p12, List.forall_mem_cons.mpr ⟨lw_p13, List.forall_mem_cons.mpr ⟨lw_p14, List.forall_mem_cons.mpr ⟨lw_p15, fun _ h => absurd h List.not_mem_nil⟩⟩⟩⟩⟩⟩⟩⟩⟩⟩⟩⟩⟩⟩⟩⟩
theorem lw_p16 : lw_okq (⟨"GraphCompare$Search", "nextCandidate", "(LGraphCompare$Designs;LGraphCompare$Classes;I)I"⟩, 11) := ⟨⟨by decide +kernel, by decide +kernel⟩, List.mem_of_getElem? (i := 210) (by decide +kernel), List.mem_of_getElem? (i := 774) (by decide +kernel), List.mem_of_getElem? (i := 775) (by decide +kernel)⟩
theorem lw_p17 : lw_okq (⟨"GraphCompare$Search", "undo", "(I)V"⟩, 11) := ⟨⟨by decide +kernel, by decide +kernel⟩, List.mem_of_getElem? (i := 210) (by decide +kernel), List.mem_of_getElem? (i := 779) (by decide +kernel), List.mem_of_getElem? (i := 780) (by decide +kernel)⟩
theorem lw_p18 : lw_okq (⟨"GraphCompare$Search", "pairUp", "(LGraphCompare$Designs;II)Z"⟩, 11) := ⟨⟨by decide +kernel, by decide +kernel⟩, List.mem_of_getElem? (i := 210) (by decide +kernel), List.mem_of_getElem? (i := 783) (by decide +kernel), List.mem_of_getElem? (i := 784) (by decide +kernel)⟩
theorem lw_p19 : lw_okq (⟨"GraphCompare$NetSorts", "placeOf", "(I)I"⟩, 4) := ⟨⟨by decide +kernel, by decide +kernel⟩, List.mem_of_getElem? (i := 216) (by decide +kernel), List.mem_of_getElem? (i := 794) (by decide +kernel), List.mem_of_getElem? (i := 795) (by decide +kernel)⟩
theorem lw_p20 : lw_okq (⟨"GraphCompare$Search", "findMates", "()Z"⟩, 11) := ⟨⟨by decide +kernel, by decide +kernel⟩, List.mem_of_getElem? (i := 210) (by decide +kernel), List.mem_of_getElem? (i := 798) (by decide +kernel), List.mem_of_getElem? (i := 799) (by decide +kernel)⟩
theorem lw_p21 : lw_okq (⟨"GraphCompare$Search", "changeSorts", "(I)V"⟩, 11) := ⟨⟨by decide +kernel, by decide +kernel⟩, List.mem_of_getElem? (i := 210) (by decide +kernel), List.mem_of_getElem? (i := 806) (by decide +kernel), List.mem_of_getElem? (i := 807) (by decide +kernel)⟩
theorem lw_p22 : lw_okq (⟨"GraphCompare$Search", "keepNet", "(LGraphCompare$Side;LGraphCompare$Match;I)V"⟩, 11) := ⟨⟨by decide +kernel, by decide +kernel⟩, List.mem_of_getElem? (i := 210) (by decide +kernel), List.mem_of_getElem? (i := 822) (by decide +kernel), List.mem_of_getElem? (i := 823) (by decide +kernel)⟩
theorem lw_p23 : lw_okq (⟨"GraphCompare$Differences", "listKinds", "(LGraphCompare$Designs;)V"⟩, 3) := ⟨⟨by decide +kernel, by decide +kernel⟩, List.mem_of_getElem? (i := 305) (by decide +kernel), List.mem_of_getElem? (i := 834) (by decide +kernel), List.mem_of_getElem? (i := 835) (by decide +kernel)⟩
theorem lw_p24 : lw_okq (⟨"GraphCompare$Differences", "add", "(IIII)V"⟩, 3) := ⟨⟨by decide +kernel, by decide +kernel⟩, List.mem_of_getElem? (i := 305) (by decide +kernel), List.mem_of_getElem? (i := 842) (by decide +kernel), List.mem_of_getElem? (i := 843) (by decide +kernel)⟩
theorem lw_p25 : lw_okq (⟨"GraphCompare$Differences", "listNets", "(LGraphCompare$Designs;)V"⟩, 3) := ⟨⟨by decide +kernel, by decide +kernel⟩, List.mem_of_getElem? (i := 305) (by decide +kernel), List.mem_of_getElem? (i := 846) (by decide +kernel), List.mem_of_getElem? (i := 847) (by decide +kernel)⟩
theorem lw_p26 : lw_okq (⟨"GraphCompare$Differences", "listNames", "(LGraphCompare$Designs;)V"⟩, 3) := ⟨⟨by decide +kernel, by decide +kernel⟩, List.mem_of_getElem? (i := 305) (by decide +kernel), List.mem_of_getElem? (i := 851) (by decide +kernel), List.mem_of_getElem? (i := 852) (by decide +kernel)⟩
theorem lw_p27 : lw_okq (⟨"GraphCompare$Differences", "listClasses", "(LGraphCompare$Designs;LGraphCompare$Classes;)V"⟩, 3) := ⟨⟨by decide +kernel, by decide +kernel⟩, List.mem_of_getElem? (i := 305) (by decide +kernel), List.mem_of_getElem? (i := 857) (by decide +kernel), List.mem_of_getElem? (i := 858) (by decide +kernel)⟩
theorem lw_p28 : lw_okq (⟨"GraphCompare$Differences", "listClass", "(LGraphCompare$Classes;II)V"⟩, 3) := ⟨⟨by decide +kernel, by decide +kernel⟩, List.mem_of_getElem? (i := 305) (by decide +kernel), List.mem_of_getElem? (i := 863) (by decide +kernel), List.mem_of_getElem? (i := 864) (by decide +kernel)⟩
theorem lw_p29 : lw_okq (⟨"GraphCompareModel", "isDevice", "(II)Z"⟩, 32) := ⟨⟨by decide +kernel, by decide +kernel⟩, List.mem_of_getElem? (i := 890) (by decide +kernel), List.mem_of_getElem? (i := 1016) (by decide +kernel), List.mem_of_getElem? (i := 1017) (by decide +kernel)⟩
theorem lw_p30 : lw_okq (⟨"GraphCompareModel", "isNet", "(II)Z"⟩, 32) := ⟨⟨by decide +kernel, by decide +kernel⟩, List.mem_of_getElem? (i := 890) (by decide +kernel), List.mem_of_getElem? (i := 1023) (by decide +kernel), List.mem_of_getElem? (i := 1024) (by decide +kernel)⟩
theorem lw_p31 : lw_okq (⟨"GraphCompareModel", "isJoined", "(II)Z"⟩, 32) := ⟨⟨by decide +kernel, by decide +kernel⟩, List.mem_of_getElem? (i := 890) (by decide +kernel), List.mem_of_getElem? (i := 1043) (by decide +kernel), List.mem_of_getElem? (i := 1044) (by decide +kernel)⟩
def lw_privs_2 : List (MethodName × Nat) := [(⟨"GraphCompare$Search", "nextCandidate", "(LGraphCompare$Designs;LGraphCompare$Classes;I)I"⟩, 11), (⟨"GraphCompare$Search", "undo", "(I)V"⟩, 11), (⟨"GraphCompare$Search", "pairUp", "(LGraphCompare$Designs;II)Z"⟩, 11), (⟨"GraphCompare$NetSorts", "placeOf", "(I)I"⟩, 4), (⟨"GraphCompare$Search", "findMates", "()Z"⟩, 11), (⟨"GraphCompare$Search", "changeSorts", "(I)V"⟩, 11), (⟨"GraphCompare$Search", "keepNet", "(LGraphCompare$Side;LGraphCompare$Match;I)V"⟩, 11), (⟨"GraphCompare$Differences", "listKinds", "(LGraphCompare$Designs;)V"⟩, 3), (⟨"GraphCompare$Differences", "add", "(IIII)V"⟩, 3), (⟨"GraphCompare$Differences", "listNets", "(LGraphCompare$Designs;)V"⟩, 3), (⟨"GraphCompare$Differences", "listNames", "(LGraphCompare$Designs;)V"⟩, 3), (⟨"GraphCompare$Differences", "listClasses", "(LGraphCompare$Designs;LGraphCompare$Classes;)V"⟩, 3), (⟨"GraphCompare$Differences", "listClass", "(LGraphCompare$Classes;II)V"⟩, 3), (⟨"GraphCompareModel", "isDevice", "(II)Z"⟩, 32), (⟨"GraphCompareModel", "isNet", "(II)Z"⟩, 32), (⟨"GraphCompareModel", "isJoined", "(II)Z"⟩, 32)]
theorem lw_r2 : ∀ q ∈ lw_privs_2, lw_okq q := List.forall_mem_cons.mpr ⟨lw_p16, List.forall_mem_cons.mpr ⟨lw_p17, List.forall_mem_cons.mpr ⟨lw_p18, List.forall_mem_cons.mpr ⟨lw_p19, List.forall_mem_cons.mpr ⟨lw_p20, List.forall_mem_cons.mpr ⟨lw_p21, List.forall_mem_cons.mpr ⟨lw_p22, List.forall_mem_cons.mpr ⟨lw_p23, List.forall_mem_cons.mpr ⟨lw_p24, List.forall_mem_cons.mpr ⟨lw_p25, List.forall_mem_cons.mpr ⟨lw_p26, List.forall_mem_cons.mpr ⟨lw_p27, List.forall_mem_cons.mpr ⟨lw_p28, List.forall_mem_cons.mpr ⟨lw_p29, List.forall_mem_cons.mpr ⟨lw_p30, List.forall_mem_cons.mpr ⟨lw_p31, fun _ h => absurd h List.not_mem_nil⟩⟩⟩⟩⟩⟩⟩⟩⟩⟩⟩⟩⟩⟩⟩⟩
theorem lw_p32 : lw_okq (⟨"GraphCompareModel", "isParallel", "(II)Z"⟩, 32) := ⟨⟨by decide +kernel, by decide +kernel⟩, List.mem_of_getElem? (i := 890) (by decide +kernel), List.mem_of_getElem? (i := 1047) (by decide +kernel), List.mem_of_getElem? (i := 1048) (by decide +kernel)⟩
theorem lw_p33 : lw_okq (⟨"GraphCompareModel", "group", "(II)I"⟩, 32) := ⟨⟨by decide +kernel, by decide +kernel⟩, List.mem_of_getElem? (i := 890) (by decide +kernel), List.mem_of_getElem? (i := 1051) (by decide +kernel), List.mem_of_getElem? (i := 1052) (by decide +kernel)⟩
theorem lw_p34 : lw_okq (⟨"GraphCompareModel", "pinsOn", "(III)I"⟩, 32) := ⟨⟨by decide +kernel, by decide +kernel⟩, List.mem_of_getElem? (i := 890) (by decide +kernel), List.mem_of_getElem? (i := 1055) (by decide +kernel), List.mem_of_getElem? (i := 1056) (by decide +kernel)⟩
theorem lw_p35 : lw_okq (⟨"GraphCompareModel", "common", "(III)I"⟩, 32) := ⟨⟨by decide +kernel, by decide +kernel⟩, List.mem_of_getElem? (i := 890) (by decide +kernel), List.mem_of_getElem? (i := 1059) (by decide +kernel), List.mem_of_getElem? (i := 1060) (by decide +kernel)⟩
theorem lw_p36 : lw_okq (⟨"GraphCompareModel", "isChain", "(I)Z"⟩, 32) := ⟨⟨by decide +kernel, by decide +kernel⟩, List.mem_of_getElem? (i := 890) (by decide +kernel), List.mem_of_getElem? (i := 1063) (by decide +kernel), List.mem_of_getElem? (i := 1064) (by decide +kernel)⟩
theorem lw_p37 : lw_okq (⟨"GraphCompareModel", "all", "(II)I"⟩, 32) := ⟨⟨by decide +kernel, by decide +kernel⟩, List.mem_of_getElem? (i := 890) (by decide +kernel), List.mem_of_getElem? (i := 1067) (by decide +kernel), List.mem_of_getElem? (i := 1068) (by decide +kernel)⟩
theorem lw_p38 : lw_okq (⟨"GraphCompareModel", "live", "(I)I"⟩, 32) := ⟨⟨by decide +kernel, by decide +kernel⟩, List.mem_of_getElem? (i := 890) (by decide +kernel), List.mem_of_getElem? (i := 1071) (by decide +kernel), List.mem_of_getElem? (i := 1072) (by decide +kernel)⟩
theorem lw_p39 : lw_okq (⟨"GraphCompareModel", "refine", "()V"⟩, 32) := ⟨⟨by decide +kernel, by decide +kernel⟩, List.mem_of_getElem? (i := 890) (by decide +kernel), List.mem_of_getElem? (i := 1080) (by decide +kernel), List.mem_of_getElem? (i := 1081) (by decide +kernel)⟩
theorem lw_p40 : lw_okq (⟨"GraphCompareModel", "begin", "()I"⟩, 32) := ⟨⟨by decide +kernel, by decide +kernel⟩, List.mem_of_getElem? (i := 890) (by decide +kernel), List.mem_of_getElem? (i := 1084) (by decide +kernel), List.mem_of_getElem? (i := 1085) (by decide +kernel)⟩
theorem lw_p41 : lw_okq (⟨"GraphCompareModel", "isLive", "(I)Z"⟩, 32) := ⟨⟨by decide +kernel, by decide +kernel⟩, List.mem_of_getElem? (i := 890) (by decide +kernel), List.mem_of_getElem? (i := 1088) (by decide +kernel), List.mem_of_getElem? (i := 1089) (by decide +kernel)⟩
theorem lw_p42 : lw_okq (⟨"GraphCompareModel", "isUsedAt", "(I)Z"⟩, 32) := ⟨⟨by decide +kernel, by decide +kernel⟩, List.mem_of_getElem? (i := 890) (by decide +kernel), List.mem_of_getElem? (i := 1092) (by decide +kernel), List.mem_of_getElem? (i := 1093) (by decide +kernel)⟩
theorem lw_p43 : lw_okq (⟨"GraphCompareModel", "isUsed", "(II)Z"⟩, 32) := ⟨⟨by decide +kernel, by decide +kernel⟩, List.mem_of_getElem? (i := 890) (by decide +kernel), List.mem_of_getElem? (i := 1096) (by decide +kernel), List.mem_of_getElem? (i := 1097) (by decide +kernel)⟩
theorem lw_p44 : lw_okq (⟨"GraphCompareModel", "take", "()V"⟩, 32) := ⟨⟨by decide +kernel, by decide +kernel⟩, List.mem_of_getElem? (i := 890) (by decide +kernel), List.mem_of_getElem? (i := 1100) (by decide +kernel), List.mem_of_getElem? (i := 1101) (by decide +kernel)⟩
theorem lw_p45 : lw_okq (⟨"GraphCompareModel", "round", "()I"⟩, 32) := ⟨⟨by decide +kernel, by decide +kernel⟩, List.mem_of_getElem? (i := 890) (by decide +kernel), List.mem_of_getElem? (i := 1104) (by decide +kernel), List.mem_of_getElem? (i := 1105) (by decide +kernel)⟩
theorem lw_p46 : lw_okq (⟨"GraphCompareModel", "isLikeDevice", "(II)Z"⟩, 32) := ⟨⟨by decide +kernel, by decide +kernel⟩, List.mem_of_getElem? (i := 890) (by decide +kernel), List.mem_of_getElem? (i := 1108) (by decide +kernel), List.mem_of_getElem? (i := 1109) (by decide +kernel)⟩
theorem lw_p47 : lw_okq (⟨"GraphCompareModel", "pinsOnClass", "(III)I"⟩, 32) := ⟨⟨by decide +kernel, by decide +kernel⟩, List.mem_of_getElem? (i := 890) (by decide +kernel), List.mem_of_getElem? (i := 1112) (by decide +kernel), List.mem_of_getElem? (i := 1113) (by decide +kernel)⟩
def lw_privs_3 : List (MethodName × Nat) := [(⟨"GraphCompareModel", "isParallel", "(II)Z"⟩, 32), (⟨"GraphCompareModel", "group", "(II)I"⟩, 32), (⟨"GraphCompareModel", "pinsOn", "(III)I"⟩, 32), (⟨"GraphCompareModel", "common", "(III)I"⟩, 32), (⟨"GraphCompareModel", "isChain", "(I)Z"⟩, 32), (⟨"GraphCompareModel", "all", "(II)I"⟩, 32), (⟨"GraphCompareModel", "live", "(I)I"⟩, 32), (⟨"GraphCompareModel", "refine", "()V"⟩, 32), (⟨"GraphCompareModel", "begin", "()I"⟩, 32), (⟨"GraphCompareModel", "isLive", "(I)Z"⟩, 32), (⟨"GraphCompareModel", "isUsedAt", "(I)Z"⟩, 32), (⟨"GraphCompareModel", "isUsed", "(II)Z"⟩, 32), (⟨"GraphCompareModel", "take", "()V"⟩, 32), (⟨"GraphCompareModel", "round", "()I"⟩, 32), (⟨"GraphCompareModel", "isLikeDevice", "(II)Z"⟩, 32), (⟨"GraphCompareModel", "pinsOnClass", "(III)I"⟩, 32)]
theorem lw_r3 : ∀ q ∈ lw_privs_3, lw_okq q := List.forall_mem_cons.mpr ⟨lw_p32, List.forall_mem_cons.mpr ⟨lw_p33, List.forall_mem_cons.mpr ⟨lw_p34, List.forall_mem_cons.mpr ⟨lw_p35, List.forall_mem_cons.mpr ⟨lw_p36, List.forall_mem_cons.mpr ⟨lw_p37, List.forall_mem_cons.mpr ⟨lw_p38, List.forall_mem_cons.mpr ⟨lw_p39, List.forall_mem_cons.mpr ⟨lw_p40, List.forall_mem_cons.mpr ⟨lw_p41, List.forall_mem_cons.mpr ⟨lw_p42, List.forall_mem_cons.mpr ⟨lw_p43, List.forall_mem_cons.mpr ⟨lw_p44, List.forall_mem_cons.mpr ⟨lw_p45, List.forall_mem_cons.mpr ⟨lw_p46, List.forall_mem_cons.mpr ⟨lw_p47, fun _ h => absurd h List.not_mem_nil⟩⟩⟩⟩⟩⟩⟩⟩⟩⟩⟩⟩⟩⟩⟩⟩
theorem lw_p48 : lw_okq (⟨"GraphCompareModel", "isLikeNet", "(II)Z"⟩, 32) := ⟨⟨by decide +kernel, by decide +kernel⟩, List.mem_of_getElem? (i := 890) (by decide +kernel), List.mem_of_getElem? (i := 1116) (by decide +kernel), List.mem_of_getElem? (i := 1117) (by decide +kernel)⟩
theorem lw_p49 : lw_okq (⟨"GraphCompareModel", "pinsOfClass", "(III)I"⟩, 32) := ⟨⟨by decide +kernel, by decide +kernel⟩, List.mem_of_getElem? (i := 890) (by decide +kernel), List.mem_of_getElem? (i := 1120) (by decide +kernel), List.mem_of_getElem? (i := 1121) (by decide +kernel)⟩
theorem lw_p50 : lw_okq (⟨"GraphCompareModel", "isMatched", "()Z"⟩, 32) := ⟨⟨by decide +kernel, by decide +kernel⟩, List.mem_of_getElem? (i := 890) (by decide +kernel), List.mem_of_getElem? (i := 1124) (by decide +kernel), List.mem_of_getElem? (i := 1125) (by decide +kernel)⟩
theorem lw_p51 : lw_okq (⟨"GraphCompareModel", "used", "(I)I"⟩, 32) := ⟨⟨by decide +kernel, by decide +kernel⟩, List.mem_of_getElem? (i := 890) (by decide +kernel), List.mem_of_getElem? (i := 1128) (by decide +kernel), List.mem_of_getElem? (i := 1129) (by decide +kernel)⟩
theorem lw_p52 : lw_okq (⟨"GraphCompareModel", "isNamed", "()Z"⟩, 32) := ⟨⟨by decide +kernel, by decide +kernel⟩, List.mem_of_getElem? (i := 890) (by decide +kernel), List.mem_of_getElem? (i := 1132) (by decide +kernel), List.mem_of_getElem? (i := 1133) (by decide +kernel)⟩
theorem lw_p53 : lw_okq (⟨"GraphCompareModel", "hasName", "(II)Z"⟩, 32) := ⟨⟨by decide +kernel, by decide +kernel⟩, List.mem_of_getElem? (i := 890) (by decide +kernel), List.mem_of_getElem? (i := 1136) (by decide +kernel), List.mem_of_getElem? (i := 1137) (by decide +kernel)⟩
theorem lw_p54 : lw_okq (⟨"GraphCompareModel", "sortFirst", "()V"⟩, 32) := ⟨⟨by decide +kernel, by decide +kernel⟩, List.mem_of_getElem? (i := 890) (by decide +kernel), List.mem_of_getElem? (i := 1140) (by decide +kernel), List.mem_of_getElem? (i := 1141) (by decide +kernel)⟩
theorem lw_p55 : lw_okq (⟨"GraphCompareModel", "isChoice", "(I)Z"⟩, 32) := ⟨⟨by decide +kernel, by decide +kernel⟩, List.mem_of_getElem? (i := 890) (by decide +kernel), List.mem_of_getElem? (i := 1144) (by decide +kernel), List.mem_of_getElem? (i := 1145) (by decide +kernel)⟩
theorem lw_p56 : lw_okq (⟨"GraphCompareModel", "isFree", "(II)Z"⟩, 32) := ⟨⟨by decide +kernel, by decide +kernel⟩, List.mem_of_getElem? (i := 890) (by decide +kernel), List.mem_of_getElem? (i := 1148) (by decide +kernel), List.mem_of_getElem? (i := 1149) (by decide +kernel)⟩
theorem lw_p57 : lw_okq (⟨"GraphCompareModel", "isAgreed", "(II)Z"⟩, 32) := ⟨⟨by decide +kernel, by decide +kernel⟩, List.mem_of_getElem? (i := 890) (by decide +kernel), List.mem_of_getElem? (i := 1152) (by decide +kernel), List.mem_of_getElem? (i := 1153) (by decide +kernel)⟩
theorem lw_p58 : lw_okq (⟨"GraphCompareModel", "isSorted", "(III)Z"⟩, 32) := ⟨⟨by decide +kernel, by decide +kernel⟩, List.mem_of_getElem? (i := 890) (by decide +kernel), List.mem_of_getElem? (i := 1156) (by decide +kernel), List.mem_of_getElem? (i := 1157) (by decide +kernel)⟩
theorem lw_p59 : lw_okq (⟨"GraphCompareModel", "touch", "(II)I"⟩, 32) := ⟨⟨by decide +kernel, by decide +kernel⟩, List.mem_of_getElem? (i := 890) (by decide +kernel), List.mem_of_getElem? (i := 1160) (by decide +kernel), List.mem_of_getElem? (i := 1161) (by decide +kernel)⟩
theorem lw_p60 : lw_okq (⟨"GraphCompareModel", "pairNets", "(I)V"⟩, 32) := ⟨⟨by decide +kernel, by decide +kernel⟩, List.mem_of_getElem? (i := 890) (by decide +kernel), List.mem_of_getElem? (i := 1164) (by decide +kernel), List.mem_of_getElem? (i := 1165) (by decide +kernel)⟩
theorem lw_p61 : lw_okq (⟨"GraphCompareModel", "keep", "()V"⟩, 32) := ⟨⟨by decide +kernel, by decide +kernel⟩, List.mem_of_getElem? (i := 890) (by decide +kernel), List.mem_of_getElem? (i := 1168) (by decide +kernel), List.mem_of_getElem? (i := 1169) (by decide +kernel)⟩
theorem lw_p62 : lw_okq (⟨"GraphCompareModel", "explain", "()V"⟩, 32) := ⟨⟨by decide +kernel, by decide +kernel⟩, List.mem_of_getElem? (i := 890) (by decide +kernel), List.mem_of_getElem? (i := 1172) (by decide +kernel), List.mem_of_getElem? (i := 1173) (by decide +kernel)⟩
theorem lw_p63 : lw_okq (⟨"GraphCompareModel", "ofKind", "(II)I"⟩, 32) := ⟨⟨by decide +kernel, by decide +kernel⟩, List.mem_of_getElem? (i := 890) (by decide +kernel), List.mem_of_getElem? (i := 1176) (by decide +kernel), List.mem_of_getElem? (i := 1177) (by decide +kernel)⟩
def lw_privs_4 : List (MethodName × Nat) := [(⟨"GraphCompareModel", "isLikeNet", "(II)Z"⟩, 32), (⟨"GraphCompareModel", "pinsOfClass", "(III)I"⟩, 32), (⟨"GraphCompareModel", "isMatched", "()Z"⟩, 32), (⟨"GraphCompareModel", "used", "(I)I"⟩, 32), (⟨"GraphCompareModel", "isNamed", "()Z"⟩, 32), (⟨"GraphCompareModel", "hasName", "(II)Z"⟩, 32), (⟨"GraphCompareModel", "sortFirst", "()V"⟩, 32), (⟨"GraphCompareModel", "isChoice", "(I)Z"⟩, 32), (⟨"GraphCompareModel", "isFree", "(II)Z"⟩, 32), (⟨"GraphCompareModel", "isAgreed", "(II)Z"⟩, 32), (⟨"GraphCompareModel", "isSorted", "(III)Z"⟩, 32), (⟨"GraphCompareModel", "touch", "(II)I"⟩, 32), (⟨"GraphCompareModel", "pairNets", "(I)V"⟩, 32), (⟨"GraphCompareModel", "keep", "()V"⟩, 32), (⟨"GraphCompareModel", "explain", "()V"⟩, 32), (⟨"GraphCompareModel", "ofKind", "(II)I"⟩, 32)]
theorem lw_r4 : ∀ q ∈ lw_privs_4, lw_okq q := List.forall_mem_cons.mpr ⟨lw_p48, List.forall_mem_cons.mpr ⟨lw_p49, List.forall_mem_cons.mpr ⟨lw_p50, List.forall_mem_cons.mpr ⟨lw_p51, List.forall_mem_cons.mpr ⟨lw_p52, List.forall_mem_cons.mpr ⟨lw_p53, List.forall_mem_cons.mpr ⟨lw_p54, List.forall_mem_cons.mpr ⟨lw_p55, List.forall_mem_cons.mpr ⟨lw_p56, List.forall_mem_cons.mpr ⟨lw_p57, List.forall_mem_cons.mpr ⟨lw_p58, List.forall_mem_cons.mpr ⟨lw_p59, List.forall_mem_cons.mpr ⟨lw_p60, List.forall_mem_cons.mpr ⟨lw_p61, List.forall_mem_cons.mpr ⟨lw_p62, List.forall_mem_cons.mpr ⟨lw_p63, fun _ h => absurd h List.not_mem_nil⟩⟩⟩⟩⟩⟩⟩⟩⟩⟩⟩⟩⟩⟩⟩⟩
theorem lw_p64 : lw_okq (⟨"GraphCompareModel", "differ", "(IIII)V"⟩, 32) := ⟨⟨by decide +kernel, by decide +kernel⟩, List.mem_of_getElem? (i := 890) (by decide +kernel), List.mem_of_getElem? (i := 1180) (by decide +kernel), List.mem_of_getElem? (i := 1181) (by decide +kernel)⟩
theorem lw_p65 : lw_okq (⟨"GraphCompareModel", "differNames", "()V"⟩, 32) := ⟨⟨by decide +kernel, by decide +kernel⟩, List.mem_of_getElem? (i := 890) (by decide +kernel), List.mem_of_getElem? (i := 1184) (by decide +kernel), List.mem_of_getElem? (i := 1185) (by decide +kernel)⟩
theorem lw_p66 : lw_okq (⟨"GraphCompareModel", "ofClass", "(II)I"⟩, 32) := ⟨⟨by decide +kernel, by decide +kernel⟩, List.mem_of_getElem? (i := 890) (by decide +kernel), List.mem_of_getElem? (i := 1188) (by decide +kernel), List.mem_of_getElem? (i := 1189) (by decide +kernel)⟩
theorem lw_p67 : lw_okq (⟨"GraphCompareModel", "isSameNet", "(III)Z"⟩, 32) := ⟨⟨by decide +kernel, by decide +kernel⟩, List.mem_of_getElem? (i := 890) (by decide +kernel), List.mem_of_getElem? (i := 1216) (by decide +kernel), List.mem_of_getElem? (i := 1217) (by decide +kernel)⟩
def lw_privs_5 : List (MethodName × Nat) := [(⟨"GraphCompareModel", "differ", "(IIII)V"⟩, 32), (⟨"GraphCompareModel", "differNames", "()V"⟩, 32), (⟨"GraphCompareModel", "ofClass", "(II)I"⟩, 32), (⟨"GraphCompareModel", "isSameNet", "(III)Z"⟩, 32)]
theorem lw_r5 : ∀ q ∈ lw_privs_5, lw_okq q := List.forall_mem_cons.mpr ⟨lw_p64, List.forall_mem_cons.mpr ⟨lw_p65, List.forall_mem_cons.mpr ⟨lw_p66, List.forall_mem_cons.mpr ⟨lw_p67, fun _ h => absurd h List.not_mem_nil⟩⟩⟩⟩
def lw_privs : List (MethodName × Nat) := lw_privs_1 ++ (lw_privs_2 ++ (lw_privs_3 ++ (lw_privs_4 ++ (lw_privs_5))))
def lw_tbl : List Cond := k2_sels lw_privs ++ tables_1
theorem lw_privs_ok : ∀ q ∈ lw_privs, lw_okq q := by
  show ∀ q ∈ lw_privs_1 ++ (lw_privs_2 ++ (lw_privs_3 ++ (lw_privs_4 ++ (lw_privs_5)))), lw_okq q
  exact List.forall_mem_append.mpr ⟨lw_r1, List.forall_mem_append.mpr ⟨lw_r2, List.forall_mem_append.mpr ⟨lw_r3, List.forall_mem_append.mpr ⟨lw_r4, lw_r5⟩⟩⟩⟩
/-- the streams that the claim lets the run draw from -/
abbrev lw_cs : List Choice := [Jvm.Choice.named "NaN.bits"]
theorem lw_bits : nanBits ∈ lw_cs := by first | decide | exact List.mem_cons_self | simp [lw_cs, nanBits]
/-! ===== BEGIN words of one list among another's, by their places ===== -/
theorem goodIn_r {big : List Cond} (ws : List Cond) (ps : List Nat) (hp : ws = ps.filterMap (fun i => big[i]?)) (h : ws.all goodWord = true) : GoodIn big ws := by
  intro w hw
  have h1 := List.all_eq_true.mp h w hw
  rw [hp] at hw
  obtain ⟨i, -, hi⟩ := List.mem_filterMap.mp hw
  have hm : w ∈ big := by first | exact List.mem_of_getElem? hi | exact List.getElem?_mem hi
  exact ⟨hm, good_of_word h1⟩
theorem goodIn_app {big a b : List Cond} (ha : GoodIn big a) (hb : GoodIn big b) : GoodIn big (a ++ b) := fun w h => (List.mem_append.mp h).elim (ha w) (hb w)
theorem goodIn_ca {big a b : List Cond} {c : Cond} (ha : GoodIn big (c :: a)) (hb : GoodIn big b) : GoodIn big (c :: (a ++ b)) := fun w h => (List.mem_cons.mp h).elim (fun e => ha w (List.mem_cons.mpr (Or.inl e))) (fun h => (List.mem_append.mp h).elim (fun h => ha w (List.mem_cons.mpr (Or.inr h))) (hb w))
theorem goodIn_sub {big ws : List Cond} (hm : ∀ w ∈ ws, w ∈ big) (h : ws.all goodWord = true) : GoodIn big ws := fun w hw => ⟨hm w hw, good_of_word (List.all_eq_true.mp h w hw)⟩
/-! ===== END ===== -/

/-! ===== BEGIN exceptions that leave a method, and their catching by the caller (launches without stack traces) ===== -/
section VXA
/-! The laws vx_back, vx_callV, vx_callS, vx_callSW, vx_throw0, vx_throwS follow proofs of the library, with one case more: JvmDerived/Free/Laws.lean (Back.of_free), Shelf42/LK1.lean (callV, callS), Shelf/KitTraced.lean (throwNew0V, throwNewS). -/
/-- where a method has thrown q: the class by its name, the cell, what was written, the world -/
def vx_T (XC : String → State → State → Prop) (st : State) (q : Addr) (t : State) (mc ms : Nat) (free : Addr → Prop) : Prop :=
  ∃ (E : String) (ce : Cell) (L : List Loc), XC E st t ∧ t.heap[q]? = some ce ∧ ce.vm = .none ∧ st.vm.findClass E = some ce.cls ∧ st.WarmedH t.vm ∧ st.sameButNew ({ t with vm := st.vm } : State) L mc ms ∧ ∀ z ∈ L, free z.base
def vx_Q (Qc : Array Value → State → Outcome → State → Prop) (XC : String → State → State → Prop) (mc ms : Nat) (free : Addr → Prop) : Array Value → State → Outcome → State → Prop := fun a st o t =>
  (Qc a st o t ∧ ∃ L, FrameEnd st o t L mc ms ∧ ∀ q ∈ L, free q.base) ∨ ∃ q, o = .threw q ∧ vx_T XC st q t mc ms free
/-- a callee that returns or throws -/
def vx_Met (l : Launch) (y : MethodName) (ws : List Cond) (rm : Room) (Pc : Array Value → State → Prop) (Qc : Array Value → State → Outcome → State → Prop) (XC : String → State → State → Prop) (mc ms : Nat) (free : Addr → Prop) : Prop :=
  MetFree l y (headSpec ws rm) Pc (fun _ _ _ _ _ => True) (vx_Q Qc XC mc ms free)
def vx_Post (XC : String → State → State → Prop) (mc ms : Nat) (free : Addr → Prop) : Pt → Array Value → Addr → Pt → Prop := fun A a q B =>
  ∃ (g : JFrame) (mk : MethodId) (t : State) (L : List Loc) (E : String) (ce : Cell), B.U.heap = t.heap ∧ B.U.vm = t.vm ∧ XC E (A.U.calling g mk a) t ∧ t.heap[q]? = some ce ∧ ce.vm = .none ∧ A.U.vm.findClass E = some ce.cls ∧ B.locs = A.locs ++ L ∧ (∀ z ∈ L, free z.base) ∧ B.cells = A.cells + mc ∧ B.slots = A.slots + ms
def vx_Back (l : Launch) (R : Room) (p : Program) (e : Env) (below : List Frame) (s : State) (sargs : Array Value) (y : MethodName) (len W9 : Nat)
    (Pre : Pt → Array Value → Prop) (Post : Pt → Array Value → Option Value → Pt → Prop) (PostX : Pt → Array Value → Addr → Pt → Prop) : Prop :=
  ∀ (m : MethodId) (meth : Method) (c : Code) (A : Pt) (g : JFrame) (ig : Instr) (mk : MethodId) (a : Array Value),
    Stand p l e R s m sargs below meth c A.U A.locs A.cells A.slots → g.method = m → g.locals.size = c.maxLocals → decode c.code g.pc = .ok (ig, len) →
    2 * g.monitorRoom + (g.stack.map fun v => v.category).sum ≤ W9 → A.U.methodNamed? y = some mk → Pre A a →
    (∃ (v : Option Value) (B : Pt), Stand p l e R s m sargs below meth c B.U B.locs B.cells B.slots ∧ Post A a v B ∧
      Steps p.tables e below (doInvoke e (A.U.setTop g) [] mk a).1 (B.U.setTop { g with pc := g.pc + len, stack := v.toList ++ g.stack })) ∨
    (∃ (q : Addr) (B : Pt), Stand p l e R s m sargs below meth c B.U B.locs B.cells B.slots ∧ PostX A a q B ∧
      Steps p.tables e below (doInvoke e (A.U.setTop g) [] mk a).1 ((B.U.setTop g).pushFrame (.throwing q)))
section Payer
variable {l : Launch} {R : Room} {p : Program} {e : Env} {below : List Frame} {s : State} {sargs : Array Value} {y : MethodName} {len W9 : Nat}
theorem vx_back {ws : List Cond} {rm : Room} {Pc : Array Value → State → Prop} {Qc : Array Value → State → Outcome → State → Prop} {XC : String → State → State → Prop} {mc ms : Nat} {free : Addr → Prop} {bytes : ByteArray} {maxL : Nat} {ret : Option FieldType}
    (hM : vx_Met l y ws rm Pc Qc XC mc ms free) (hblind : FrameBlind Pc) (hrc : rm.cells = mc) (hrs : rm.slots = ms)
    (hframes : rm.frames + 1 ≤ R.frames) (hlocals : W9 + (maxL + 11) + rm.locals ≤ R.locals)
    (hws : ∀ w ∈ ws, ∀ a' U, s.WarmedH U.vm → w.before a' U = true) (hcode : Cond.code y bytes maxL ret ∈ ws) (hinit : ∀ a' U, s.WarmedH U.vm → (Cond.initialized y.cls).before a' U = true) :
    vx_Back l R p e below s sargs y len W9 (PreOf R mc ms Pc) (PostOf Qc mc ms free) (vx_Post XC mc ms free) := by
  intro m meth c A g ig mk a X hg hsize hdg hW hn hp
  have h1 : (headSpec ws rm).pre.before a A.U = true := atoms_intro fun w hw => hws w hw _ _ X.warmed
  have h2 : (Cond.code y bytes maxL ret).before a A.U = true := hws _ hcode _ _ X.warmed
  have h3 : (Cond.initialized y.cls).before a A.U = true := hinit _ _ X.warmed
  have h4 : A.cells + (headSpec ws rm).room.cells ≤ R.cells := by rw [show (headSpec ws rm).room.cells = mc from hrc]; exact hp.1
  have h5 : A.slots + (headSpec ws rm).room.slots ≤ R.slots := by rw [show (headSpec ws rm).room.slots = ms from hrs]; exact hp.2.1
  have hPc : Pc a (A.U.calling g mk a) := hblind _ _ _ _ hp.2.2
  obtain ⟨U, Ls, c0, s0⟩ := A
  dsimp only [Pt.U, Pt.locs, Pt.cells, Pt.slots] at h1 h2 h3 h4 h5 X hn hPc ⊢
  obtain ⟨methY, cY, hmY, hcY, -, hlY, -, -, -, -⟩ := Cond.code_spec hn h2
  obtain ⟨kY, hkY, -⟩ := className_of_methodNamed hn
  have hinitY : kY.init = .initialized := Cond.initialized_spec (findClass_of_methodNamed hn) hkY h3
  have h : At U g.method c below := by rw [hg]; exact X.here
  have hlocals9 : W9 + (maxL + 11) + (headSpec ws rm).room.locals ≤ R.locals := hlocals
  have happ : (headSpec ws rm).appliesLoose y e.platform (U.calling g mk a) = true :=
    Spec.appliesLoose_calling (g := g) h hdg hn hkY hinitY
      (X.room_calling (g := g) (R' := (headSpec ws rm).room) hsize hmY hcY hframes (by rw [hlY]; omega) h4 h5) h1
  obtain ⟨mid, hmid⟩ := h.above
  have hfr : (U.setTop g).frames = (.java g :: mid) ++ below := by rw [State.frames_setTop' g h.top, hmid]; rfl
  obtain ⟨o, s₂, hsteps, -, hend, hq⟩ := Steps.callFree hM p X.admits X.cas X.clock (acts := []) hfr happ hPc trivial
  have hq' : vx_Q Qc XC mc ms free a (U.calling g mk a) o s₂ := hq
  rw [State.frames_setTop' g h.top] at hend
  obtain ⟨g₀, hg0⟩ := Option.isSome_iff_exists.mp h.top
  obtain ⟨r, hr⟩ := State.topJava?_eq_some.mp hg0
  have hr' : (({ U with heap := s₂.heap, slotsUsed := s₂.slotsUsed } : State).setVm s₂.vm).frames = .java g₀ :: r := hr
  rcases hq' with ⟨hqc, L, hfe, hL⟩ | ⟨q, rfl, E, ce, L, hx, hce, hcv, hcl, hW₂, hsm, hL⟩
  · obtain ⟨⟨v, rfl⟩, hW₂, e2, q2, q3, q4, q5, q6⟩ := id hfe
    have e3 : s₂ = ({ (U.calling g mk a).setFrames s₂.frames with heap := s₂.heap, slotsUsed := s₂.slotsUsed } : State).setVm s₂.vm := by
      have : s₂ = ({ s₂ with vm := (U.calling g mk a).vm } : State).setVm s₂.vm := rfl
      rw [e2] at this
      exact this
    obtain ⟨c₂, i₂, len₂, hc₂, hd₂, hf₂⟩ := hend
    have hW' : U.WarmedH s₂.vm := hW₂
    have hcc : c₂ = c := by
      have h1 : s₂.code? g.method = U.code? g.method := by
        rw [State.code?_eq, State.code?_eq, hW'.alike.method?]
      exact Option.some.inj (hc₂.symm.trans (h1.trans h.code))
    subst hcc
    have hlen : len₂ = len := by rw [hdg] at hd₂; cases hd₂; rfl
    subst hlen
    have hs₂ : s₂ = (({ U with heap := s₂.heap, slotsUsed := s₂.slotsUsed } : State).setVm s₂.vm).setTop { g with pc := g.pc + len₂, stack := v.toList ++ g.stack } := by
      refine e3.trans ?_
      rw [hf₂, State.calling_eq h.top, State.setFrames_setFrames, State.setTop_of_frames _ hr', hr]
      rfl
    have hsame : U.sameButNew ({ U with heap := s₂.heap, slotsUsed := s₂.slotsUsed } : State) L mc ms := by
      refine ⟨?_, q2, q3, q4, q5, q6⟩
      obtain ⟨t, ht, -⟩ := State.frames_cons hr
      show ({ U with heap := s₂.heap, slotsUsed := s₂.slotsUsed } : State) = { U.setFrames U.frames with heap := s₂.heap, slotsUsed := s₂.slotsUsed }
      rw [State.setFrames_self ht]
    subst hg
    refine Or.inl ⟨v, ⟨(({ U with heap := s₂.heap, slotsUsed := s₂.slotsUsed } : State).setVm s₂.vm), Ls ++ L, c0 + mc, s0 + ms⟩,
      ⟨X.admits, X.cas, X.clock, X.frames, X.room, X.hears, X.method, X.code, (X.here.setHeapUsed s₂.heap s₂.slotsUsed).setVm hW'.alike, X.tail, State.WarmedH.trans X.warmed hW', X.limits, X.bytes, X.same.trans (hsame.setVm s.vm)⟩,
      ⟨g, mk, s₂, L, rfl, rfl, hqc, rfl, hL, rfl, rfl⟩, ?_⟩
    show Steps p.tables e below _ ((({ U with heap := s₂.heap, slotsUsed := s₂.slotsUsed } : State).setVm s₂.vm).setTop { g with pc := g.pc + len₂, stack := v.toList ++ g.stack })
    rw [← hs₂]
    exact hsteps
  · obtain ⟨e2, q2, q3, q4, q5, q6⟩ := id hsm
    have e3 : s₂ = ({ (U.calling g mk a).setFrames s₂.frames with heap := s₂.heap, slotsUsed := s₂.slotsUsed } : State).setVm s₂.vm := by
      have : s₂ = ({ s₂ with vm := (U.calling g mk a).vm } : State).setVm s₂.vm := rfl
      rw [e2] at this
      exact this
    have hf₂ : s₂.frames = .throwing q :: .java g :: U.frames.tail := hend
    have hW' : U.WarmedH s₂.vm := hW₂
    have hs₂ : s₂ = ((({ U with heap := s₂.heap, slotsUsed := s₂.slotsUsed } : State).setVm s₂.vm).setTop g).pushFrame (.throwing q) := by
      refine e3.trans ?_
      rw [hf₂, State.calling_eq h.top, State.setFrames_setFrames, State.pushFrame, State.frames_setTop _ hr', State.setTop_of_frames _ hr', State.setFrames_setFrames, hr]
      rfl
    have hsame : U.sameButNew ({ U with heap := s₂.heap, slotsUsed := s₂.slotsUsed } : State) L mc ms := by
      refine ⟨?_, q2, q3, q4, q5, q6⟩
      obtain ⟨t, ht, -⟩ := State.frames_cons hr
      show ({ U with heap := s₂.heap, slotsUsed := s₂.slotsUsed } : State) = { U.setFrames U.frames with heap := s₂.heap, slotsUsed := s₂.slotsUsed }
      rw [State.setFrames_self ht]
    subst hg
    refine Or.inr ⟨q, ⟨(({ U with heap := s₂.heap, slotsUsed := s₂.slotsUsed } : State).setVm s₂.vm), Ls ++ L, c0 + mc, s0 + ms⟩,
      ⟨X.admits, X.cas, X.clock, X.frames, X.room, X.hears, X.method, X.code, (X.here.setHeapUsed s₂.heap s₂.slotsUsed).setVm hW'.alike, X.tail, State.WarmedH.trans X.warmed hW', X.limits, X.bytes, X.same.trans (hsame.setVm s.vm)⟩,
      ⟨g, mk, s₂, L, E, ce, rfl, rfl, hx, hce, hcv, hcl, rfl, hL, rfl, rfl⟩, ?_⟩
    show Steps p.tables e below _ (((({ U with heap := s₂.heap, slotsUsed := s₂.slotsUsed } : State).setVm s₂.vm).setTop g).pushFrame (.throwing q))
    rw [← hs₂]
    exact hsteps
end Payer
section Calls
variable {p : Program} {l : Launch} {e : Env} {R : Room} {s : State} {m : MethodId} {args : Array Value} {below : List Frame} {meth : Method} {c : Code} {T : State} {locs : List Loc} {cells slots : Nat}
theorem vx_callV (X : Stand p l e R s m args below meth c T locs cells slots) (hexec : p.tables.exec = Jvm.exec) {own C : String} {index : Nat} {y : MethodName} {bytes : ByteArray} {maxL : Nat} {ret : Option FieldType}
    (hown : s.vm.findClass own = some m.cls) (hlink : (Cond.methodLink own index y).before args s = true) (hinst : (Cond.instanceMethod y).before args s = true) (hsel : (Cond.selects C y y).before args s = true)
    (hcode : (Cond.code y bytes maxL ret).before args s = true) (hy : y.cls ≠ "java/lang/invoke/MethodHandle" ∧ y.cls ≠ "java/lang/invoke/VarHandle")
    {W9 : Nat} {Pre : Pt → Array Value → Prop} {Post : Pt → Array Value → Option Value → Pt → Prop} {PostX : Pt → Array Value → Addr → Pt → Prop} (hK : vx_Back l R p e below s args y 3 W9 Pre Post PostX)
    {b : Addr} {cellB : Cell} (hcell : T.heap[b]? = some cellB) (hobj : cellB.vm.isStatics = false) (hcls : s.vm.findClass C = some cellB.cls)
    {g : JFrame} (hg : g.method = m) (hsize : g.locals.size = c.maxLocals) {argsL rest : List Value} (hlen : ∀ sig, parseMethodDescriptor y.desc = some sig → argsL.length = sig.parameters.length)
    (hstack : g.stack = argsL.reverse ++ .ref b :: rest) (hW : 2 * g.monitorRoom + (rest.map fun v => v.category).sum ≤ W9) (hdg : decode c.code g.pc = .ok (.invokevirtual index, 3))
    (hpre : ∀ vm₁, s.WarmedH vm₁ → Pre ⟨T.setVm vm₁, locs, cells, slots⟩ (Value.ref b :: argsL).toArray) :
    (∃ (v : Option Value) (vm₁ : Vm) (B : Pt), s.WarmedH vm₁ ∧ Stand p l e R s m args below meth c B.U B.locs B.cells B.slots ∧ Post ⟨T.setVm vm₁, locs, cells, slots⟩ (Value.ref b :: argsL).toArray v B ∧
      ∀ target, Steps p.tables e below (B.U.setTop { g with pc := g.pc + 3, stack := v.toList ++ rest }) target → Steps p.tables e below (T.setTop g) target) ∨
    (∃ (q : Addr) (vm₁ : Vm) (B : Pt), s.WarmedH vm₁ ∧ Stand p l e R s m args below meth c B.U B.locs B.cells B.slots ∧ PostX ⟨T.setVm vm₁, locs, cells, slots⟩ (Value.ref b :: argsL).toArray q B ∧
      Steps p.tables e below (T.setTop g) ((B.U.setTop { g with stack := rest }).pushFrame (.throwing q))) := by
  obtain ⟨mk, methM, hnamed, hmethM, hstM, habM⟩ := Cond.instanceMethod_spec hinst
  obtain ⟨methM', cM, hmethM', -, -, -, -, -, -, hsigM⟩ := Cond.code_spec hnamed hcode
  cases hmethM.symm.trans hmethM'
  obtain ⟨c2, r2, m2, q1, q2, q3, q4, kP, hkP, hkPi⟩ := Cond.selects_spec hsel
  cases hcls.symm.trans q1
  cases (State.methodFound?_of_named hnamed hy).symm.trans q2
  cases hnamed.symm.trans q3
  have hselP : selectMethod e.platform s.vm cellB.cls mk = .method mk := by rw [Launch.admits_selectMethod X.admits]; exact q4
  obtain ⟨vm₁, X₁, hstep₁⟩ := X.invokevirtual hexec hown hlink hnamed hmethM hstM hkP hkPi hy (a := b) (cell := cellB) hcell
    (fun z h => by rw [h] at hobj; cases hobj) hselP hmethM habM hkP hkPi (g := g) hg (argsL := argsL) (rest := rest) (hlen _ hsigM) hstack hdg
  rcases hK m meth c ⟨T.setVm vm₁, locs, cells, slots⟩ { g with stack := rest } (.invokevirtual index) mk (Value.ref b :: argsL).toArray X₁ hg hsize hdg hW (X₁.named hnamed) (hpre vm₁ X₁.warmed) with ⟨v, B, X', hpost, hsteps⟩ | ⟨q, B, X', hpost, hsteps⟩
  · exact Or.inl ⟨v, vm₁, B, X₁.warmed, X', hpost, fun target h => hstep₁ _ fun acts => by rw [doInvoke_state]; exact hsteps.trans h⟩
  · exact Or.inr ⟨q, vm₁, B, X₁.warmed, X', hpost, hstep₁ _ fun acts => by rw [doInvoke_state]; exact hsteps⟩
theorem vx_callS (X : Stand p l e R s m args below meth c T locs cells slots) (hexec : p.tables.exec = Jvm.exec) {own : String} {index : Nat} {y : MethodName} {bytes : ByteArray} {maxL : Nat} {ret : Option FieldType}
    (hown : s.vm.findClass own = some m.cls) (hlink : (Cond.methodLink own index y).before args s = true) (hstat : (Cond.static y).before args s = true) (hinit : (Cond.initialized y.cls).before args s = true)
    (hcode : (Cond.code y bytes maxL ret).before args s = true) (hy : y.cls ≠ "java/lang/invoke/MethodHandle" ∧ y.cls ≠ "java/lang/invoke/VarHandle")
    {W9 : Nat} {Pre : Pt → Array Value → Prop} {Post : Pt → Array Value → Option Value → Pt → Prop} {PostX : Pt → Array Value → Addr → Pt → Prop} (hK : vx_Back l R p e below s args y 3 W9 Pre Post PostX)
    {g : JFrame} (hg : g.method = m) (hsize : g.locals.size = c.maxLocals) {argsL rest : List Value} (hlen : ∀ sig, parseMethodDescriptor y.desc = some sig → argsL.length = sig.parameters.length)
    (hstack : g.stack = argsL.reverse ++ rest) (hW : 2 * g.monitorRoom + (rest.map fun v => v.category).sum ≤ W9) (hdg : decode c.code g.pc = .ok (.invokestatic index, 3))
    (hpre : ∀ vm₁, s.WarmedH vm₁ → Pre ⟨T.setVm vm₁, locs, cells, slots⟩ argsL.toArray) :
    (∃ (v : Option Value) (vm₁ : Vm) (B : Pt), s.WarmedH vm₁ ∧ Stand p l e R s m args below meth c B.U B.locs B.cells B.slots ∧ Post ⟨T.setVm vm₁, locs, cells, slots⟩ argsL.toArray v B ∧
      ∀ target, Steps p.tables e below (B.U.setTop { g with pc := g.pc + 3, stack := v.toList ++ rest }) target → Steps p.tables e below (T.setTop g) target) ∨
    (∃ (q : Addr) (vm₁ : Vm) (B : Pt), s.WarmedH vm₁ ∧ Stand p l e R s m args below meth c B.U B.locs B.cells B.slots ∧ PostX ⟨T.setVm vm₁, locs, cells, slots⟩ argsL.toArray q B ∧
      Steps p.tables e below (T.setTop g) ((B.U.setTop { g with stack := rest }).pushFrame (.throwing q))) := by
  obtain ⟨mk, hnamed⟩ := Cond.code_named hcode
  obtain ⟨methM, cM, hmethM, -, -, -, -, -, -, hsigM⟩ := Cond.code_spec hnamed hcode
  have hstatic : methM.isStatic = true := Cond.static_spec hnamed hmethM hstat
  obtain ⟨kP, hkP, -⟩ := className_of_methodNamed hnamed
  have hinitP : kP.init = .initialized := Cond.initialized_spec (findClass_of_methodNamed hnamed) hkP hinit
  obtain ⟨vm₁, X₁, hstep₁⟩ := X.invokestatic hexec hown hlink hnamed hmethM hstatic hkP hinitP hy (g := g) hg (argsL := argsL) (rest := rest) (hlen _ hsigM) hstack hdg
  rcases hK m meth c ⟨T.setVm vm₁, locs, cells, slots⟩ { g with stack := rest } (.invokestatic index) mk argsL.toArray X₁ hg hsize hdg hW (X₁.named hnamed) (hpre vm₁ X₁.warmed) with ⟨v, B, X', hpost, hsteps⟩ | ⟨q, B, X', hpost, hsteps⟩
  · exact Or.inl ⟨v, vm₁, B, X₁.warmed, X', hpost, fun target h => hstep₁ _ fun acts => by rw [doInvoke_state]; exact hsteps.trans h⟩
  · exact Or.inr ⟨q, vm₁, B, X₁.warmed, X', hpost, hstep₁ _ fun acts => by rw [doInvoke_state]; exact hsteps⟩
end Calls
theorem vx_cls {s : State} {T : State} {vm₁ : Vm} {E : String} {k : ClassId} (hW : s.WarmedH vm₁) (h : (T.setVm vm₁).vm.findClass E = some k) : s.vm.findClass E = some k := by
  have h1 : vm₁.findClass E = some k := h
  rw [hW.alike.findClass] at h1
  exact h1
/-- the method's frame g, with q thrown over it -/
def vx_W (p : Program) (l : Launch) (e : Env) (R : Room) (s : State) (m : MethodId) (args : Array Value) (below : List Frame) (meth : Method) (c : Code) (H : Heap) (locs : List Loc) (cells slots : Nat) (Q : State → Prop) (g : JFrame) (q : Addr) : Prop :=
  ∀ T : State, T.heap = H → Stand p l e R s m args below meth c T locs cells slots → ∃ t, Steps p.tables e below ((T.setTop g).pushFrame (.throwing q)) t ∧ Q t
def vx_Run (p : Program) (l : Launch) (e : Env) (R : Room) (s : State) (m : MethodId) (args : Array Value) (below : List Frame) (meth : Method) (c : Code) (H : Heap) (locs : List Loc) (cells slots mc ms : Nat) (g : JFrame) (rest : List Value) (Qa : State → Outcome → State → Prop) (XC : String → State → State → Prop) (free : Addr → Prop) : Prop :=
  ∀ T : State, T.heap = H → Stand p l e R s m args below meth c T locs cells slots →
    (∃ (v : Option Value) (st₀ t T' : State) (L : List Loc), st₀.heap = H ∧ Stand p l e R s m args below meth c T' (locs ++ L) (cells + mc) (slots + ms) ∧ (∀ q ∈ L, free q.base) ∧ T'.heap = t.heap ∧ T'.vm = t.vm ∧ Qa st₀ (.returned v) t ∧
      Goes p e below T g T' { g with pc := g.pc + 3, stack := v.toList ++ rest }) ∨
    (∃ (q : Addr) (st₀ t T' : State) (L : List Loc) (E : String) (ce : Cell), st₀.heap = H ∧ Stand p l e R s m args below meth c T' (locs ++ L) (cells + mc) (slots + ms) ∧ (∀ z ∈ L, free z.base) ∧ T'.heap = t.heap ∧ T'.vm = t.vm ∧ XC E st₀ t ∧ t.heap[q]? = some ce ∧ ce.vm = .none ∧ s.vm.findClass E = some ce.cls ∧
      Steps p.tables e below (T.setTop g) ((T'.setTop { g with stack := rest }).pushFrame (.throwing q)))
def vx_X {S : Type} (px : S → Prop) (B : String → S → State → Prop) (A : Nat → Prop) : String → State → State → Prop := fun E st t => ∃ u : S, px u ∧ B E u t ∧ va_F A st t
section Runs
variable {p : Program} {l : Launch} {e : Env} {R : Room} {s : State} {m : MethodId} {args : Array Value} {below : List Frame} {meth : Method} {c : Code} {H : Heap} {locs : List Loc} {cells slots : Nat}
variable {y : MethodName} {bytes cc : ByteArray} {maxL nL mc ms n index : Nat} {ret : Option FieldType} {ws : List Cond} {rm : Room} {Pc : Array Value → State → Prop} {Qc : Array Value → State → Outcome → State → Prop} {XC : String → State → State → Prop} {free : Addr → Prop} {Ts : List Cond} {own C : String} {b : Addr} {As rest : List Value} {g : JFrame}
theorem vx_callBack (cb : CallB R s args own index y bytes maxL ret ws rm mc ms n) (hM : vx_Met l y ws rm Pc Qc XC mc ms free) (hbl : FrameBlind Pc) : vx_Back l R p e below s args y 3 8 (PreOf R mc ms Pc) (PostOf Qc mc ms free) (vx_Post XC mc ms free) := by
  obtain ⟨hrc, hrs, hfr, hlo, hws, hcw, -, hini, -⟩ := cb
  exact vx_back (bytes := bytes) (maxL := maxL) (ret := ret) hM hbl hrc hrs hfr hlo hws hcw (fun a' U hW => word_at hW (Or.inl (by first | rfl | simp [Cond.onTables, Cond.keeps, Cond.steady])) hini)
theorem vx_runV (S : CallFix p m c cc nL s args Ts own) (hM : vx_Met l y ws rm Pc Qc XC mc ms free) (cw : CallW R s args own C index y bytes maxL ret ws rm mc ms n) (hp : PreV s H C b Pc As)
    (hg : g.method = m) (hn : As.length = n) (hsize : g.locals.size = nL) (hstack : g.stack = As.reverse ++ .ref b :: rest) (hW : 2 * g.monitorRoom + (rest.map fun v => v.category).sum ≤ 8) (hdg : decode cc g.pc = .ok (.invokevirtual index, 3)) (hf : cells + mc ≤ R.cells ∧ slots + ms ≤ R.slots) :
    vx_Run p l e R s m args below meth c H locs cells slots mc ms g rest (Qc (Value.ref b :: As).toArray) XC free := by
  have hK : vx_Back l R p e below s args y 3 8 (PreOf R mc ms Pc) (PostOf Qc mc ms free) (vx_Post XC mc ms free) := vx_callBack cw.1 hM hp.1
  obtain ⟨⟨-, -, -, -, -, -, hcode, -, hy, hlen, hl⟩, hin, hse⟩ := cw
  obtain ⟨hx, hb, hml, ho, -⟩ := S
  obtain ⟨-, ⟨cellB, hcB, hoB, hclB⟩, hPc⟩ := hp
  intro T hT X
  rcases vx_callV X hx (C := C) (bytes := bytes) (maxL := maxL) (ret := ret) ho hl hin hse hcode hy hK (by rw [hT]; exact hcB) hoB hclB hg (hsize.trans hml.symm) (argsL := As) (rest := rest) (fun sig h => hn.trans (hlen sig h)) hstack hW (by rw [hb]; exact hdg)
    (fun vm₁ hW₁ => ⟨hf.1, hf.2, hPc (T.setVm vm₁) hT hW₁⟩) with ⟨v, vm₁, ⟨U', l2, c2, s2⟩, hW₁, X', ⟨g', mk, t, L, e1, e2, hq, h1, hL, h2, h3⟩, st⟩ | ⟨q, vm₁, ⟨U', l2, c2, s2⟩, hW₁, X', ⟨g', mk, t, L, E, ce, e1, e2, hq, hce, hcv, hcl, h1, hL, h2, h3⟩, st⟩
  · dsimp only [Pt.U, Pt.locs, Pt.cells, Pt.slots] at X' e1 e2 h1 h2 h3 st
    subst h1; subst h2; subst h3
    exact Or.inl ⟨v, (T.setVm vm₁).calling g' mk (Value.ref b :: As).toArray, t, U', L, hT, X', hL, e1, e2, hq, st⟩
  · dsimp only [Pt.U, Pt.locs, Pt.cells, Pt.slots] at X' e1 e2 h1 h2 h3 st hcl
    subst h1; subst h2; subst h3
    exact Or.inr ⟨q, (T.setVm vm₁).calling g' mk (Value.ref b :: As).toArray, t, U', L, E, ce, hT, X', hL, e1, e2, hq, hce, hcv, vx_cls hW₁ hcl, st⟩
theorem vx_runS (S : CallFix p m c cc nL s args Ts own) (hM : vx_Met l y ws rm Pc Qc XC mc ms free) (cw : CallB R s args own index y bytes maxL ret ws rm mc ms n ∧ (Cond.static y).before args s = true) (hp : PreS s H Pc As)
    (hg : g.method = m) (hn : As.length = n) (hsize : g.locals.size = nL) (hstack : g.stack = As.reverse ++ rest) (hW : 2 * g.monitorRoom + (rest.map fun v => v.category).sum ≤ 8) (hdg : decode cc g.pc = .ok (.invokestatic index, 3)) (hf : cells + mc ≤ R.cells ∧ slots + ms ≤ R.slots) :
    vx_Run p l e R s m args below meth c H locs cells slots mc ms g rest (Qc As.toArray) XC free := by
  have hK : vx_Back l R p e below s args y 3 8 (PreOf R mc ms Pc) (PostOf Qc mc ms free) (vx_Post XC mc ms free) := vx_callBack cw.1 hM hp.1
  obtain ⟨⟨-, -, -, -, -, -, hcode, hini, hy, hlen, hl⟩, hstt⟩ := cw
  obtain ⟨hx, hb, hml, ho, -⟩ := S
  intro T hT X
  rcases vx_callS X hx (bytes := bytes) (maxL := maxL) (ret := ret) ho hl hstt hini hcode hy hK hg (hsize.trans hml.symm) (argsL := As) (rest := rest) (fun sig h => hn.trans (hlen sig h)) hstack hW (by rw [hb]; exact hdg)
    (fun vm₁ hW₁ => ⟨hf.1, hf.2, hp.2 (T.setVm vm₁) hT hW₁⟩) with ⟨v, vm₁, ⟨U', l2, c2, s2⟩, hW₁, X', ⟨g', mk, t, L, e1, e2, hq, h1, hL, h2, h3⟩, st⟩ | ⟨q, vm₁, ⟨U', l2, c2, s2⟩, hW₁, X', ⟨g', mk, t, L, E, ce, e1, e2, hq, hce, hcv, hcl, h1, hL, h2, h3⟩, st⟩
  · dsimp only [Pt.U, Pt.locs, Pt.cells, Pt.slots] at X' e1 e2 h1 h2 h3 st
    subst h1; subst h2; subst h3
    exact Or.inl ⟨v, (T.setVm vm₁).calling g' mk As.toArray, t, U', L, hT, X', hL, e1, e2, hq, st⟩
  · dsimp only [Pt.U, Pt.locs, Pt.cells, Pt.slots] at X' e1 e2 h1 h2 h3 st hcl
    subst h1; subst h2; subst h3
    exact Or.inr ⟨q, (T.setVm vm₁).calling g' mk As.toArray, t, U', L, E, ce, hT, X', hL, e1, e2, hq, hce, hcv, vx_cls hW₁ hcl, st⟩
end Runs
section Rows
variable {p : Program} {l : Launch} {e : Env} {R : Room} {s : State} {m : MethodId} {args : Array Value} {below : List Frame} {meth : Method} {c : Code} {H : Heap} {locs : List Loc} {cells slots : Nat} {Q : State → Prop}
variable {mc ms : Nat} {free : Addr → Prop} {A0 A1 : Nat → Prop} {H0 : Heap} {a : Array Value} {pc : Nat} {ls : Array Slot} {st0 rest : List Value}
theorem vx_keep {st₀ t T' : State} {L : List Loc} (h0 : st₀.heap = H) (e1 : T'.heap = t.heap) (hS : va_S A0 H0 H locs) (hA : ∀ q, q < H.size → A1 q → A0 q) (hf : ∀ q, free q → A0 q) (hL : ∀ q ∈ L, free q.base) (hF : va_F A1 st₀ t) :
    H.size ≤ T'.heap.size ∧ (∀ q : Nat, q < H.size → ¬ A1 q → T'.heap[q]? = H[q]?) ∧ va_S A0 H0 T'.heap (locs ++ L) := by
  obtain ⟨hz, hk⟩ := hF
  rw [h0] at hz hk
  exact ⟨by rw [e1]; exact hz, fun q h1 h2 => by rw [e1]; exact hk q h1 h2,
    ⟨Nat.le_trans hS.1 (by rw [e1]; exact hz), fun q h1 h2 => by rw [e1, hk q (Nat.lt_of_lt_of_le h1 hS.1) (fun z => h2 (hA q (Nat.lt_of_lt_of_le h1 hS.1) z))]; exact hS.2.1 q h1 h2, fun q hq => by
      rcases List.mem_append.mp hq with h | h
      · exact hS.2.2 q h
      · exact hf _ (hL q h)⟩⟩
theorem vx_calli {S SX : Type} {post : Int32 → S → Prop} {px : SX → Prop} {B : S → State → Prop} {BX : String → SX → State → Prop} {AX : Nat → Prop} (hr : vx_Run p l e R s m args below meth c H locs cells slots mc ms (F0 m pc ls st0) rest (va_Qi post B A1 a) (vx_X px BX AX) free) (hS : va_S A0 H0 H locs) (hA : ∀ q, q < H.size → A1 q → A0 q) (hf : ∀ q, free q → A0 q) (hAX : ∀ q, q < H.size → AX q → A0 q)
    (kx : ∀ (E : String) (ce : Cell) (q9 : Addr) (u : SX) (t : State) (H1 : Heap) (locs1 : List Loc), t.heap = H1 → s.vm.Alike t.vm → px u → BX E u t → H.size ≤ H1.size → (∀ q : Nat, q < H.size → ¬ AX q → H1[q]? = H[q]?) → va_S A0 H0 H1 locs1 → H1[q9]? = some ce → ce.vm = .none → s.vm.findClass E = some ce.cls → vx_W p l e R s m args below meth c H1 locs1 (cells + mc) (slots + ms) Q (F0 m pc ls rest) q9)
    (kk : ∀ (r : Int32) (u : S) (t : State) (H1 : Heap) (locs1 : List Loc), t.heap = H1 → s.vm.Alike t.vm → post r u → B u t → H.size ≤ H1.size → (∀ q : Nat, q < H.size → ¬ A1 q → H1[q]? = H[q]?) → va_S A0 H0 H1 locs1 → W p l e R s m args below meth c H1 locs1 (cells + mc) (slots + ms) Q (F0 m (pc + 3) ls (.int r :: rest))) : W p l e R s m args below meth c H locs cells slots Q (F0 m pc ls st0) := by
  intro T hT X
  rcases hr T hT X with ⟨v, st₀, t, T', L, h0, X', hL, e1, e2, ⟨⟨r, u, hv, hp, hb⟩, hF⟩, st⟩ | ⟨q, st₀, t, T', L, E, ce, h0, X', hL, e1, e2, ⟨u, hp, hb, hF⟩, hce, hcv, hcl, st⟩
  · cases hv
    obtain ⟨k1, k2, k3⟩ := vx_keep h0 e1 hS hA hf hL hF
    obtain ⟨t2, a1, b1⟩ := kk r u t T'.heap (locs ++ L) e1.symm (by rw [← e2]; exact X'.warmed.alike) hp hb k1 k2 k3 T' rfl X'
    exact ⟨t2, st t2 a1, b1⟩
  · obtain ⟨k1, k2, k3⟩ := vx_keep h0 e1 hS hAX hf hL hF
    obtain ⟨t2, a1, b1⟩ := kx E ce q u t T'.heap (locs ++ L) e1.symm (by rw [← e2]; exact X'.warmed.alike) hp hb k1 k2 k3 (by rw [e1]; exact hce) hcv hcl T' rfl X'
    exact ⟨t2, st.trans a1, b1⟩
theorem vx_calll {S SX : Type} {post : Int64 → S → Prop} {px : SX → Prop} {B : S → State → Prop} {BX : String → SX → State → Prop} {AX : Nat → Prop} (hr : vx_Run p l e R s m args below meth c H locs cells slots mc ms (F0 m pc ls st0) rest (va_Ql post B A1 a) (vx_X px BX AX) free) (hS : va_S A0 H0 H locs) (hA : ∀ q, q < H.size → A1 q → A0 q) (hf : ∀ q, free q → A0 q) (hAX : ∀ q, q < H.size → AX q → A0 q)
    (kx : ∀ (E : String) (ce : Cell) (q9 : Addr) (u : SX) (t : State) (H1 : Heap) (locs1 : List Loc), t.heap = H1 → s.vm.Alike t.vm → px u → BX E u t → H.size ≤ H1.size → (∀ q : Nat, q < H.size → ¬ AX q → H1[q]? = H[q]?) → va_S A0 H0 H1 locs1 → H1[q9]? = some ce → ce.vm = .none → s.vm.findClass E = some ce.cls → vx_W p l e R s m args below meth c H1 locs1 (cells + mc) (slots + ms) Q (F0 m pc ls rest) q9)
    (kk : ∀ (r : Int64) (u : S) (t : State) (H1 : Heap) (locs1 : List Loc), t.heap = H1 → s.vm.Alike t.vm → post r u → B u t → H.size ≤ H1.size → (∀ q : Nat, q < H.size → ¬ A1 q → H1[q]? = H[q]?) → va_S A0 H0 H1 locs1 → W p l e R s m args below meth c H1 locs1 (cells + mc) (slots + ms) Q (F0 m (pc + 3) ls (.long r :: rest))) : W p l e R s m args below meth c H locs cells slots Q (F0 m pc ls st0) := by
  intro T hT X
  rcases hr T hT X with ⟨v, st₀, t, T', L, h0, X', hL, e1, e2, ⟨⟨r, u, hv, hp, hb⟩, hF⟩, st⟩ | ⟨q, st₀, t, T', L, E, ce, h0, X', hL, e1, e2, ⟨u, hp, hb, hF⟩, hce, hcv, hcl, st⟩
  · cases hv
    obtain ⟨k1, k2, k3⟩ := vx_keep h0 e1 hS hA hf hL hF
    obtain ⟨t2, a1, b1⟩ := kk r u t T'.heap (locs ++ L) e1.symm (by rw [← e2]; exact X'.warmed.alike) hp hb k1 k2 k3 T' rfl X'
    exact ⟨t2, st t2 a1, b1⟩
  · obtain ⟨k1, k2, k3⟩ := vx_keep h0 e1 hS hAX hf hL hF
    obtain ⟨t2, a1, b1⟩ := kx E ce q u t T'.heap (locs ++ L) e1.symm (by rw [← e2]; exact X'.warmed.alike) hp hb k1 k2 k3 (by rw [e1]; exact hce) hcv hcl T' rfl X'
    exact ⟨t2, st.trans a1, b1⟩
theorem vx_callf {S SX : Type} {post : UInt32 → S → Prop} {px : SX → Prop} {B : S → State → Prop} {BX : String → SX → State → Prop} {AX : Nat → Prop} (hr : vx_Run p l e R s m args below meth c H locs cells slots mc ms (F0 m pc ls st0) rest (va_Qf post B A1 a) (vx_X px BX AX) free) (hS : va_S A0 H0 H locs) (hA : ∀ q, q < H.size → A1 q → A0 q) (hf : ∀ q, free q → A0 q) (hAX : ∀ q, q < H.size → AX q → A0 q)
    (kx : ∀ (E : String) (ce : Cell) (q9 : Addr) (u : SX) (t : State) (H1 : Heap) (locs1 : List Loc), t.heap = H1 → s.vm.Alike t.vm → px u → BX E u t → H.size ≤ H1.size → (∀ q : Nat, q < H.size → ¬ AX q → H1[q]? = H[q]?) → va_S A0 H0 H1 locs1 → H1[q9]? = some ce → ce.vm = .none → s.vm.findClass E = some ce.cls → vx_W p l e R s m args below meth c H1 locs1 (cells + mc) (slots + ms) Q (F0 m pc ls rest) q9)
    (kk : ∀ (r : UInt32) (u : S) (t : State) (H1 : Heap) (locs1 : List Loc), t.heap = H1 → s.vm.Alike t.vm → post r u → B u t → H.size ≤ H1.size → (∀ q : Nat, q < H.size → ¬ A1 q → H1[q]? = H[q]?) → va_S A0 H0 H1 locs1 → W p l e R s m args below meth c H1 locs1 (cells + mc) (slots + ms) Q (F0 m (pc + 3) ls (.float r :: rest))) : W p l e R s m args below meth c H locs cells slots Q (F0 m pc ls st0) := by
  intro T hT X
  rcases hr T hT X with ⟨v, st₀, t, T', L, h0, X', hL, e1, e2, ⟨⟨r, u, hv, hp, hb⟩, hF⟩, st⟩ | ⟨q, st₀, t, T', L, E, ce, h0, X', hL, e1, e2, ⟨u, hp, hb, hF⟩, hce, hcv, hcl, st⟩
  · cases hv
    obtain ⟨k1, k2, k3⟩ := vx_keep h0 e1 hS hA hf hL hF
    obtain ⟨t2, a1, b1⟩ := kk r u t T'.heap (locs ++ L) e1.symm (by rw [← e2]; exact X'.warmed.alike) hp hb k1 k2 k3 T' rfl X'
    exact ⟨t2, st t2 a1, b1⟩
  · obtain ⟨k1, k2, k3⟩ := vx_keep h0 e1 hS hAX hf hL hF
    obtain ⟨t2, a1, b1⟩ := kx E ce q u t T'.heap (locs ++ L) e1.symm (by rw [← e2]; exact X'.warmed.alike) hp hb k1 k2 k3 (by rw [e1]; exact hce) hcv hcl T' rfl X'
    exact ⟨t2, st.trans a1, b1⟩
theorem vx_calld {S SX : Type} {post : UInt64 → S → Prop} {px : SX → Prop} {B : S → State → Prop} {BX : String → SX → State → Prop} {AX : Nat → Prop} (hr : vx_Run p l e R s m args below meth c H locs cells slots mc ms (F0 m pc ls st0) rest (va_Qd post B A1 a) (vx_X px BX AX) free) (hS : va_S A0 H0 H locs) (hA : ∀ q, q < H.size → A1 q → A0 q) (hf : ∀ q, free q → A0 q) (hAX : ∀ q, q < H.size → AX q → A0 q)
    (kx : ∀ (E : String) (ce : Cell) (q9 : Addr) (u : SX) (t : State) (H1 : Heap) (locs1 : List Loc), t.heap = H1 → s.vm.Alike t.vm → px u → BX E u t → H.size ≤ H1.size → (∀ q : Nat, q < H.size → ¬ AX q → H1[q]? = H[q]?) → va_S A0 H0 H1 locs1 → H1[q9]? = some ce → ce.vm = .none → s.vm.findClass E = some ce.cls → vx_W p l e R s m args below meth c H1 locs1 (cells + mc) (slots + ms) Q (F0 m pc ls rest) q9)
    (kk : ∀ (r : UInt64) (u : S) (t : State) (H1 : Heap) (locs1 : List Loc), t.heap = H1 → s.vm.Alike t.vm → post r u → B u t → H.size ≤ H1.size → (∀ q : Nat, q < H.size → ¬ A1 q → H1[q]? = H[q]?) → va_S A0 H0 H1 locs1 → W p l e R s m args below meth c H1 locs1 (cells + mc) (slots + ms) Q (F0 m (pc + 3) ls (.double r :: rest))) : W p l e R s m args below meth c H locs cells slots Q (F0 m pc ls st0) := by
  intro T hT X
  rcases hr T hT X with ⟨v, st₀, t, T', L, h0, X', hL, e1, e2, ⟨⟨r, u, hv, hp, hb⟩, hF⟩, st⟩ | ⟨q, st₀, t, T', L, E, ce, h0, X', hL, e1, e2, ⟨u, hp, hb, hF⟩, hce, hcv, hcl, st⟩
  · cases hv
    obtain ⟨k1, k2, k3⟩ := vx_keep h0 e1 hS hA hf hL hF
    obtain ⟨t2, a1, b1⟩ := kk r u t T'.heap (locs ++ L) e1.symm (by rw [← e2]; exact X'.warmed.alike) hp hb k1 k2 k3 T' rfl X'
    exact ⟨t2, st t2 a1, b1⟩
  · obtain ⟨k1, k2, k3⟩ := vx_keep h0 e1 hS hAX hf hL hF
    obtain ⟨t2, a1, b1⟩ := kx E ce q u t T'.heap (locs ++ L) e1.symm (by rw [← e2]; exact X'.warmed.alike) hp hb k1 k2 k3 (by rw [e1]; exact hce) hcv hcl T' rfl X'
    exact ⟨t2, st.trans a1, b1⟩
theorem vx_callv {S SX : Type} {post : S → Prop} {px : SX → Prop} {B : S → State → Prop} {BX : String → SX → State → Prop} {AX : Nat → Prop} (hr : vx_Run p l e R s m args below meth c H locs cells slots mc ms (F0 m pc ls st0) rest (va_Qv post B A1 a) (vx_X px BX AX) free) (hS : va_S A0 H0 H locs) (hA : ∀ q, q < H.size → A1 q → A0 q) (hf : ∀ q, free q → A0 q) (hAX : ∀ q, q < H.size → AX q → A0 q)
    (kx : ∀ (E : String) (ce : Cell) (q9 : Addr) (u : SX) (t : State) (H1 : Heap) (locs1 : List Loc), t.heap = H1 → s.vm.Alike t.vm → px u → BX E u t → H.size ≤ H1.size → (∀ q : Nat, q < H.size → ¬ AX q → H1[q]? = H[q]?) → va_S A0 H0 H1 locs1 → H1[q9]? = some ce → ce.vm = .none → s.vm.findClass E = some ce.cls → vx_W p l e R s m args below meth c H1 locs1 (cells + mc) (slots + ms) Q (F0 m pc ls rest) q9)
    (kk : ∀ (u : S) (t : State) (H1 : Heap) (locs1 : List Loc), t.heap = H1 → s.vm.Alike t.vm → post u → B u t → H.size ≤ H1.size → (∀ q : Nat, q < H.size → ¬ A1 q → H1[q]? = H[q]?) → va_S A0 H0 H1 locs1 → W p l e R s m args below meth c H1 locs1 (cells + mc) (slots + ms) Q (F0 m (pc + 3) ls (rest))) : W p l e R s m args below meth c H locs cells slots Q (F0 m pc ls st0) := by
  intro T hT X
  rcases hr T hT X with ⟨v, st₀, t, T', L, h0, X', hL, e1, e2, ⟨⟨u, hv, hp, hb⟩, hF⟩, st⟩ | ⟨q, st₀, t, T', L, E, ce, h0, X', hL, e1, e2, ⟨u, hp, hb, hF⟩, hce, hcv, hcl, st⟩
  · cases hv
    obtain ⟨k1, k2, k3⟩ := vx_keep h0 e1 hS hA hf hL hF
    obtain ⟨t2, a1, b1⟩ := kk u t T'.heap (locs ++ L) e1.symm (by rw [← e2]; exact X'.warmed.alike) hp hb k1 k2 k3 T' rfl X'
    exact ⟨t2, st t2 a1, b1⟩
  · obtain ⟨k1, k2, k3⟩ := vx_keep h0 e1 hS hAX hf hL hF
    obtain ⟨t2, a1, b1⟩ := kx E ce q u t T'.heap (locs ++ L) e1.symm (by rw [← e2]; exact X'.warmed.alike) hp hb k1 k2 k3 (by rw [e1]; exact hce) hcv hcl T' rfl X'
    exact ⟨t2, st.trans a1, b1⟩
/-- caught by the row x of this method's table; the rows ahead don't take it -/
theorem vx_catch {own name : String} {E : String} {ce : Cell} {q : Addr} (hown : s.vm.findClass own = some m.cls) (pre : List ExceptionTableEntry) (x : ExceptionTableEntry) (suf : List ExceptionTableEntry) (hsplit : c.exceptionTable.toList = pre ++ x :: suf)
    (hpass : ∀ z ∈ pre, covers z pc = false ∨ (z.catchType ≠ 0 ∧ ∃ nm : String, (Cond.classLink own z.catchType nm).before args s = true ∧ va_Nc E nm s)) (hx : covers x pc = true) (h0 : x.catchType ≠ 0)
    (hlink : (Cond.classLink own x.catchType name).before args s = true) (hcast : (Cond.castable E name).before args s = true) (hcell : H[q]? = some ce) (hv : ce.vm = .none) (hcl : s.vm.findClass E = some ce.cls)
    (kk : W p l e R s m args below meth c H locs cells slots Q (F0 m x.handlerPc ls [.ref q])) : vx_W p l e R s m args below meth c H locs cells slots Q (F0 m pc ls rest) q := by
  intro T hT X
  have hpl : e.platform.magicAccessors = ({} : Platform).magicAccessors := by rw [X.admits.platform]
  obtain ⟨c3, c4, hc3, hc4, hasg⟩ := Cond.castable_spec hcast
  cases Option.some.inj (hc3.symm.trans hcl)
  obtain ⟨c5, hc5, hcl5⟩ := Cond.classLink_spec hown hlink e.platform hpl
  cases Option.some.inj (hc4.symm.trans hc5)
  obtain ⟨vm', X', st⟩ := X.thenCaughtThrough q (g := F0 m pc ls rest) rfl (Steps.refl _) (by rw [hT]; exact hcell) (by rw [hv]; rfl) (by obtain ⟨k9, h9, -⟩ := Vm.findClass_spec hcl; exact ⟨k9, h9⟩) pre x suf hsplit
    (fun z hz => by
      rcases hpass z hz with h | ⟨hz0, nm, hl1, hn1⟩
      · exact Or.inl h
      · obtain ⟨c6, hc6, hcl6⟩ := Cond.classLink_spec hown hl1 e.platform hpl
        obtain ⟨a8, b8, h1, h2, h3⟩ := hn1
        cases Option.some.inj (h1.symm.trans hcl)
        cases Option.some.inj (h2.symm.trans hc6)
        exact Or.inr ⟨hz0, _, hcl6, h3⟩) hx (Or.inr ⟨h0, c4, hcl5, hasg⟩)
  obtain ⟨t, a1, b1⟩ := kk (T.setVm vm') hT X'
  exact ⟨t, st.trans a1, b1⟩
end Rows
section Ends
variable {p : Program} {l : Launch} {e : Env} {R : Room} {s : State} {m : MethodId} {args : Array Value} {below : List Frame} {meth : Method} {c : Code} {H : Heap} {locs : List Loc} {cells slots : Nat} {Q : State → Prop}
variable {mc ms : Nat} {free : Addr → Prop} {A0 A1 : Nat → Prop} {H0 : Heap} {a : Array Value} {ls : Array Slot} {st0 rest : List Value}
variable {Qc : Array Value → State → Outcome → State → Prop} {XC : String → State → State → Prop}
/-- what a body that may throw owes at its end -/
def vx_MQ (below : List Frame) (Qc : Array Value → State → Outcome → State → Prop) (XC : String → State → State → Prop) (a : Array Value) (s : State) (mc ms : Nat) (free : Addr → Prop) : State → Prop := fun t =>
  ∃ o, t.status = .running ∧ Ended t below o ∧ vx_Q Qc XC mc ms free a s o t
theorem vx_ret {g : JFrame} {mc ms : Nat} (k : W p l e R s m args below meth c H locs cells slots (MQ below Qc args s mc ms free) g) : W p l e R s m args below meth c H locs cells slots (vx_MQ below Qc XC args s mc ms free) g := by
  intro T hT X
  obtain ⟨t, a1, o, b1, b2, b3, b4⟩ := k T hT X
  exact ⟨t, a1, o, b1, b2, Or.inl ⟨b3, b4⟩⟩
/-- not caught here: it goes on to the caller -/
theorem vx_widen {g : JFrame} {q : Addr} {k n : Nat} (h1 : cells ≤ k) (h2 : slots ≤ n) (kk : vx_W p l e R s m args below meth c H locs k n Q g q) : vx_W p l e R s m args below meth c H locs cells slots Q g q := fun T hT X => kk T hT (stand_widen X h1 h2)
theorem vx_out {pc : Nat} {E : String} {ce : Cell} {q : Addr} {mc ms : Nat} (hout : ∀ x ∈ c.exceptionTable.toList, covers x pc = false) (hlocks : meth.locks = false) (hcell : H[q]? = some ce) (hv : ce.vm = .none) (hcl : s.vm.findClass E = some ce.cls)
    (hx : ∀ t : State, t.heap = H → s.vm.Alike t.vm → XC E s t) (hf : ∀ z ∈ locs, free z.base) (hc : cells ≤ mc) (hs : slots ≤ ms) :
    vx_W p l e R s m args below meth c H locs cells slots (vx_MQ below Qc XC args s mc ms free) (F0 m pc ls rest) q := by
  intro T hT X
  obtain ⟨st1, hrun, hend, hW, hsm⟩ := X.leaveThrown q (g := F0 m pc ls rest) rfl rfl rfl hout hlocks
  have hcell9 : (T.setFrames (.throwing q :: below)).heap[q]? = some ce := by
    show T.heap[q]? = some ce
    rw [hT]; exact hcell
  exact ⟨_, st1, .threw q, hrun, hend, Or.inr ⟨q, rfl, E, ce, locs, hx _ hT hW.alike, hcell9, hv, hcl, hW, hsm.mono hc hs, hf⟩⟩
theorem vx_frame {U : State} {k n : Nat} (h : s.sameButNew ({ U with vm := s.vm } : State) locs k n) : s.heap.size ≤ U.heap.size ∧ ∀ q : Nat, q < s.heap.size → (∀ z ∈ locs, z.base ≠ q) → U.heap[q]? = s.heap[q]? := by
  obtain ⟨-, h2, -, -, -, h6⟩ := h
  refine ⟨h2, fun q hq hz => ?_⟩
  obtain ⟨c9, e1, e2, e3, e4⟩ := h6 q _ (Array.getElem?_eq_getElem hq)
  have hs : c9.slots = (s.heap[q]).slots := Array.ext_getElem? fun i => e4 i fun hm => hz _ hm rfl
  have h9 : c9 = s.heap[q] := by
    rw [hs] at e2
    exact e2
  have e5 : U.heap[q]? = some c9 := e1
  rw [e5, h9, Array.getElem?_eq_getElem hq]
/-- the words of a throw but the four that speak of the heap -/
def vx_no (w : Cond) : Bool := decide (w ≠ .isRef (.static Bundle.tN "UNASSIGNED_STACK" Bundle.steD)) && decide (w ≠ .isRef (.static Bundle.tN "SUPPRESSED_SENTINEL" Bundle.listD)) && decide (w ≠ .laysStatic Bundle.tN "UNASSIGNED_STACK" Bundle.steD) && decide (w ≠ .laysStatic Bundle.tN "SUPPRESSED_SENTINEL" Bundle.listD)
def vx_at0 (own : String) (ic : Nat) (X : String) (names : List String) : List Cond := (Bundle.ownAtoms0 own ic X names).filter vx_no
def vx_atS (own : String) (ic : Nat) (X : String) (names : List String) : List Cond := (Bundle.ownAtoms own ic X names).filter vx_no
/-- a word that the tables alone decide, or a good one -/
def vx_ot (w : Cond) : Bool := w.onTables || goodWord w
theorem vx_ot_at {args a' : Array Value} {s U : State} {w : Cond} (hW : s.WarmedH U.vm) (hvm : s.vm = U.vm) (hg : vx_ot w = true) (h : w.before args s = true) : w.before a' U = true := by
  simp only [vx_ot, Bool.or_eq_true] at hg
  rcases hg with hg | hg
  · exact va_tabs hg hvm h
  · exact word_at hW (good_of_word hg) h
/-- a list's words: the good ones out of the method's own list, the others by premises of their own -/
theorem vx_hat {args : Array Value} {s : State} {L B : List Cond} (h1 : ∀ w ∈ L.filter goodWord, w.before args s = true) (h2 : ∀ w ∈ L.filter (fun w => !goodWord w), w ∈ B) (h3 : ∀ w ∈ B, w.before args s = true) : ∀ w ∈ L, w.before args s = true := by
  intro w hw
  by_cases g : goodWord w = true
  · exact h1 w (List.mem_filter.mpr ⟨hw, g⟩)
  · refine h3 w (h2 w (List.mem_filter.mpr ⟨hw, ?_⟩))
    show (!goodWord w) = true
    cases hgw : goodWord w
    · rfl
    · exact absurd hgw g
theorem vx_c {args : Array Value} {s : State} {w : Cond} {B : List Cond} (h : w.before args s = true) (t : ∀ w ∈ B, w.before args s = true) : ∀ w' ∈ w :: B, w'.before args s = true := fun w' h' => (List.mem_cons.mp h').elim (fun e => by rw [e]; exact h) (t w')
theorem vx_n {args : Array Value} {s : State} : ∀ w ∈ ([] : List Cond), w.before args s = true := fun _ h => nomatch h
theorem vx_own {args : Array Value} {s : State} {L : List Cond} (h1 : ∀ w ∈ L.filter vx_no, w.before args s = true)
    (hU : (Cond.isRef (.static Bundle.tN "UNASSIGNED_STACK" Bundle.steD)).before args s = true) (hN : (Cond.isRef (.static Bundle.tN "SUPPRESSED_SENTINEL" Bundle.listD)).before args s = true)
    (lU : (Cond.laysStatic Bundle.tN "UNASSIGNED_STACK" Bundle.steD).before args s = true) (lN : (Cond.laysStatic Bundle.tN "SUPPRESSED_SENTINEL" Bundle.listD).before args s = true) : ∀ w ∈ L, w.before args s = true := by
  intro w hw
  by_cases e1 : w = .isRef (.static Bundle.tN "UNASSIGNED_STACK" Bundle.steD)
  · rw [e1]; exact hU
  · by_cases e2 : w = .isRef (.static Bundle.tN "SUPPRESSED_SENTINEL" Bundle.listD)
    · rw [e2]; exact hN
    · by_cases e3 : w = .laysStatic Bundle.tN "UNASSIGNED_STACK" Bundle.steD
      · rw [e3]; exact lU
      · by_cases e4 : w = .laysStatic Bundle.tN "SUPPRESSED_SENTINEL" Bundle.listD
        · rw [e4]; exact lN
        · exact h1 w (List.mem_filter.mpr ⟨hw, by unfold vx_no; rw [decide_eq_true e1, decide_eq_true e2, decide_eq_true e3, decide_eq_true e4]; rfl⟩)
/-- where a static field lies, its class's statics cell in H -/
def vx_L (C n d : String) (A : Nat → Prop) (U : State) (H : Heap) : Prop := ∃ (c : ClassId) (k : Class) (i : Nat) (f : Field) (a : Nat) (cell : Cell), U.vm.findClass C = some c ∧ U.fieldFound? C n d = some (c, k, i, f) ∧ f.isStatic = true ∧ k.statics = some a ∧ H[a]? = some cell ∧ cell.vm.isStatics = true ∧ cell.cls = c ∧ f.slot < cell.slots.size ∧ k.staticTypes[f.slot]? = some f.type ∧ ¬ A a
theorem vx_L.moved {C n d : String} {A : Nat → Prop} {u U : State} {H : Heap} (hvm : u.vm.Alike U.vm) (h : vx_L C n d A u H) : vx_L C n d A U H := by
  obtain ⟨c, k, i, f, a, cell, h1, h2, h3, h4, h5, h6, h7, h8, h9, h10⟩ := h
  obtain ⟨k', hi', he⟩ := State.fieldFound?_setVm hvm h2
  exact ⟨c, k', i, f, a, cell, by rw [hvm.findClass]; exact h1, hi', h3, by rw [he]; exact h4, h5, h6, h7, h8, by rw [he]; exact h9, h10⟩
theorem vx_L.kept {C n d : String} {A : Nat → Prop} {U : State} {H H1 : Heap} (h : vx_L C n d A U H) (hq : ∀ a : Nat, a < H.size → ¬ A a → H1[a]? = H[a]?) : vx_L C n d A U H1 := by
  obtain ⟨c, k, i, f, a, cell, h1, h2, h3, h4, h5, h6, h7, h8, h9, h10⟩ := h
  exact ⟨c, k, i, f, a, cell, h1, h2, h3, h4, by rw [hq a (Array.getElem?_eq_some_iff.mp h5).1 h10]; exact h5, h6, h7, h8, h9, h10⟩
theorem vx_L.narrow {C n d : String} {A B : Nat → Prop} {U : State} {H : Heap} (h : vx_L C n d A U H) (hAB : ∀ q, B q → A q) : vx_L C n d B U H := by
  obtain ⟨c, k, i, f, a, cell, h1, h2, h3, h4, h5, h6, h7, h8, h9, h10⟩ := h
  exact ⟨c, k, i, f, a, cell, h1, h2, h3, h4, h5, h6, h7, h8, h9, fun z => h10 (hAB _ z)⟩
theorem vx_L.word {C n d : String} {A : Nat → Prop} {s : State} {args : Array Value} (h : vx_L C n d A s s.heap) : (Cond.laysStatic C n d).before args s = true := by
  obtain ⟨c, k, i, f, a, cell, h1, h2, h3, h4, h5, h6, h7, h8, h9, -⟩ := h
  show (Cond.laysStatic C n d).holds args s none s [] = true
  exact Cond.laysStatic_of h1 h2 h3 h4 h5 h6 h7 h8 h9
/-- .. and what it holds: null or some reference -/
def vx_Zq (C n d : String) (A : Nat → Prop) (U : State) (H : Heap) : Prop := va_Zq C n d A U H ∧ vx_L C n d A U H
theorem vx_Zq.moved {C n d : String} {A : Nat → Prop} {u U : State} {H : Heap} (hvm : u.vm.Alike U.vm) (h : vx_Zq C n d A u H) : vx_Zq C n d A U H := ⟨va_Zq.moved hvm h.1, vx_L.moved hvm h.2⟩
theorem vx_Zq.kept {C n d : String} {A : Nat → Prop} {U : State} {H H1 : Heap} (h : vx_Zq C n d A U H) (hq : ∀ a : Nat, a < H.size → ¬ A a → H1[a]? = H[a]?) : vx_Zq C n d A U H1 := ⟨va_Zq.kept h.1 hq, vx_L.kept h.2 hq⟩
theorem vx_Zq.narrow {C n d : String} {A B : Nat → Prop} {U : State} {H : Heap} (h : vx_Zq C n d A U H) (hAB : ∀ q, B q → A q) : vx_Zq C n d B U H := ⟨va_Zq.narrow h.1 hAB, vx_L.narrow h.2 hAB⟩
theorem vx_Zqof {args : Array Value} {s : State} {C n d : String} {A : Nat → Prop} (hl : (Cond.laysStatic C n d).before args s = true) (hini : (Cond.initialized C).before args s = true) (h : (Cond.isRef (.static C n d)).before args s = true) (hA : ∀ a : Nat, a < s.heap.size → ¬ A a) : vx_Zq C n d A s s.heap := by
  refine ⟨va_Zqof hl hini h hA, ?_⟩
  obtain ⟨c, k, i, f, a, cell, h1, h2, h3, h4, h5, h6, h7, h8, h9⟩ := Cond.laysStatic_spec hl
  exact ⟨c, k, i, f, a, cell, h1, h2, h3, h4, h5, h6, h7, h8, h9, hA a (Array.getElem?_eq_some_iff.mp h5).1⟩
theorem vx_isRef {C n d : String} {v : Value} {A : Nat → Prop} {s : State} {args : Array Value} (h : va_Z C n d v A s s.heap) (hv : v.isRef = true) : (Cond.isRef (.static C n d)).before args s = true := by
  obtain ⟨cf, kf, fi, f, a, cell, h1, h2, h3, h4, h5, h6, h7, -⟩ := h
  have he : (Term.static C n d).eval args s none [] s = some v := by
    simp [Term.eval, State.fieldNamed?, h1, h2, h4, h5, h6, h7]
  simp only [Cond.before, Cond.holds, Cond.value, he]
  cases v <;> simp_all [Value.isRef]
theorem vx_isRefq {C n d : String} {A : Nat → Prop} {s : State} {args : Array Value} (h : va_Zq C n d A s s.heap) : (Cond.isRef (.static C n d)).before args s = true := by
  rcases h with h | ⟨t, h⟩
  · exact vx_isRef h rfl
  · exact vx_isRef h rfl
/-- the same frame, seen from here: as if the method were called anew in this heap -/
theorem vx_rebase {T : State} (X : Stand p l e R s m args below meth c T locs cells slots) {R' : Room} (hf : R'.frames ≤ R.frames) (hl : R'.locals ≤ R.locals) (hc : cells + R'.cells ≤ R.cells) (hs : slots + R'.slots ≤ R.slots) :
    Stand p l e R' ((T.setVm s.vm).setFrames (.invoking m args :: below)) m args below meth c T [] 0 0 := by
  have htop : (T.setVm s.vm).topJava?.isSome := X.here.top
  have hF : ((T.setVm s.vm).setFrames (.invoking m args :: below)).frames = .invoking m args :: below := State.frames_setFrames _ (State.cur_lt_of_top htop)
  obtain ⟨g₀, hg0⟩ := Option.isSome_iff_exists.mp htop
  obtain ⟨r, hr⟩ := State.topJava?_eq_some.mp hg0
  have hl9 : e.platform.stackLimits (T.setVm s.vm).me = e.platform.stackLimits s.me := X.limits
  have hb9 : (T.setVm s.vm).me.stackBytes = s.me.stackBytes := X.bytes
  refine ⟨X.admits, X.cas, X.clock, hF, ?_, X.hears, X.method, X.code, X.here, X.tail, X.warmed, ?_, ?_, ?_⟩
  · have h := X.room
    have hU : ((T.setVm s.vm).setFrames (.invoking m args :: below)).localsInUse = s.localsInUse := by
      rw [State.localsInUse_invoking hF (meth := meth) (c := c) X.method X.code, State.localsInUse_invoking X.frames X.method X.code]
    simp only [State.hasRoom, Bool.and_eq_true, decide_eq_true_eq] at h ⊢
    obtain ⟨⟨⟨⟨h1, h2, h3, h4, h5, h6⟩, h7⟩, h8⟩, h9⟩ := h
    rw [X.frames, List.length_cons] at h2 h3
    have q1 := X.heapSize
    have q2 := X.used
    simp only [hF, hU, List.length_cons, State.stackLimits_setFrames, State.stackBytes_setFrames, hl9, hb9]
    refine ⟨⟨⟨⟨by omega, by omega, by omega, by omega, by omega, h6⟩, ?_⟩, ?_⟩, X.book⟩
    · show T.heap.size + R'.cells ≤ e.platform.maxCells
      omega
    · show T.slotsUsed + R'.slots ≤ e.platform.maxSlots
      omega
  · rw [State.stackLimits_setFrames]; rfl
  · rw [State.stackBytes_setFrames]; rfl
  · refine ⟨?_, Nat.le_refl _, Nat.le_refl _, ?_, ?_, fun a c9 h9 => ⟨c9, h9, rfl, rfl, fun _ _ => rfl⟩⟩
    · obtain ⟨t, ht, -⟩ := State.frames_cons hr
      show T.setVm s.vm = { ((T.setVm s.vm).setFrames (.invoking m args :: below)).setFrames (T.setVm s.vm).frames with heap := T.heap, slotsUsed := T.slotsUsed }
      rw [State.setFrames_setFrames, State.setFrames_self ht]
      rfl
    · show T.slotsUsed = T.slotsUsed + ((T.heap.toList.drop T.heap.size).map (·.slots.size)).sum
      rw [List.drop_eq_nil_of_le (Nat.le_of_eq Array.length_toList)]
      rfl
    · show ((T.heap.toList.drop T.heap.size).map (·.slots.size)).sum ≤ 0
      rw [List.drop_eq_nil_of_le (Nat.le_of_eq Array.length_toList)]
      exact Nat.le_refl _
/-- 'throw new E()': new; dup; invokespecial; athrow -/
theorem vx_throw0 {cc : ByteArray} {pc : Nat} (hexec : p.tables.exec = Jvm.exec) (hb : c.code = cc) (hl : l.stackTraces = false) {own cls : String} {names : List String} {ik ic mc ms : Nat} {A : Nat → Prop}
    (hown : s.vm.findClass own = some m.cls) (hcls : Bundle.fit cls = true) (hnames : ∀ n ∈ names, Bundle.fit n = true)
    (hk : (Cond.classLink own ik cls).before args s = true) (hini : (Cond.initialized cls).before args s = true) (hat : ∀ w ∈ vx_at0 own ic cls names, w.before args s = true)
    (hgood : ∀ w ∈ Cond.classLink own ik cls :: Cond.initialized cls :: vx_at0 own ic cls names, vx_ot w = true)
    (hU : vx_Zq Bundle.tN "UNASSIGNED_STACK" Bundle.steD A s s.heap) (hN : vx_Zq Bundle.tN "SUPPRESSED_SENTINEL" Bundle.listD A s s.heap) (hS : va_S A s.heap H locs) (hsize : ls.size = c.maxLocals)
    (d0 : decode cc pc = .ok (.new ik, 3)) (d3 : decode cc (pc + 3) = .ok (.dup, 1)) (d4 : decode cc (pc + 4) = .ok (.invokespecial ic, 3)) (d7 : decode cc (pc + 7) = .ok (.athrow, 1))
    (hout : ∀ x ∈ c.exceptionTable.toList, covers x (pc + 7) = false)
    (hRframes : names.length + 3 < R.frames) (hRlocals : (rest.map fun v => v.category).sum + (13 * (names.length + 1) + 42) ≤ R.locals) (hRcells : cells + 1 ≤ R.cells) (hRslots : slots + 6 ≤ R.slots) (hlocks : meth.locks = false)
    (hx : ∀ t : State, s.vm.Alike t.vm → H.size ≤ t.heap.size → (∀ q : Nat, q < H.size → t.heap[q]? = H[q]?) → XC cls s t)
    (hf : ∀ z ∈ locs, free z.base) (hc : cells + 1 ≤ mc) (hs : slots + 6 ≤ ms) :
    W p l e R s m args below meth c H locs cells slots (vx_MQ below Qc XC args s mc ms free) (F0 m pc ls rest) := by
  intro T hT X
  have htr : e.platform.stackTraces = false := (show e.platform.stackTraces = l.stackTraces by rw [X.admits.platform]).trans hl
  have Y := vx_rebase X (R' := { frames := R.frames, locals := R.locals, cells := 1, slots := 6 }) (Nat.le_refl _) (Nat.le_refl _) hRcells hRslots
  obtain ⟨s', hA⟩ : ∃ z, z = (T.setVm s.vm).setFrames (.invoking m args :: below) := ⟨_, rfl⟩
  rw [← hA] at Y
  have hvm : s'.vm = s.vm := by rw [hA]; rfl
  have hhp : s'.heap = H := by rw [hA]; exact hT
  have hW0 : s.WarmedH s'.vm := by rw [hvm]; exact State.WarmedH.refl s
  have hat' : ∀ w ∈ vx_at0 own ic cls names, w.before args s' = true := fun w hw => vx_ot_at hW0 hvm.symm (hgood w (List.mem_cons_of_mem _ (List.mem_cons_of_mem _ hw))) (hat w hw)
  have hk' : (Cond.classLink own ik cls).before args s' = true := vx_ot_at hW0 hvm.symm (hgood _ List.mem_cons_self) hk
  have hini' : (Cond.initialized cls).before args s' = true := vx_ot_at hW0 hvm.symm (hgood _ (List.mem_cons_of_mem _ List.mem_cons_self)) hini
  have hU' : vx_Zq Bundle.tN "UNASSIGNED_STACK" Bundle.steD A s' s'.heap := by rw [hhp]; exact vx_Zq.moved hW0.alike (hU.kept hS.2.1)
  have hN' : vx_Zq Bundle.tN "SUPPRESSED_SENTINEL" Bundle.listD A s' s'.heap := by rw [hhp]; exact vx_Zq.moved hW0.alike (hN.kept hS.2.1)
  have h : ∀ w ∈ Bundle.ownAtoms0 own ic cls names, w.before args s' = true := vx_own hat' (vx_isRefq hU'.1) (vx_isRefq hN'.1) hU'.2.word hN'.2.word
  have hown' : s'.vm.findClass own = some m.cls := by rw [hvm]; exact hown
  have hins : (Cond.instantiable cls 6).before args s' = true := h _ (by simp [Bundle.ownAtoms0])
  obtain ⟨vm₁, cX, kX, hfX, hkX, -, -, X₁, st1⟩ := Y.newCold hexec (own := own) (C := cls) (index := ik) (n := 6) hown' hk' hins hini'
    (g := F0 m pc ls rest) rfl (by rw [hb]; exact d0) (Nat.le_refl _) (Nat.le_refl _)
  generalize hT1 : (T.setVm vm₁).pushCell { cls := cX, slots := kX.instanceTypes.map defaultValue, vm := .none } = T1 at X₁ st1
  have hcat : (Value.ref T.heap.size).category = 1 := rfl
  have hcellA : T1.heap[T.heap.size]? = some (freshCell cX kX) := by rw [← hT1]; exact State.heap_pushCell_size _ _
  have d3' : decode c.code (pc + 3) = .ok (.dup, 1) := by rw [hb]; exact d3
  obtain ⟨U, hsteps, hrun, hend, hW, hsame, ce, hce, hO⟩ := X₁.ctorThrow0 hexec htr (own := own) (cls := cls) (names := names) (ic := ic) hown' hcls hnames h (fun x hx => nomatch hx) hfX hkX hcellA (by rw [hhp, hT]; exact Nat.le_refl _)
    (g := { method := m, pc := pc + 4, locals := ls, stack := .ref T.heap.size :: .ref T.heap.size :: rest, locked := none }) rfl hsize rfl rfl (rest := rest) rfl
    (by rw [hb]; exact d4) (by rw [hb]; exact d7) hout hRframes (by simp only [List.map_cons, List.sum_cons, hcat]; omega) hlocks
  obtain ⟨f1, f2⟩ := vx_frame hsame
  rw [hhp] at f1 f2
  have hWs : s.WarmedH U.vm := State.WarmedH.trans hW0 hW
  have hcl : s.vm.findClass cls = some ce.cls := by
    have h9 := hO.cls
    rw [hvm] at h9
    exact h9
  have hall : s.sameButNew ({ U with vm := s.vm } : State) locs mc ms := by
    subst hA
    obtain ⟨e1, e2⟩ := hsame
    rw [State.setFrames_setFrames] at e1
    have h2 : (T.setVm s.vm).sameButNew ({ U with vm := s.vm } : State) [] (0 + 1) (0 + 6) := ⟨e1, e2⟩
    have h3 := X.same.trans h2
    rw [List.append_nil] at h3
    exact h3.mono hc hs
  refine ⟨U, ?_, .threw T.heap.size, hrun, hend, Or.inr ⟨T.heap.size, rfl, cls, ce, locs, hx U hWs.alike f1 (fun q hq => f2 q hq (fun z hz => nomatch hz)), hce, hO.vm, hcl, hWs, hall, hf⟩⟩
  refine st1 _ ?_
  show Steps p.tables e below (T1.setTop { method := m, pc := pc + 3, locals := ls, stack := .ref T.heap.size :: rest, locked := none }) _
  jvm_step X₁.here [X₁.here.top, hexec, d3', Value.category]
  exact hsteps
/-- 'throw new E("text")': new; dup; ldc; invokespecial; athrow -/
theorem vx_throwS {cc : ByteArray} {pc : Nat} (hexec : p.tables.exec = Jvm.exec) (hb : c.code = cc) (hl : l.stackTraces = false) {own cls text : String} {names : List String} {ik is ic mc ms sa : Nat} {A : Nat → Prop}
    (hown : s.vm.findClass own = some m.cls) (hcls : Bundle.fit cls = true) (hnames : ∀ n ∈ names, Bundle.fit n = true)
    (hk : (Cond.classLink own ik cls).before args s = true) (hini : (Cond.initialized cls).before args s = true) (hstr : vk_R own is text sa s) (hat : ∀ w ∈ vx_atS own ic cls names, w.before args s = true)
    (hgood : ∀ w ∈ Cond.classLink own ik cls :: Cond.initialized cls :: vx_atS own ic cls names, vx_ot w = true)
    (hU : vx_Zq Bundle.tN "UNASSIGNED_STACK" Bundle.steD A s s.heap) (hN : vx_Zq Bundle.tN "SUPPRESSED_SENTINEL" Bundle.listD A s s.heap) (hS : va_S A s.heap H locs) (hsize : ls.size = c.maxLocals)
    (d0 : decode cc pc = .ok (.new ik, 3)) (d3 : decode cc (pc + 3) = .ok (.dup, 1)) (d4 : decode cc (pc + 4) = .ok (.ldc is, 2)) (d6 : decode cc (pc + 6) = .ok (.invokespecial ic, 3)) (d9 : decode cc (pc + 9) = .ok (.athrow, 1))
    (hout : ∀ x ∈ c.exceptionTable.toList, covers x (pc + 9) = false)
    (hRframes : names.length + 3 < R.frames) (hRlocals : (rest.map fun v => v.category).sum + (13 * (names.length + 1) + 43) ≤ R.locals) (hRcells : cells + 1 ≤ R.cells) (hRslots : slots + 6 ≤ R.slots) (hlocks : meth.locks = false)
    (hx : ∀ t : State, s.vm.Alike t.vm → H.size ≤ t.heap.size → (∀ q : Nat, q < H.size → t.heap[q]? = H[q]?) → XC cls s t)
    (hf : ∀ z ∈ locs, free z.base) (hc : cells + 1 ≤ mc) (hs : slots + 6 ≤ ms) :
    W p l e R s m args below meth c H locs cells slots (vx_MQ below Qc XC args s mc ms free) (F0 m pc ls rest) := by
  intro T hT X
  have htr : e.platform.stackTraces = false := (show e.platform.stackTraces = l.stackTraces by rw [X.admits.platform]).trans hl
  have Y := vx_rebase X (R' := { frames := R.frames, locals := R.locals, cells := 1, slots := 6 }) (Nat.le_refl _) (Nat.le_refl _) hRcells hRslots
  obtain ⟨s', hA⟩ : ∃ z, z = (T.setVm s.vm).setFrames (.invoking m args :: below) := ⟨_, rfl⟩
  rw [← hA] at Y
  have hvm : s'.vm = s.vm := by rw [hA]; rfl
  have hhp : s'.heap = H := by rw [hA]; exact hT
  have hW0 : s.WarmedH s'.vm := by rw [hvm]; exact State.WarmedH.refl s
  have hat' : ∀ w ∈ vx_atS own ic cls names, w.before args s' = true := fun w hw => vx_ot_at hW0 hvm.symm (hgood w (List.mem_cons_of_mem _ (List.mem_cons_of_mem _ hw))) (hat w hw)
  have hk' : (Cond.classLink own ik cls).before args s' = true := vx_ot_at hW0 hvm.symm (hgood _ List.mem_cons_self) hk
  have hini' : (Cond.initialized cls).before args s' = true := vx_ot_at hW0 hvm.symm (hgood _ (List.mem_cons_of_mem _ List.mem_cons_self)) hini
  have hU' : vx_Zq Bundle.tN "UNASSIGNED_STACK" Bundle.steD A s' s'.heap := by rw [hhp]; exact vx_Zq.moved hW0.alike (hU.kept hS.2.1)
  have hN' : vx_Zq Bundle.tN "SUPPRESSED_SENTINEL" Bundle.listD A s' s'.heap := by rw [hhp]; exact vx_Zq.moved hW0.alike (hN.kept hS.2.1)
  have h : ∀ w ∈ Bundle.ownAtoms own ic cls names, w.before args s' = true := vx_own hat' (vx_isRefq hU'.1) (vx_isRefq hN'.1) hU'.2.word hN'.2.word
  have hown' : s'.vm.findClass own = some m.cls := by rw [hvm]; exact hown
  have hins : (Cond.instantiable cls 6).before args s' = true := h _ (by simp [Bundle.ownAtoms])
  obtain ⟨vm₁, cX, kX, hfX, hkX, -, -, X₁, st1⟩ := Y.newCold hexec (own := own) (C := cls) (index := ik) (n := 6) hown' hk' hins hini'
    (g := F0 m pc ls rest) rfl (by rw [hb]; exact d0) (Nat.le_refl _) (Nat.le_refl _)
  generalize hT1 : (T.setVm vm₁).pushCell { cls := cX, slots := kX.instanceTypes.map defaultValue, vm := .none } = T1 at X₁ st1
  have hcat : (Value.ref T.heap.size).category = 1 := rfl
  have hcellA : T1.heap[T.heap.size]? = some (freshCell cX kX) := by rw [← hT1]; exact State.heap_pushCell_size _ _
  have d3' : decode c.code (pc + 3) = .ok (.dup, 1) := by rw [hb]; exact d3
  have d4' : decode c.code (pc + 4) = .ok (.ldc is, 2) := by rw [hb]; exact d4
  have hstr' : vk_R own is text sa s' := vk_R.warm hW0 hstr
  obtain ⟨U, hsteps, hrun, hend, hW, hsame, ce, hce, hO⟩ := X₁.ctorThrowS hexec htr (own := own) (cls := cls) (names := names) (ic := ic) hown' hcls hnames h (fun x hx => nomatch hx) hfX hkX hcellA (by rw [hhp, hT]; exact Nat.le_refl _) (msg := .ref sa) rfl
    (g := { method := m, pc := pc + 6, locals := ls, stack := .ref sa :: .ref T.heap.size :: .ref T.heap.size :: rest, locked := none }) rfl hsize rfl rfl (rest := rest) rfl
    (by rw [hb]; exact d6) (by rw [hb]; exact d9) hout hRframes (by simp only [List.map_cons, List.sum_cons, hcat]; omega) hlocks
  obtain ⟨f1, f2⟩ := vx_frame hsame
  rw [hhp] at f1 f2
  have hWs : s.WarmedH U.vm := State.WarmedH.trans hW0 hW
  have hcl : s.vm.findClass cls = some ce.cls := by
    have h9 := hO.cls
    rw [hvm] at h9
    exact h9
  have hall : s.sameButNew ({ U with vm := s.vm } : State) locs mc ms := by
    subst hA
    obtain ⟨e1, e2⟩ := hsame
    rw [State.setFrames_setFrames] at e1
    have h2 : (T.setVm s.vm).sameButNew ({ U with vm := s.vm } : State) [] (0 + 1) (0 + 6) := ⟨e1, e2⟩
    have h3 := X.same.trans h2
    rw [List.append_nil] at h3
    exact h3.mono hc hs
  refine ⟨U, ?_, .threw T.heap.size, hrun, hend, Or.inr ⟨T.heap.size, rfl, cls, ce, locs, hx U hWs.alike f1 (fun q hq => f2 q hq (fun z hz => nomatch hz)), hce, hO.vm, hcl, hWs, hall, hf⟩⟩
  refine st1 _ ?_
  show Steps p.tables e below (T1.setTop { method := m, pc := pc + 3, locals := ls, stack := .ref T.heap.size :: rest, locked := none }) _
  jvm_step X₁.here [X₁.here.top, hexec, d3', Value.category]
  exact X₁.ldcString hexec (own := own) (text := text) (index := is) (a := sa) hown' hstr'.1 hstr'.2
    (g := { method := m, pc := pc + 4, locals := ls, stack := .ref T.heap.size :: .ref T.heap.size :: rest, locked := none }) rfl d4' _ hsteps
/-- 'throw new E("text")', the text by a wide index -/
theorem vx_throwSW {cc : ByteArray} {pc : Nat} (hexec : p.tables.exec = Jvm.exec) (hb : c.code = cc) (hl : l.stackTraces = false) {own cls text : String} {names : List String} {ik is ic mc ms sa : Nat} {A : Nat → Prop}
    (hown : s.vm.findClass own = some m.cls) (hcls : Bundle.fit cls = true) (hnames : ∀ n ∈ names, Bundle.fit n = true)
    (hk : (Cond.classLink own ik cls).before args s = true) (hini : (Cond.initialized cls).before args s = true) (hstr : vk_R own is text sa s) (hat : ∀ w ∈ vx_atS own ic cls names, w.before args s = true)
    (hgood : ∀ w ∈ Cond.classLink own ik cls :: Cond.initialized cls :: vx_atS own ic cls names, vx_ot w = true)
    (hU : vx_Zq Bundle.tN "UNASSIGNED_STACK" Bundle.steD A s s.heap) (hN : vx_Zq Bundle.tN "SUPPRESSED_SENTINEL" Bundle.listD A s s.heap) (hS : va_S A s.heap H locs) (hsize : ls.size = c.maxLocals)
    (d0 : decode cc pc = .ok (.new ik, 3)) (d3 : decode cc (pc + 3) = .ok (.dup, 1)) (d4 : decode cc (pc + 4) = .ok (.ldc_w is, 3)) (d7 : decode cc (pc + 7) = .ok (.invokespecial ic, 3)) (d10 : decode cc (pc + 10) = .ok (.athrow, 1))
    (hout : ∀ x ∈ c.exceptionTable.toList, covers x (pc + 10) = false)
    (hRframes : names.length + 3 < R.frames) (hRlocals : (rest.map fun v => v.category).sum + (13 * (names.length + 1) + 43) ≤ R.locals) (hRcells : cells + 1 ≤ R.cells) (hRslots : slots + 6 ≤ R.slots) (hlocks : meth.locks = false)
    (hx : ∀ t : State, s.vm.Alike t.vm → H.size ≤ t.heap.size → (∀ q : Nat, q < H.size → t.heap[q]? = H[q]?) → XC cls s t)
    (hf : ∀ z ∈ locs, free z.base) (hc : cells + 1 ≤ mc) (hs : slots + 6 ≤ ms) :
    W p l e R s m args below meth c H locs cells slots (vx_MQ below Qc XC args s mc ms free) (F0 m pc ls rest) := by
  intro T hT X
  have htr : e.platform.stackTraces = false := (show e.platform.stackTraces = l.stackTraces by rw [X.admits.platform]).trans hl
  have Y := vx_rebase X (R' := { frames := R.frames, locals := R.locals, cells := 1, slots := 6 }) (Nat.le_refl _) (Nat.le_refl _) hRcells hRslots
  obtain ⟨s', hA⟩ : ∃ z, z = (T.setVm s.vm).setFrames (.invoking m args :: below) := ⟨_, rfl⟩
  rw [← hA] at Y
  have hvm : s'.vm = s.vm := by rw [hA]; rfl
  have hhp : s'.heap = H := by rw [hA]; exact hT
  have hW0 : s.WarmedH s'.vm := by rw [hvm]; exact State.WarmedH.refl s
  have hat' : ∀ w ∈ vx_atS own ic cls names, w.before args s' = true := fun w hw => vx_ot_at hW0 hvm.symm (hgood w (List.mem_cons_of_mem _ (List.mem_cons_of_mem _ hw))) (hat w hw)
  have hk' : (Cond.classLink own ik cls).before args s' = true := vx_ot_at hW0 hvm.symm (hgood _ List.mem_cons_self) hk
  have hini' : (Cond.initialized cls).before args s' = true := vx_ot_at hW0 hvm.symm (hgood _ (List.mem_cons_of_mem _ List.mem_cons_self)) hini
  have hU' : vx_Zq Bundle.tN "UNASSIGNED_STACK" Bundle.steD A s' s'.heap := by rw [hhp]; exact vx_Zq.moved hW0.alike (hU.kept hS.2.1)
  have hN' : vx_Zq Bundle.tN "SUPPRESSED_SENTINEL" Bundle.listD A s' s'.heap := by rw [hhp]; exact vx_Zq.moved hW0.alike (hN.kept hS.2.1)
  have h : ∀ w ∈ Bundle.ownAtoms own ic cls names, w.before args s' = true := vx_own hat' (vx_isRefq hU'.1) (vx_isRefq hN'.1) hU'.2.word hN'.2.word
  have hown' : s'.vm.findClass own = some m.cls := by rw [hvm]; exact hown
  have hins : (Cond.instantiable cls 6).before args s' = true := h _ (by simp [Bundle.ownAtoms])
  obtain ⟨vm₁, cX, kX, hfX, hkX, -, -, X₁, st1⟩ := Y.newCold hexec (own := own) (C := cls) (index := ik) (n := 6) hown' hk' hins hini'
    (g := F0 m pc ls rest) rfl (by rw [hb]; exact d0) (Nat.le_refl _) (Nat.le_refl _)
  generalize hT1 : (T.setVm vm₁).pushCell { cls := cX, slots := kX.instanceTypes.map defaultValue, vm := .none } = T1 at X₁ st1
  have hcat : (Value.ref T.heap.size).category = 1 := rfl
  have hcellA : T1.heap[T.heap.size]? = some (freshCell cX kX) := by rw [← hT1]; exact State.heap_pushCell_size _ _
  have d3' : decode c.code (pc + 3) = .ok (.dup, 1) := by rw [hb]; exact d3
  have d4' : decode c.code (pc + 4) = .ok (.ldc_w is, 3) := by rw [hb]; exact d4
  have hstr' : vk_R own is text sa s' := vk_R.warm hW0 hstr
  obtain ⟨U, hsteps, hrun, hend, hW, hsame, ce, hce, hO⟩ := X₁.ctorThrowS hexec htr (own := own) (cls := cls) (names := names) (ic := ic) hown' hcls hnames h (fun x hx => nomatch hx) hfX hkX hcellA (by rw [hhp, hT]; exact Nat.le_refl _) (msg := .ref sa) rfl
    (g := { method := m, pc := pc + 7, locals := ls, stack := .ref sa :: .ref T.heap.size :: .ref T.heap.size :: rest, locked := none }) rfl hsize rfl rfl (rest := rest) rfl
    (by rw [hb]; exact d7) (by rw [hb]; exact d10) hout hRframes (by simp only [List.map_cons, List.sum_cons, hcat]; omega) hlocks
  obtain ⟨f1, f2⟩ := vx_frame hsame
  rw [hhp] at f1 f2
  have hWs : s.WarmedH U.vm := State.WarmedH.trans hW0 hW
  have hcl : s.vm.findClass cls = some ce.cls := by
    have h9 := hO.cls
    rw [hvm] at h9
    exact h9
  have hall : s.sameButNew ({ U with vm := s.vm } : State) locs mc ms := by
    subst hA
    obtain ⟨e1, e2⟩ := hsame
    rw [State.setFrames_setFrames] at e1
    have h2 : (T.setVm s.vm).sameButNew ({ U with vm := s.vm } : State) [] (0 + 1) (0 + 6) := ⟨e1, e2⟩
    have h3 := X.same.trans h2
    rw [List.append_nil] at h3
    exact h3.mono hc hs
  refine ⟨U, ?_, .threw T.heap.size, hrun, hend, Or.inr ⟨T.heap.size, rfl, cls, ce, locs, hx U hWs.alike f1 (fun q hq => f2 q hq (fun z hz => nomatch hz)), hce, hO.vm, hcl, hWs, hall, hf⟩⟩
  refine st1 _ ?_
  show Steps p.tables e below (T1.setTop { method := m, pc := pc + 3, locals := ls, stack := .ref T.heap.size :: rest, locked := none }) _
  jvm_step X₁.here [X₁.here.top, hexec, d3', Value.category]
  exact X₁.ldcStringW hexec (own := own) (text := text) (index := is) (a := sa) hown' hstr'.1 hstr'.2
    (g := { method := m, pc := pc + 4, locals := ls, stack := .ref T.heap.size :: .ref T.heap.size :: rest, locked := none }) rfl d4' _ hsteps
end Ends
section Bodies
variable {l : Launch}
theorem vx_ofW {y : MethodName} {ws ws' : List Cond} {rm : Room} {Pc : Array Value → State → Prop} {Qc : Array Value → State → Outcome → State → Prop} {XC : String → State → State → Prop} {mc ms : Nat} {free : Addr → Prop} {cc : ByteArray} {maxL : Nat} {ret : Option FieldType}
    (hy : plainName y.cls = true) (hw : ws = Cond.code y cc maxL ret :: ws')
    (body : ∀ p e s m args below meth c s₁, BodyLoose p l y (headSpec ws rm) cc maxL ret e s m args below meth c s₁ → c.maxLocals = maxL → (∀ x ∈ c.exceptionTable.toList, False) → Pc args s →
      W p l e (headSpec ws rm).room s m args below meth c s.heap [] 0 0 (vx_MQ below Qc XC args s mc ms free) (entryFrame m args maxL)) : vx_Met l y ws rm Pc Qc XC mc ms free := by
  refine MetFree.of_bodyS (code := cc) (maxLocals := maxL) (ret := ret) hy ?_ ?_
  · intro args s m h hn
    obtain ⟨meth, c, h1, h2, h3, h4, h5, h6, -, -⟩ := Cond.code_spec hn (atoms_spec (ws := ws) h _ (by rw [hw]; exact List.mem_cons_self))
    exact ⟨meth, c, h1, h2, h3, h4, h5, h6⟩
  · intro p e s m args below meth c s₁ B hml hP _
    have hh0 : s₁.heap = s.heap := by rw [B.state]; rfl
    have ht : ∀ x ∈ c.exceptionTable.toList, False := by
      obtain ⟨meth9, c9, h1, h2, -, -, -, -, h7, -⟩ := Cond.code_spec B.named (atoms_spec (ws := ws) B.pre _ (by rw [hw]; exact List.mem_cons_self))
      cases Option.some.inj (h1.symm.trans B.method)
      cases Option.some.inj (h2.symm.trans (Stand.of_body B).code)
      intro x hx
      rw [Array.isEmpty_iff.mp h7] at hx
      cases hx
    obtain ⟨t, a1, o, b1, b2, b3⟩ := body p e s m args below meth c s₁ B hml ht hP s₁ hh0 (Stand.of_body B)
    exact ⟨t, o, a1, b1, b2, b3⟩
/-- the table of a body with handlers -/
theorem vx_table {p : Program} {x y : MethodName} {S : Spec} {cc bytes : ByteArray} {maxL maxL' : Nat} {ret ret' : Option FieldType} {e : Env} {s s₁ : State} {m : MethodId} {args : Array Value} {below : List Frame} {meth : Method} {c : Code} {hh : List (Nat × Nat × Nat × Nat)}
    (B : BodyLoose p l y S cc maxL ret e s m args below meth c s₁) (h : (Cond.codeWith y bytes maxL' ret' hh).before args s = true) : c.exceptionTable.toList = tableOf hh := by
  obtain ⟨m9, meth9, c9, hn9, h1, h2, -, -, h6, -⟩ := Cond.codeWith_spec h
  cases Option.some.inj (hn9.symm.trans B.named)
  cases Option.some.inj (h1.symm.trans B.method)
  cases Option.some.inj (h2.symm.trans (Stand.of_body B).code)
  rw [← h6, table_eq]
end Bodies
end VXA
/-! ===== END ===== -/
/-! ===== BEGIN a static call of a method with an exception table ===== -/
section VXS
variable {p : Program} {l : Launch} {e : Env} {R : Room} {s : State} {m : MethodId} {args : Array Value} {below : List Frame} {meth : Method} {c : Code} {T : State} {H : Heap} {locs : List Loc} {cells slots : Nat}
abbrev vx_CSW (R : Room) (s : State) (args : Array Value) (own : String) (index : Nat) (y : MethodName) (bytes : ByteArray) (maxL : Nat) (ret : Option FieldType) (hh : List (Nat × Nat × Nat × Nat)) (ws : List Cond) (rm : Room) (mc ms n : Nat) : Prop :=
  (rm.cells = mc ∧ rm.slots = ms ∧ rm.frames + 1 ≤ R.frames ∧ 8 + (maxL + 11) + rm.locals ≤ R.locals ∧ (∀ w ∈ ws, ∀ (a' : Array Value) (U : State), s.WarmedH U.vm → w.before a' U = true) ∧ Cond.codeWith y bytes maxL ret hh ∈ ws) ∧
  (Cond.codeWith y bytes maxL ret hh).before args s = true ∧ (Cond.initialized y.cls).before args s = true ∧ (y.cls ≠ "java/lang/invoke/MethodHandle" ∧ y.cls ≠ "java/lang/invoke/VarHandle") ∧
  (∀ sig, parseMethodDescriptor y.desc = some sig → n = sig.parameters.length) ∧ (Cond.methodLink own index y).before args s = true ∧ (Cond.static y).before args s = true
theorem vx_cwSW {own : String} {index maxL mc ms : Nat} {y : MethodName} {bytes : ByteArray} {ret : Option FieldType} {hh : List (Nat × Nat × Nat × Nat)} {Ts ws ws' : List Cond} {rm : Room} (n : Nat) (ht : ∀ w ∈ Ts, w.before args s = true) (hT : GoodIn Ts (va_wsS own index y ws)) (hw : ws = Cond.codeWith y bytes maxL ret hh :: ws') (hrc : rm.cells = mc) (hrs : rm.slots = ms)
    (hd : y.cls ≠ "java/lang/invoke/MethodHandle" ∧ y.cls ≠ "java/lang/invoke/VarHandle" ∧ (parseMethodDescriptor y.desc).map (fun d => d.parameters.length) = some n) (hR : rm.frames + 1 ≤ R.frames ∧ 8 + (maxL + 11) + rm.locals ≤ R.locals) :
    vx_CSW R s args own index y bytes maxL ret hh ws rm mc ms n := by
  have ok : ∀ w ∈ va_wsS own index y ws, w.before args s = true := fun w h => ht w (hT w h).1
  have hG : GoodIn Ts ws := fun w h => hT w (by unfold va_wsS; exact List.mem_append_right _ h)
  have hc : Cond.codeWith y bytes maxL ret hh ∈ ws := by rw [hw]; exact List.mem_cons_self
  refine ⟨⟨hrc, hrs, hR.1, hR.2, pay_in ht hG, hc⟩, ht _ (hG _ hc).1, ok _ (by simp [va_wsS]), ⟨hd.1, hd.2.1⟩, fun sig h => ?_, ok _ (by simp [va_wsS]), ok _ (by simp [va_wsS])⟩
  have h2 := hd.2.2
  rw [h] at h2
  exact (Option.some.inj h2).symm
theorem vx_callSW (X : Stand p l e R s m args below meth c T locs cells slots) (hexec : p.tables.exec = Jvm.exec) {own : String} {index : Nat} {y : MethodName} {bytes : ByteArray} {maxL : Nat} {ret : Option FieldType} {hh : List (Nat × Nat × Nat × Nat)}
    (hown : s.vm.findClass own = some m.cls) (hlink : (Cond.methodLink own index y).before args s = true) (hstat : (Cond.static y).before args s = true) (hinit : (Cond.initialized y.cls).before args s = true)
    (hcode : (Cond.codeWith y bytes maxL ret hh).before args s = true) (hy : y.cls ≠ "java/lang/invoke/MethodHandle" ∧ y.cls ≠ "java/lang/invoke/VarHandle")
    {W9 : Nat} {Pre : Pt → Array Value → Prop} {Post : Pt → Array Value → Option Value → Pt → Prop} (hK : Back l R p e below s args y 3 W9 Pre Post)
    {g : JFrame} (hg : g.method = m) (hsize : g.locals.size = c.maxLocals) {argsL rest : List Value} (hlen : ∀ sig, parseMethodDescriptor y.desc = some sig → argsL.length = sig.parameters.length)
    (hstack : g.stack = argsL.reverse ++ rest) (hW : 2 * g.monitorRoom + (rest.map fun v => v.category).sum ≤ W9) (hdg : decode c.code g.pc = .ok (.invokestatic index, 3))
    (hpre : ∀ vm₁, s.WarmedH vm₁ → Pre ⟨T.setVm vm₁, locs, cells, slots⟩ argsL.toArray) :
    ∃ (v : Option Value) (vm₁ : Vm) (B : Pt), s.WarmedH vm₁ ∧ Stand p l e R s m args below meth c B.U B.locs B.cells B.slots ∧ Post ⟨T.setVm vm₁, locs, cells, slots⟩ argsL.toArray v B ∧
      ∀ target, Steps p.tables e below (B.U.setTop { g with pc := g.pc + 3, stack := v.toList ++ rest }) target → Steps p.tables e below (T.setTop g) target := by
  obtain ⟨mk, methM, cM, hnamed, hmethM, -, -, -, -, -, -, hsigM⟩ := Cond.codeWith_spec hcode
  have hstatic : methM.isStatic = true := Cond.static_spec hnamed hmethM hstat
  obtain ⟨kP, hkP, -⟩ := className_of_methodNamed hnamed
  have hinitP : kP.init = .initialized := Cond.initialized_spec (findClass_of_methodNamed hnamed) hkP hinit
  obtain ⟨vm₁, X₁, hstep₁⟩ := X.invokestatic hexec hown hlink hnamed hmethM hstatic hkP hinitP hy (g := g) hg (argsL := argsL) (rest := rest) (hlen _ hsigM) hstack hdg
  obtain ⟨v, B, X', hpost, hsteps⟩ := hK m meth c ⟨T.setVm vm₁, locs, cells, slots⟩ { g with stack := rest } (.invokestatic index) mk argsL.toArray X₁ hg hsize hdg hW (X₁.named hnamed) (hpre vm₁ X₁.warmed)
  exact ⟨v, vm₁, B, X₁.warmed, X', hpost, fun target h => hstep₁ _ fun acts => by rw [doInvoke_state]; exact hsteps.trans h⟩
theorem vx_runSW {y : MethodName} {bytes cc : ByteArray} {maxL nL mc ms n index : Nat} {ret : Option FieldType} {hh : List (Nat × Nat × Nat × Nat)} {ws : List Cond} {rm : Room} {Pc : Array Value → State → Prop} {Qc : Array Value → State → Outcome → State → Prop} {free : Addr → Prop} {Ts : List Cond} {own : String} {As rest : List Value} {g : JFrame}
    (S : CallFix p m c cc nL s args Ts own) (hM : Met l y ws rm Pc Qc mc ms free) (cw : vx_CSW R s args own index y bytes maxL ret hh ws rm mc ms n) (hp : PreS s H Pc As)
    (hg : g.method = m) (hn : As.length = n) (hsize : g.locals.size = nL) (hstack : g.stack = As.reverse ++ rest) (hW : 2 * g.monitorRoom + (rest.map fun v => v.category).sum ≤ 8) (hdg : decode cc g.pc = .ok (.invokestatic index, 3)) (hf : cells + mc ≤ R.cells ∧ slots + ms ≤ R.slots) :
    va_Run p l e R s m args below meth c H locs cells slots mc ms g rest (Qc As.toArray) (free) := by
  obtain ⟨⟨hrc, hrs, hfr, hlo, hws, hcw⟩, hcode, hini, hy, hlen, hl, hstt⟩ := cw
  have hK : Back l R p e below s args y 3 8 (PreOf R mc ms Pc) (PostOf Qc mc ms free) := va_backW (hh := hh) (bytes := bytes) (maxL := maxL) (ret := ret) hM hp.1 hrc hrs hfr hlo hws hcw (fun a' U hW => word_at hW (Or.inl (by first | rfl | simp [Cond.onTables, Cond.keeps, Cond.steady])) hini)
  obtain ⟨hx, hb, hml, ho, -⟩ := S
  intro T hT X
  obtain ⟨v, vm₁, ⟨U', l2, c2, s2⟩, hW₁, X', ⟨g', mk, t, L, e1, e2, hq, h1, hL, h2, h3⟩, st⟩ := vx_callSW X hx (hh := hh) (bytes := bytes) (maxL := maxL) (ret := ret) ho hl hstt hini hcode hy hK hg (hsize.trans hml.symm) (argsL := As) (rest := rest) (fun sig h => hn.trans (hlen sig h)) hstack hW (by rw [hb]; exact hdg)
    (fun vm₁ hW₁ => ⟨hf.1, hf.2, hp.2 (T.setVm vm₁) hT hW₁⟩)
  dsimp only [Pt.U, Pt.locs, Pt.cells, Pt.slots] at X' e1 e2 h1 h2 h3 st
  subst h1; subst h2; subst h3
  exact ⟨v, (T.setVm vm₁).calling g' mk As.toArray, t, U', L, hT, X', hL, e1, e2, hq, st⟩
/-- not caught here, past rows that name other classes: it goes on to the caller -/
theorem vx_outP {p : Program} {l : Launch} {e : Env} {R : Room} {s : State} {m : MethodId} {args : Array Value} {below : List Frame} {meth : Method} {c : Code} {H : Heap} {locs : List Loc} {cells slots : Nat} {free : Addr → Prop} {ls : Array Slot} {rest : List Value} {Qc : Array Value → State → Outcome → State → Prop} {XC : String → State → State → Prop}
    {pc : Nat} {own E : String} {ce : Cell} {q : Addr} {mc ms : Nat} (hown : s.vm.findClass own = some m.cls) (hlocks : meth.locks = false)
    (hpass : ∀ z ∈ c.exceptionTable.toList, covers z pc = false ∨ (z.catchType ≠ 0 ∧ ∃ nm : String, (Cond.classLink own z.catchType nm).before args s = true ∧ va_Nc E nm s)) (hcell : H[q]? = some ce) (hv : ce.vm = .none) (hcl : s.vm.findClass E = some ce.cls)
    (hx : ∀ t : State, t.heap = H → s.vm.Alike t.vm → XC E s t) (hf : ∀ z ∈ locs, free z.base) (hc : cells ≤ mc) (hs : slots ≤ ms) :
    vx_W p l e R s m args below meth c H locs cells slots (vx_MQ below Qc XC args s mc ms free) (F0 m pc ls rest) q := by
  intro T hT X
  have hpl : e.platform.magicAccessors = ({} : Platform).magicAccessors := by rw [X.admits.platform]
  obtain ⟨vm', hW', X', st⟩ := X.outThrough hlocks q (g := F0 m pc ls rest) rfl rfl rfl (cell := ce) (by rw [hT]; exact hcell) (by rw [hv]; rfl)
    (by obtain ⟨k9, h9, -⟩ := Vm.findClass_spec hcl; exact ⟨k9, h9⟩) (fun z hz => by
      rcases hpass z hz with h | ⟨hz0, nm, hl1, hn1⟩
      · exact Or.inl h
      · obtain ⟨c6, hc6, hcl6⟩ := Cond.classLink_spec hown hl1 e.platform hpl
        obtain ⟨a8, b8, h1, h2, h3⟩ := hn1
        cases Option.some.inj (h1.symm.trans hcl)
        cases Option.some.inj (h2.symm.trans hc6)
        exact Or.inr ⟨hz0, _, hcl6, h3⟩)
  obtain ⟨g₀, hfr⟩ := X'.frames_eq
  have hcell9 : ((T.setVm vm').setFrames (.throwing q :: below)).heap[q]? = some ce := by
    show T.heap[q]? = some ce
    rw [hT]; exact hcell
  have hend : Ended ((T.setVm vm').setFrames (.throwing q :: below)) below (.threw q) := State.frames_setFrames _ (State.cur_lt_of_frames hfr)
  refine ⟨(T.setVm vm').setFrames (.throwing q :: below), ?_, .threw q, X'.here.running, hend, Or.inr ⟨q, rfl, E, ce, locs, hx _ hT (X'.ends _).1.alike, hcell9, hv, hcl, (X'.ends _).1, (X'.ends _).2.mono hc hs, hf⟩⟩
  rw [X.pushThrowing_eq]
  exact st
/-- a thing of a world lies in the heap -/
theorem vx_lt {D : va_G} {cl : List vw_C} {ws : va_W} {H1 : Heap} (h : va_P D cl ws H1) {k : Nat} {q : Nat × va_E} (hk : ws[k]? = some q) : q.1 < H1.size := (h k q hk).lt
end VXS
/-! ===== END ===== -/
/-! ===== BEGIN methods with a table of their own: called by a name, returning or throwing ===== -/
section VXH
/-! vx_backW, vx_callVX, vx_callSX, vx_callVW, vx_runVW, vx_runVX, vx_runSX, vx_ofWH follow the same proofs as their sisters above (Free/Laws.lean, Shelf42/LK1.lean); vx_outP calls Shelf42/NT130.lean (outThrough). -/
section
variable {l : Launch} {R : Room} {p : Program} {e : Env} {below : List Frame} {s : State} {sargs : Array Value} {y : MethodName} {len W9 : Nat}
theorem vx_backW {ws : List Cond} {rm : Room} {Pc : Array Value → State → Prop} {Qc : Array Value → State → Outcome → State → Prop} {XC : String → State → State → Prop} {mc ms : Nat} {free : Addr → Prop} {bytes : ByteArray} {maxL : Nat} {ret : Option FieldType} {hh : List (Nat × Nat × Nat × Nat)}
    (hM : vx_Met l y ws rm Pc Qc XC mc ms free) (hblind : FrameBlind Pc) (hrc : rm.cells = mc) (hrs : rm.slots = ms)
    (hframes : rm.frames + 1 ≤ R.frames) (hlocals : W9 + (maxL + 11) + rm.locals ≤ R.locals)
    (hws : ∀ w ∈ ws, ∀ a' U, s.WarmedH U.vm → w.before a' U = true) (hcode : Cond.codeWith y bytes maxL ret hh ∈ ws) (hinit : ∀ a' U, s.WarmedH U.vm → (Cond.initialized y.cls).before a' U = true) :
    vx_Back l R p e below s sargs y len W9 (PreOf R mc ms Pc) (PostOf Qc mc ms free) (vx_Post XC mc ms free) := by
  intro m meth c A g ig mk a X hg hsize hdg hW hn hp
  have h1 : (headSpec ws rm).pre.before a A.U = true := atoms_intro fun w hw => hws w hw _ _ X.warmed
  have h2 : (Cond.codeWith y bytes maxL ret hh).before a A.U = true := hws _ hcode _ _ X.warmed
  have h3 : (Cond.initialized y.cls).before a A.U = true := hinit _ _ X.warmed
  have h4 : A.cells + (headSpec ws rm).room.cells ≤ R.cells := by rw [show (headSpec ws rm).room.cells = mc from hrc]; exact hp.1
  have h5 : A.slots + (headSpec ws rm).room.slots ≤ R.slots := by rw [show (headSpec ws rm).room.slots = ms from hrs]; exact hp.2.1
  have hPc : Pc a (A.U.calling g mk a) := hblind _ _ _ _ hp.2.2
  obtain ⟨U, Ls, c0, s0⟩ := A
  dsimp only [Pt.U, Pt.locs, Pt.cells, Pt.slots] at h1 h2 h3 h4 h5 X hn hPc ⊢
  obtain ⟨m9, methY, cY, hn9, hmY, hcY, -, hlY, -⟩ := Cond.codeWith_spec h2
  cases Option.some.inj (hn9.symm.trans hn)
  obtain ⟨kY, hkY, -⟩ := className_of_methodNamed hn
  have hinitY : kY.init = .initialized := Cond.initialized_spec (findClass_of_methodNamed hn) hkY h3
  have h : At U g.method c below := by rw [hg]; exact X.here
  have hlocals9 : W9 + (maxL + 11) + (headSpec ws rm).room.locals ≤ R.locals := hlocals
  have happ : (headSpec ws rm).appliesLoose y e.platform (U.calling g mk a) = true :=
    Spec.appliesLoose_calling (g := g) h hdg hn hkY hinitY
      (X.room_calling (g := g) (R' := (headSpec ws rm).room) hsize hmY hcY hframes (by rw [hlY]; omega) h4 h5) h1
  obtain ⟨mid, hmid⟩ := h.above
  have hfr : (U.setTop g).frames = (.java g :: mid) ++ below := by rw [State.frames_setTop' g h.top, hmid]; rfl
  obtain ⟨o, s₂, hsteps, -, hend, hq⟩ := Steps.callFree hM p X.admits X.cas X.clock (acts := []) hfr happ hPc trivial
  have hq' : vx_Q Qc XC mc ms free a (U.calling g mk a) o s₂ := hq
  rw [State.frames_setTop' g h.top] at hend
  obtain ⟨g₀, hg0⟩ := Option.isSome_iff_exists.mp h.top
  obtain ⟨r, hr⟩ := State.topJava?_eq_some.mp hg0
  have hr' : (({ U with heap := s₂.heap, slotsUsed := s₂.slotsUsed } : State).setVm s₂.vm).frames = .java g₀ :: r := hr
  rcases hq' with ⟨hqc, L, hfe, hL⟩ | ⟨q, rfl, E, ce, L, hx, hce, hcv, hcl, hW₂, hsm, hL⟩
  · obtain ⟨⟨v, rfl⟩, hW₂, e2, q2, q3, q4, q5, q6⟩ := id hfe
    have e3 : s₂ = ({ (U.calling g mk a).setFrames s₂.frames with heap := s₂.heap, slotsUsed := s₂.slotsUsed } : State).setVm s₂.vm := by
      have : s₂ = ({ s₂ with vm := (U.calling g mk a).vm } : State).setVm s₂.vm := rfl
      rw [e2] at this
      exact this
    obtain ⟨c₂, i₂, len₂, hc₂, hd₂, hf₂⟩ := hend
    have hW' : U.WarmedH s₂.vm := hW₂
    have hcc : c₂ = c := by
      have h1 : s₂.code? g.method = U.code? g.method := by
        rw [State.code?_eq, State.code?_eq, hW'.alike.method?]
      exact Option.some.inj (hc₂.symm.trans (h1.trans h.code))
    subst hcc
    have hlen : len₂ = len := by rw [hdg] at hd₂; cases hd₂; rfl
    subst hlen
    have hs₂ : s₂ = (({ U with heap := s₂.heap, slotsUsed := s₂.slotsUsed } : State).setVm s₂.vm).setTop { g with pc := g.pc + len₂, stack := v.toList ++ g.stack } := by
      refine e3.trans ?_
      rw [hf₂, State.calling_eq h.top, State.setFrames_setFrames, State.setTop_of_frames _ hr', hr]
      rfl
    have hsame : U.sameButNew ({ U with heap := s₂.heap, slotsUsed := s₂.slotsUsed } : State) L mc ms := by
      refine ⟨?_, q2, q3, q4, q5, q6⟩
      obtain ⟨t, ht, -⟩ := State.frames_cons hr
      show ({ U with heap := s₂.heap, slotsUsed := s₂.slotsUsed } : State) = { U.setFrames U.frames with heap := s₂.heap, slotsUsed := s₂.slotsUsed }
      rw [State.setFrames_self ht]
    subst hg
    refine Or.inl ⟨v, ⟨(({ U with heap := s₂.heap, slotsUsed := s₂.slotsUsed } : State).setVm s₂.vm), Ls ++ L, c0 + mc, s0 + ms⟩,
      ⟨X.admits, X.cas, X.clock, X.frames, X.room, X.hears, X.method, X.code, (X.here.setHeapUsed s₂.heap s₂.slotsUsed).setVm hW'.alike, X.tail, State.WarmedH.trans X.warmed hW', X.limits, X.bytes, X.same.trans (hsame.setVm s.vm)⟩,
      ⟨g, mk, s₂, L, rfl, rfl, hqc, rfl, hL, rfl, rfl⟩, ?_⟩
    show Steps p.tables e below _ ((({ U with heap := s₂.heap, slotsUsed := s₂.slotsUsed } : State).setVm s₂.vm).setTop { g with pc := g.pc + len₂, stack := v.toList ++ g.stack })
    rw [← hs₂]
    exact hsteps
  · obtain ⟨e2, q2, q3, q4, q5, q6⟩ := id hsm
    have e3 : s₂ = ({ (U.calling g mk a).setFrames s₂.frames with heap := s₂.heap, slotsUsed := s₂.slotsUsed } : State).setVm s₂.vm := by
      have : s₂ = ({ s₂ with vm := (U.calling g mk a).vm } : State).setVm s₂.vm := rfl
      rw [e2] at this
      exact this
    have hf₂ : s₂.frames = .throwing q :: .java g :: U.frames.tail := hend
    have hW' : U.WarmedH s₂.vm := hW₂
    have hs₂ : s₂ = ((({ U with heap := s₂.heap, slotsUsed := s₂.slotsUsed } : State).setVm s₂.vm).setTop g).pushFrame (.throwing q) := by
      refine e3.trans ?_
      rw [hf₂, State.calling_eq h.top, State.setFrames_setFrames, State.pushFrame, State.frames_setTop _ hr', State.setTop_of_frames _ hr', State.setFrames_setFrames, hr]
      rfl
    have hsame : U.sameButNew ({ U with heap := s₂.heap, slotsUsed := s₂.slotsUsed } : State) L mc ms := by
      refine ⟨?_, q2, q3, q4, q5, q6⟩
      obtain ⟨t, ht, -⟩ := State.frames_cons hr
      show ({ U with heap := s₂.heap, slotsUsed := s₂.slotsUsed } : State) = { U.setFrames U.frames with heap := s₂.heap, slotsUsed := s₂.slotsUsed }
      rw [State.setFrames_self ht]
    subst hg
    refine Or.inr ⟨q, ⟨(({ U with heap := s₂.heap, slotsUsed := s₂.slotsUsed } : State).setVm s₂.vm), Ls ++ L, c0 + mc, s0 + ms⟩,
      ⟨X.admits, X.cas, X.clock, X.frames, X.room, X.hears, X.method, X.code, (X.here.setHeapUsed s₂.heap s₂.slotsUsed).setVm hW'.alike, X.tail, State.WarmedH.trans X.warmed hW', X.limits, X.bytes, X.same.trans (hsame.setVm s.vm)⟩,
      ⟨g, mk, s₂, L, E, ce, rfl, rfl, hx, hce, hcv, hcl, rfl, hL, rfl, rfl⟩, ?_⟩
    show Steps p.tables e below _ (((({ U with heap := s₂.heap, slotsUsed := s₂.slotsUsed } : State).setVm s₂.vm).setTop g).pushFrame (.throwing q))
    rw [← hs₂]
    exact hsteps
end
variable {p : Program} {l : Launch} {e : Env} {R : Room} {s : State} {m : MethodId} {args : Array Value} {below : List Frame} {meth : Method} {c : Code} {T : State} {H : Heap} {locs : List Loc} {cells slots : Nat}
theorem vx_callVX (X : Stand p l e R s m args below meth c T locs cells slots) (hexec : p.tables.exec = Jvm.exec) {own C : String} {index : Nat} {y : MethodName} {bytes : ByteArray} {maxL : Nat} {ret : Option FieldType} {hh : List (Nat × Nat × Nat × Nat)}
    (hown : s.vm.findClass own = some m.cls) (hlink : (Cond.methodLink own index y).before args s = true) (hinst : (Cond.instanceMethod y).before args s = true) (hsel : (Cond.selects C y y).before args s = true)
    (hcode : (Cond.codeWith y bytes maxL ret hh).before args s = true) (hy : y.cls ≠ "java/lang/invoke/MethodHandle" ∧ y.cls ≠ "java/lang/invoke/VarHandle")
    {W9 : Nat} {Pre : Pt → Array Value → Prop} {Post : Pt → Array Value → Option Value → Pt → Prop} {PostX : Pt → Array Value → Addr → Pt → Prop} (hK : vx_Back l R p e below s args y 3 W9 Pre Post PostX)
    {b : Addr} {cellB : Cell} (hcell : T.heap[b]? = some cellB) (hobj : cellB.vm.isStatics = false) (hcls : s.vm.findClass C = some cellB.cls)
    {g : JFrame} (hg : g.method = m) (hsize : g.locals.size = c.maxLocals) {argsL rest : List Value} (hlen : ∀ sig, parseMethodDescriptor y.desc = some sig → argsL.length = sig.parameters.length)
    (hstack : g.stack = argsL.reverse ++ .ref b :: rest) (hW : 2 * g.monitorRoom + (rest.map fun v => v.category).sum ≤ W9) (hdg : decode c.code g.pc = .ok (.invokevirtual index, 3))
    (hpre : ∀ vm₁, s.WarmedH vm₁ → Pre ⟨T.setVm vm₁, locs, cells, slots⟩ (Value.ref b :: argsL).toArray) :
    (∃ (v : Option Value) (vm₁ : Vm) (B : Pt), s.WarmedH vm₁ ∧ Stand p l e R s m args below meth c B.U B.locs B.cells B.slots ∧ Post ⟨T.setVm vm₁, locs, cells, slots⟩ (Value.ref b :: argsL).toArray v B ∧
      ∀ target, Steps p.tables e below (B.U.setTop { g with pc := g.pc + 3, stack := v.toList ++ rest }) target → Steps p.tables e below (T.setTop g) target) ∨
    (∃ (q : Addr) (vm₁ : Vm) (B : Pt), s.WarmedH vm₁ ∧ Stand p l e R s m args below meth c B.U B.locs B.cells B.slots ∧ PostX ⟨T.setVm vm₁, locs, cells, slots⟩ (Value.ref b :: argsL).toArray q B ∧
      Steps p.tables e below (T.setTop g) ((B.U.setTop { g with stack := rest }).pushFrame (.throwing q))) := by
  obtain ⟨mk, methM, hnamed, hmethM, hstM, habM⟩ := Cond.instanceMethod_spec hinst
  obtain ⟨m8, methM', cM, hn8, hmethM', -, -, -, -, -, -, hsigM⟩ := Cond.codeWith_spec hcode
  cases Option.some.inj (hn8.symm.trans hnamed)
  cases hmethM.symm.trans hmethM'
  obtain ⟨c2, r2, m2, q1, q2, q3, q4, kP, hkP, hkPi⟩ := Cond.selects_spec hsel
  cases hcls.symm.trans q1
  cases (State.methodFound?_of_named hnamed hy).symm.trans q2
  cases hnamed.symm.trans q3
  have hselP : selectMethod e.platform s.vm cellB.cls mk = .method mk := by rw [Launch.admits_selectMethod X.admits]; exact q4
  obtain ⟨vm₁, X₁, hstep₁⟩ := X.invokevirtual hexec hown hlink hnamed hmethM hstM hkP hkPi hy (a := b) (cell := cellB) hcell
    (fun z h => by rw [h] at hobj; cases hobj) hselP hmethM habM hkP hkPi (g := g) hg (argsL := argsL) (rest := rest) (hlen _ hsigM) hstack hdg
  rcases hK m meth c ⟨T.setVm vm₁, locs, cells, slots⟩ { g with stack := rest } (.invokevirtual index) mk (Value.ref b :: argsL).toArray X₁ hg hsize hdg hW (X₁.named hnamed) (hpre vm₁ X₁.warmed) with ⟨v, B, X', hpost, hsteps⟩ | ⟨q, B, X', hpost, hsteps⟩
  · exact Or.inl ⟨v, vm₁, B, X₁.warmed, X', hpost, fun target h => hstep₁ _ fun acts => by rw [doInvoke_state]; exact hsteps.trans h⟩
  · exact Or.inr ⟨q, vm₁, B, X₁.warmed, X', hpost, hstep₁ _ fun acts => by rw [doInvoke_state]; exact hsteps⟩
theorem vx_callSX (X : Stand p l e R s m args below meth c T locs cells slots) (hexec : p.tables.exec = Jvm.exec) {own : String} {index : Nat} {y : MethodName} {bytes : ByteArray} {maxL : Nat} {ret : Option FieldType} {hh : List (Nat × Nat × Nat × Nat)}
    (hown : s.vm.findClass own = some m.cls) (hlink : (Cond.methodLink own index y).before args s = true) (hstat : (Cond.static y).before args s = true) (hinit : (Cond.initialized y.cls).before args s = true)
    (hcode : (Cond.codeWith y bytes maxL ret hh).before args s = true) (hy : y.cls ≠ "java/lang/invoke/MethodHandle" ∧ y.cls ≠ "java/lang/invoke/VarHandle")
    {W9 : Nat} {Pre : Pt → Array Value → Prop} {Post : Pt → Array Value → Option Value → Pt → Prop} {PostX : Pt → Array Value → Addr → Pt → Prop} (hK : vx_Back l R p e below s args y 3 W9 Pre Post PostX)
    {g : JFrame} (hg : g.method = m) (hsize : g.locals.size = c.maxLocals) {argsL rest : List Value} (hlen : ∀ sig, parseMethodDescriptor y.desc = some sig → argsL.length = sig.parameters.length)
    (hstack : g.stack = argsL.reverse ++ rest) (hW : 2 * g.monitorRoom + (rest.map fun v => v.category).sum ≤ W9) (hdg : decode c.code g.pc = .ok (.invokestatic index, 3))
    (hpre : ∀ vm₁, s.WarmedH vm₁ → Pre ⟨T.setVm vm₁, locs, cells, slots⟩ argsL.toArray) :
    (∃ (v : Option Value) (vm₁ : Vm) (B : Pt), s.WarmedH vm₁ ∧ Stand p l e R s m args below meth c B.U B.locs B.cells B.slots ∧ Post ⟨T.setVm vm₁, locs, cells, slots⟩ argsL.toArray v B ∧
      ∀ target, Steps p.tables e below (B.U.setTop { g with pc := g.pc + 3, stack := v.toList ++ rest }) target → Steps p.tables e below (T.setTop g) target) ∨
    (∃ (q : Addr) (vm₁ : Vm) (B : Pt), s.WarmedH vm₁ ∧ Stand p l e R s m args below meth c B.U B.locs B.cells B.slots ∧ PostX ⟨T.setVm vm₁, locs, cells, slots⟩ argsL.toArray q B ∧
      Steps p.tables e below (T.setTop g) ((B.U.setTop { g with stack := rest }).pushFrame (.throwing q))) := by
  obtain ⟨mk, methM, cM, hnamed, hmethM, -, -, -, -, -, -, hsigM⟩ := Cond.codeWith_spec hcode
  have hstatic : methM.isStatic = true := Cond.static_spec hnamed hmethM hstat
  obtain ⟨kP, hkP, -⟩ := className_of_methodNamed hnamed
  have hinitP : kP.init = .initialized := Cond.initialized_spec (findClass_of_methodNamed hnamed) hkP hinit
  obtain ⟨vm₁, X₁, hstep₁⟩ := X.invokestatic hexec hown hlink hnamed hmethM hstatic hkP hinitP hy (g := g) hg (argsL := argsL) (rest := rest) (hlen _ hsigM) hstack hdg
  rcases hK m meth c ⟨T.setVm vm₁, locs, cells, slots⟩ { g with stack := rest } (.invokestatic index) mk argsL.toArray X₁ hg hsize hdg hW (X₁.named hnamed) (hpre vm₁ X₁.warmed) with ⟨v, B, X', hpost, hsteps⟩ | ⟨q, B, X', hpost, hsteps⟩
  · exact Or.inl ⟨v, vm₁, B, X₁.warmed, X', hpost, fun target h => hstep₁ _ fun acts => by rw [doInvoke_state]; exact hsteps.trans h⟩
  · exact Or.inr ⟨q, vm₁, B, X₁.warmed, X', hpost, hstep₁ _ fun acts => by rw [doInvoke_state]; exact hsteps⟩
theorem vx_callVW (X : Stand p l e R s m args below meth c T locs cells slots) (hexec : p.tables.exec = Jvm.exec) {own C : String} {index : Nat} {y : MethodName} {bytes : ByteArray} {maxL : Nat} {ret : Option FieldType} {hh : List (Nat × Nat × Nat × Nat)}
    (hown : s.vm.findClass own = some m.cls) (hlink : (Cond.methodLink own index y).before args s = true) (hinst : (Cond.instanceMethod y).before args s = true) (hsel : (Cond.selects C y y).before args s = true)
    (hcode : (Cond.codeWith y bytes maxL ret hh).before args s = true) (hy : y.cls ≠ "java/lang/invoke/MethodHandle" ∧ y.cls ≠ "java/lang/invoke/VarHandle")
    {W9 : Nat} {Pre : Pt → Array Value → Prop} {Post : Pt → Array Value → Option Value → Pt → Prop} (hK : Back l R p e below s args y 3 W9 Pre Post)
    {b : Addr} {cellB : Cell} (hcell : T.heap[b]? = some cellB) (hobj : cellB.vm.isStatics = false) (hcls : s.vm.findClass C = some cellB.cls)
    {g : JFrame} (hg : g.method = m) (hsize : g.locals.size = c.maxLocals) {argsL rest : List Value} (hlen : ∀ sig, parseMethodDescriptor y.desc = some sig → argsL.length = sig.parameters.length)
    (hstack : g.stack = argsL.reverse ++ .ref b :: rest) (hW : 2 * g.monitorRoom + (rest.map fun v => v.category).sum ≤ W9) (hdg : decode c.code g.pc = .ok (.invokevirtual index, 3))
    (hpre : ∀ vm₁, s.WarmedH vm₁ → Pre ⟨T.setVm vm₁, locs, cells, slots⟩ (Value.ref b :: argsL).toArray) :
    ∃ (v : Option Value) (vm₁ : Vm) (B : Pt), s.WarmedH vm₁ ∧ Stand p l e R s m args below meth c B.U B.locs B.cells B.slots ∧ Post ⟨T.setVm vm₁, locs, cells, slots⟩ (Value.ref b :: argsL).toArray v B ∧
      ∀ target, Steps p.tables e below (B.U.setTop { g with pc := g.pc + 3, stack := v.toList ++ rest }) target → Steps p.tables e below (T.setTop g) target := by
  obtain ⟨mk, methM, hnamed, hmethM, hstM, habM⟩ := Cond.instanceMethod_spec hinst
  obtain ⟨m8, methM', cM, hn8, hmethM', -, -, -, -, -, -, hsigM⟩ := Cond.codeWith_spec hcode
  cases Option.some.inj (hn8.symm.trans hnamed)
  cases hmethM.symm.trans hmethM'
  obtain ⟨c2, r2, m2, q1, q2, q3, q4, kP, hkP, hkPi⟩ := Cond.selects_spec hsel
  cases hcls.symm.trans q1
  cases (State.methodFound?_of_named hnamed hy).symm.trans q2
  cases hnamed.symm.trans q3
  have hselP : selectMethod e.platform s.vm cellB.cls mk = .method mk := by rw [Launch.admits_selectMethod X.admits]; exact q4
  obtain ⟨vm₁, X₁, hstep₁⟩ := X.invokevirtual hexec hown hlink hnamed hmethM hstM hkP hkPi hy (a := b) (cell := cellB) hcell
    (fun z h => by rw [h] at hobj; cases hobj) hselP hmethM habM hkP hkPi (g := g) hg (argsL := argsL) (rest := rest) (hlen _ hsigM) hstack hdg
  obtain ⟨v, B, X', hpost, hsteps⟩ := hK m meth c ⟨T.setVm vm₁, locs, cells, slots⟩ { g with stack := rest } (.invokevirtual index) mk (Value.ref b :: argsL).toArray X₁ hg hsize hdg hW (X₁.named hnamed) (hpre vm₁ X₁.warmed)
  exact ⟨v, vm₁, B, X₁.warmed, X', hpost, fun target h => hstep₁ _ fun acts => by rw [doInvoke_state]; exact hsteps.trans h⟩
abbrev vx_CVW (R : Room) (s : State) (args : Array Value) (own C : String) (index : Nat) (y : MethodName) (bytes : ByteArray) (maxL : Nat) (ret : Option FieldType) (hh : List (Nat × Nat × Nat × Nat)) (ws : List Cond) (rm : Room) (mc ms n : Nat) : Prop :=
  (rm.cells = mc ∧ rm.slots = ms ∧ rm.frames + 1 ≤ R.frames ∧ 8 + (maxL + 11) + rm.locals ≤ R.locals ∧ (∀ w ∈ ws, ∀ (a' : Array Value) (U : State), s.WarmedH U.vm → w.before a' U = true) ∧ Cond.codeWith y bytes maxL ret hh ∈ ws) ∧
  (Cond.codeWith y bytes maxL ret hh).before args s = true ∧ (Cond.initialized y.cls).before args s = true ∧ (y.cls ≠ "java/lang/invoke/MethodHandle" ∧ y.cls ≠ "java/lang/invoke/VarHandle") ∧
  (∀ sig, parseMethodDescriptor y.desc = some sig → n = sig.parameters.length) ∧ (Cond.methodLink own index y).before args s = true ∧ (Cond.instanceMethod y).before args s = true ∧ (Cond.selects C y y).before args s = true
theorem vx_cwVW {own C : String} {index maxL mc ms : Nat} {y : MethodName} {bytes : ByteArray} {ret : Option FieldType} {hh : List (Nat × Nat × Nat × Nat)} {Ts ws ws' : List Cond} {rm : Room} (n : Nat) (ht : ∀ w ∈ Ts, w.before args s = true) (hT : GoodIn Ts (wsV own index C y ws)) (hw : ws = Cond.codeWith y bytes maxL ret hh :: ws') (hrc : rm.cells = mc) (hrs : rm.slots = ms)
    (hd : y.cls = C ∧ y.cls ≠ "java/lang/invoke/MethodHandle" ∧ y.cls ≠ "java/lang/invoke/VarHandle" ∧ (parseMethodDescriptor y.desc).map (fun d => d.parameters.length) = some n) (hR : rm.frames + 1 ≤ R.frames ∧ 8 + (maxL + 11) + rm.locals ≤ R.locals) :
    vx_CVW R s args own C index y bytes maxL ret hh ws rm mc ms n := by
  obtain ⟨hC, hd⟩ := hd
  subst hC
  have ok : ∀ w ∈ wsV own index y.cls y ws, w.before args s = true := fun w h => ht w (hT w h).1
  have hG : GoodIn Ts ws := fun w h => hT w (by unfold wsV; exact List.mem_append_right _ h)
  have hc : Cond.codeWith y bytes maxL ret hh ∈ ws := by rw [hw]; exact List.mem_cons_self
  refine ⟨⟨hrc, hrs, hR.1, hR.2, pay_in ht hG, hc⟩, ht _ (hG _ hc).1, ok _ (by simp [wsV]), ⟨hd.1, hd.2.1⟩, fun sig h => ?_, ok _ (by simp [wsV]), ok _ (by simp [wsV]), ok _ (by simp [wsV])⟩
  have h2 := hd.2.2
  rw [h] at h2
  exact (Option.some.inj h2).symm
theorem vx_runVW {y : MethodName} {bytes cc : ByteArray} {maxL nL mc ms n index : Nat} {ret : Option FieldType} {hh : List (Nat × Nat × Nat × Nat)} {ws : List Cond} {rm : Room} {Pc : Array Value → State → Prop} {Qc : Array Value → State → Outcome → State → Prop} {free : Addr → Prop} {Ts : List Cond} {own C : String} {b : Addr} {As rest : List Value} {g : JFrame}
    (S : CallFix p m c cc nL s args Ts own) (hM : Met l y ws rm Pc Qc mc ms free) (cw : vx_CVW R s args own C index y bytes maxL ret hh ws rm mc ms n) (hp : PreV s H C b Pc As)
    (hg : g.method = m) (hn : As.length = n) (hsize : g.locals.size = nL) (hstack : g.stack = As.reverse ++ .ref b :: rest) (hW : 2 * g.monitorRoom + (rest.map fun v => v.category).sum ≤ 8) (hdg : decode cc g.pc = .ok (.invokevirtual index, 3)) (hf : cells + mc ≤ R.cells ∧ slots + ms ≤ R.slots) :
    va_Run p l e R s m args below meth c H locs cells slots mc ms g rest (Qc (Value.ref b :: As).toArray) free := by
  obtain ⟨⟨hrc, hrs, hfr, hlo, hws, hcw⟩, hcode, hini, hy, hlen, hl, hin, hse⟩ := cw
  have hK : Back l R p e below s args y 3 8 (PreOf R mc ms Pc) (PostOf Qc mc ms free) := va_backW (hh := hh) (bytes := bytes) (maxL := maxL) (ret := ret) hM hp.1 hrc hrs hfr hlo hws hcw (fun a' U hW => word_at hW (Or.inl (by first | rfl | simp [Cond.onTables, Cond.keeps, Cond.steady])) hini)
  obtain ⟨hx, hb, hml, ho, -⟩ := S
  obtain ⟨-, ⟨cellB, hcB, hoB, hclB⟩, hPc⟩ := hp
  intro T hT X
  obtain ⟨v, vm₁, ⟨U', l2, c2, s2⟩, hW₁, X', ⟨g', mk, t, L, e1, e2, hq, h1, hL, h2, h3⟩, st⟩ := vx_callVW X hx (C := C) (hh := hh) (bytes := bytes) (maxL := maxL) (ret := ret) ho hl hin hse hcode hy hK (by rw [hT]; exact hcB) hoB hclB hg (hsize.trans hml.symm) (argsL := As) (rest := rest) (fun sig h => hn.trans (hlen sig h)) hstack hW (by rw [hb]; exact hdg)
    (fun vm₁ hW₁ => ⟨hf.1, hf.2, hPc (T.setVm vm₁) hT hW₁⟩)
  dsimp only [Pt.U, Pt.locs, Pt.cells, Pt.slots] at X' e1 e2 h1 h2 h3 st
  subst h1; subst h2; subst h3
  exact ⟨v, (T.setVm vm₁).calling g' mk (Value.ref b :: As).toArray, t, U', L, hT, X', hL, e1, e2, hq, st⟩
section
variable {y : MethodName} {bytes cc : ByteArray} {maxL nL mc ms n index : Nat} {ret : Option FieldType} {ws : List Cond} {rm : Room} {Pc : Array Value → State → Prop} {Qc : Array Value → State → Outcome → State → Prop} {XC : String → State → State → Prop} {free : Addr → Prop} {Ts : List Cond} {own C : String} {b : Addr} {As rest : List Value} {g : JFrame}
theorem vx_runVX {hh : List (Nat × Nat × Nat × Nat)} (S : CallFix p m c cc nL s args Ts own) (hM : vx_Met l y ws rm Pc Qc XC mc ms free) (cw : vx_CVW R s args own C index y bytes maxL ret hh ws rm mc ms n) (hp : PreV s H C b Pc As)
    (hg : g.method = m) (hn : As.length = n) (hsize : g.locals.size = nL) (hstack : g.stack = As.reverse ++ .ref b :: rest) (hW : 2 * g.monitorRoom + (rest.map fun v => v.category).sum ≤ 8) (hdg : decode cc g.pc = .ok (.invokevirtual index, 3)) (hf : cells + mc ≤ R.cells ∧ slots + ms ≤ R.slots) :
    vx_Run p l e R s m args below meth c H locs cells slots mc ms g rest (Qc (Value.ref b :: As).toArray) XC free := by
  obtain ⟨⟨hrc, hrs, hfr, hlo, hws, hcw⟩, hcode, hini, hy, hlen, hl, hin, hse⟩ := cw
  have hK : vx_Back l R p e below s args y 3 8 (PreOf R mc ms Pc) (PostOf Qc mc ms free) (vx_Post XC mc ms free) := vx_backW (hh := hh) (bytes := bytes) (maxL := maxL) (ret := ret) hM hp.1 hrc hrs hfr hlo hws hcw (fun a' U hW => word_at hW (Or.inl (by first | rfl | simp [Cond.onTables, Cond.keeps, Cond.steady])) hini)
  obtain ⟨hx, hb, hml, ho, -⟩ := S
  obtain ⟨-, ⟨cellB, hcB, hoB, hclB⟩, hPc⟩ := hp
  intro T hT X
  rcases vx_callVX X hx (C := C) (hh := hh) (bytes := bytes) (maxL := maxL) (ret := ret) ho hl hin hse hcode hy hK (by rw [hT]; exact hcB) hoB hclB hg (hsize.trans hml.symm) (argsL := As) (rest := rest) (fun sig h => hn.trans (hlen sig h)) hstack hW (by rw [hb]; exact hdg)
    (fun vm₁ hW₁ => ⟨hf.1, hf.2, hPc (T.setVm vm₁) hT hW₁⟩) with ⟨v, vm₁, ⟨U', l2, c2, s2⟩, hW₁, X', ⟨g', mk, t, L, e1, e2, hq, h1, hL, h2, h3⟩, st⟩ | ⟨q, vm₁, ⟨U', l2, c2, s2⟩, hW₁, X', ⟨g', mk, t, L, E, ce, e1, e2, hq, hce, hcv, hcl, h1, hL, h2, h3⟩, st⟩
  · dsimp only [Pt.U, Pt.locs, Pt.cells, Pt.slots] at X' e1 e2 h1 h2 h3 st
    subst h1; subst h2; subst h3
    exact Or.inl ⟨v, (T.setVm vm₁).calling g' mk (Value.ref b :: As).toArray, t, U', L, hT, X', hL, e1, e2, hq, st⟩
  · dsimp only [Pt.U, Pt.locs, Pt.cells, Pt.slots] at X' e1 e2 h1 h2 h3 st hcl
    subst h1; subst h2; subst h3
    exact Or.inr ⟨q, (T.setVm vm₁).calling g' mk (Value.ref b :: As).toArray, t, U', L, E, ce, hT, X', hL, e1, e2, hq, hce, hcv, vx_cls hW₁ hcl, st⟩
theorem vx_runSX {hh : List (Nat × Nat × Nat × Nat)} (S : CallFix p m c cc nL s args Ts own) (hM : vx_Met l y ws rm Pc Qc XC mc ms free) (cw : vx_CSW R s args own index y bytes maxL ret hh ws rm mc ms n) (hp : PreS s H Pc As)
    (hg : g.method = m) (hn : As.length = n) (hsize : g.locals.size = nL) (hstack : g.stack = As.reverse ++ rest) (hW : 2 * g.monitorRoom + (rest.map fun v => v.category).sum ≤ 8) (hdg : decode cc g.pc = .ok (.invokestatic index, 3)) (hf : cells + mc ≤ R.cells ∧ slots + ms ≤ R.slots) :
    vx_Run p l e R s m args below meth c H locs cells slots mc ms g rest (Qc As.toArray) XC free := by
  obtain ⟨⟨hrc, hrs, hfr, hlo, hws, hcw⟩, hcode, hini, hy, hlen, hl, hstt⟩ := cw
  have hK : vx_Back l R p e below s args y 3 8 (PreOf R mc ms Pc) (PostOf Qc mc ms free) (vx_Post XC mc ms free) := vx_backW (hh := hh) (bytes := bytes) (maxL := maxL) (ret := ret) hM hp.1 hrc hrs hfr hlo hws hcw (fun a' U hW => word_at hW (Or.inl (by first | rfl | simp [Cond.onTables, Cond.keeps, Cond.steady])) hini)
  obtain ⟨hx, hb, hml, ho, -⟩ := S
  intro T hT X
  rcases vx_callSX X hx (hh := hh) (bytes := bytes) (maxL := maxL) (ret := ret) ho hl hstt hini hcode hy hK hg (hsize.trans hml.symm) (argsL := As) (rest := rest) (fun sig h => hn.trans (hlen sig h)) hstack hW (by rw [hb]; exact hdg)
    (fun vm₁ hW₁ => ⟨hf.1, hf.2, hp.2 (T.setVm vm₁) hT hW₁⟩) with ⟨v, vm₁, ⟨U', l2, c2, s2⟩, hW₁, X', ⟨g', mk, t, L, e1, e2, hq, h1, hL, h2, h3⟩, st⟩ | ⟨q, vm₁, ⟨U', l2, c2, s2⟩, hW₁, X', ⟨g', mk, t, L, E, ce, e1, e2, hq, hce, hcv, hcl, h1, hL, h2, h3⟩, st⟩
  · dsimp only [Pt.U, Pt.locs, Pt.cells, Pt.slots] at X' e1 e2 h1 h2 h3 st
    subst h1; subst h2; subst h3
    exact Or.inl ⟨v, (T.setVm vm₁).calling g' mk As.toArray, t, U', L, hT, X', hL, e1, e2, hq, st⟩
  · dsimp only [Pt.U, Pt.locs, Pt.cells, Pt.slots] at X' e1 e2 h1 h2 h3 st hcl
    subst h1; subst h2; subst h3
    exact Or.inr ⟨q, (T.setVm vm₁).calling g' mk As.toArray, t, U', L, E, ce, hT, X', hL, e1, e2, hq, hce, hcv, vx_cls hW₁ hcl, st⟩
end
end VXH
theorem vx_ofWH {l : Launch} {y : MethodName} {ws ws' : List Cond} {rm : Room} {Pc : Array Value → State → Prop} {Qc : Array Value → State → Outcome → State → Prop} {XC : String → State → State → Prop} {mc ms : Nat} {free : Addr → Prop} {cc : ByteArray} {maxL : Nat} {ret : Option FieldType} {hh : List (Nat × Nat × Nat × Nat)}
    (hy : plainName y.cls = true) (hw : ws = Cond.codeWith y cc maxL ret hh :: ws')
    (body : ∀ p e s m args below meth c s₁, BodyLoose p l y (headSpec ws rm) cc maxL ret e s m args below meth c s₁ → c.maxLocals = maxL → Pc args s →
      W p l e (headSpec ws rm).room s m args below meth c s.heap [] 0 0 (vx_MQ below Qc XC args s mc ms free) (entryFrame m args maxL)) : vx_Met l y ws rm Pc Qc XC mc ms free := by
  refine MetFree.of_bodyS (code := cc) (maxLocals := maxL) (ret := ret) hy ?_ ?_
  · intro args s m h hn
    obtain ⟨m9, meth, c, hn9, h1, h2, h3, h4, -, h5, h6, -⟩ := Cond.codeWith_spec (atoms_spec (ws := ws) h _ (by rw [hw]; exact List.mem_cons_self))
    cases hn.symm.trans hn9
    exact ⟨meth, c, h1, h2, h3, h4, h5, h6⟩
  · intro p e s m args below meth c s₁ B hml hP _
    have hh0 : s₁.heap = s.heap := by rw [B.state]; rfl
    obtain ⟨t, a1, o, b1, b2, b3⟩ := body p e s m args below meth c s₁ B hml hP s₁ hh0 (Stand.of_body B)
    exact ⟨t, o, a1, b1, b2, b3⟩
/-! ===== END ===== -/

/-! ===== BEGIN printed: names, fields, word lists, decode rows ===== -/
def RX0 : String := "GraphCompare$Classes"
def TX0 : u_T := fun k => match k with
  | 0 => ("GraphCompare$Classes", "devices", "LGraphCompare$Partition;", true)
  | 1 => ("GraphCompare$Classes", "nets", "LGraphCompare$Partition;", true)
  | 2 => ("GraphCompare$Classes", "roundCount", "I", false)
  | 3 => ("GraphCompare$Classes", "firstCounts", "[I", true)
  | _ => ("GraphCompare$Classes", "secondCounts", "[I", true)
def tyX0 : Nat → FieldType := fun k => match k with
  | 0 => .object "GraphCompare$Partition"
  | 1 => .object "GraphCompare$Partition"
  | 2 => .int
  | 3 => .array .int
  | _ => .array .int
abbrev wsX00 : List Cond := u_ws RX0 TX0 5
theorem nmX0 : ∀ a, a < 5 → ∀ b, b < 5 → a ≠ b → (TX0 a).2.1 ≠ (TX0 b).2.1 := by decide +kernel
theorem tyX0_ok : ∀ k, k < 5 → parseFieldDescriptor (TX0 k).2.2.1 = some (tyX0 k) := by decide +kernel
abbrev cX0_init : ByteArray := prog_2_method_1_code
def yX0_init : MethodName := ⟨RX0, "<init>", "()V"⟩
abbrev cX0_divide : ByteArray := prog_2_method_2_code
def yX0_divide : MethodName := ⟨RX0, "divide", "(LGraphCompare$Designs;)V"⟩
abbrev cX0_classOf : ByteArray := prog_2_method_3_code
def yX0_classOf : MethodName := ⟨RX0, "classOf", "(II)I"⟩
abbrev cX0_alikeOnFirstSide : ByteArray := prog_2_method_4_code
def yX0_alikeOnFirstSide : MethodName := ⟨RX0, "alikeOnFirstSide", "(LGraphCompare$Side;)I"⟩
abbrev cX0_enterAll : ByteArray := prog_2_method_5_code
def yX0_enterAll : MethodName := ⟨RX0, "enterAll", "(LGraphCompare$Designs;)V"⟩
abbrev cX0_makeRound : ByteArray := prog_2_method_6_code
def yX0_makeRound : MethodName := ⟨RX0, "makeRound", "(LGraphCompare$Designs;)Z"⟩
abbrev cX0_addCodes : ByteArray := prog_2_method_7_code
def yX0_addCodes : MethodName := ⟨RX0, "addCodes", "(LGraphCompare$Kinds;LGraphCompare$Side;II)V"⟩
abbrev cX0_countMembers : ByteArray := prog_2_method_8_code
def yX0_countMembers : MethodName := ⟨RX0, "countMembers", "(LGraphCompare$Side;I[I)V"⟩
def RX1 : String := "GraphCompare$Designs"
def TX1 : u_T := fun k => match k with
  | 0 => ("GraphCompare$Designs", "first", "LGraphCompare$Side;", true)
  | 1 => ("GraphCompare$Designs", "second", "LGraphCompare$Side;", true)
  | _ => ("GraphCompare$Designs", "kinds", "LGraphCompare$Kinds;", true)
def tyX1 : Nat → FieldType := fun k => match k with
  | 0 => .object "GraphCompare$Side"
  | 1 => .object "GraphCompare$Side"
  | _ => .object "GraphCompare$Kinds"
abbrev wsX10 : List Cond := u_ws RX1 TX1 3
theorem nmX1 : ∀ a, a < 3 → ∀ b, b < 3 → a ≠ b → (TX1 a).2.1 ≠ (TX1 b).2.1 := by decide +kernel
theorem tyX1_ok : ∀ k, k < 3 → parseFieldDescriptor (TX1 k).2.2.1 = some (tyX1 k) := by decide +kernel
abbrev cX1_init : ByteArray := prog_3_method_1_code
def yX1_init : MethodName := ⟨RX1, "<init>", "()V"⟩
abbrev cX1_sideOf : ByteArray := prog_3_method_2_code
def yX1_sideOf : MethodName := ⟨RX1, "sideOf", "(I)LGraphCompare$Side;"⟩
abbrev cX1_markUsedNets : ByteArray := prog_3_method_3_code
def yX1_markUsedNets : MethodName := ⟨RX1, "markUsedNets", "()V"⟩
abbrev cX1_haveAsMuch : ByteArray := prog_3_method_4_code
def yX1_haveAsMuch : MethodName := ⟨RX1, "haveAsMuch", "()Z"⟩
abbrev cX1_nextUnevenName : ByteArray := prog_3_method_5_code
def yX1_nextUnevenName : MethodName := ⟨RX1, "nextUnevenName", "(I)I"⟩
def RX2 : String := "GraphCompare$Differences"
def TX2 : u_T := fun k => match k with
  | 0 => ("GraphCompare$Differences", "count", "I", false)
  | 1 => ("GraphCompare$Differences", "parts", "[I", true)
  | _ => ("GraphCompare$Differences", "listed", "[Z", true)
def tyX2 : Nat → FieldType := fun k => match k with
  | 0 => .int
  | 1 => .array .int
  | _ => .array .boolean
abbrev wsX20 : List Cond := u_ws RX2 TX2 3
theorem nmX2 : ∀ a, a < 3 → ∀ b, b < 3 → a ≠ b → (TX2 a).2.1 ≠ (TX2 b).2.1 := by decide +kernel
theorem tyX2_ok : ∀ k, k < 3 → parseFieldDescriptor (TX2 k).2.2.1 = some (tyX2 k) := by decide +kernel
abbrev cX2_init : ByteArray := prog_4_method_1_code
def yX2_init : MethodName := ⟨RX2, "<init>", "()V"⟩
abbrev cX2_forget : ByteArray := prog_4_method_2_code
def yX2_forget : MethodName := ⟨RX2, "forget", "()V"⟩
abbrev cX2_list : ByteArray := prog_4_method_3_code
def yX2_list : MethodName := ⟨RX2, "list", "(LGraphCompare$Designs;LGraphCompare$Classes;)V"⟩
abbrev cX2_listKinds : ByteArray := prog_4_method_4_code
def yX2_listKinds : MethodName := ⟨RX2, "listKinds", "(LGraphCompare$Designs;)V"⟩
abbrev cX2_listNets : ByteArray := prog_4_method_5_code
def yX2_listNets : MethodName := ⟨RX2, "listNets", "(LGraphCompare$Designs;)V"⟩
abbrev cX2_listNames : ByteArray := prog_4_method_6_code
def yX2_listNames : MethodName := ⟨RX2, "listNames", "(LGraphCompare$Designs;)V"⟩
abbrev cX2_listClasses : ByteArray := prog_4_method_7_code
def yX2_listClasses : MethodName := ⟨RX2, "listClasses", "(LGraphCompare$Designs;LGraphCompare$Classes;)V"⟩
abbrev cX2_listClass : ByteArray := prog_4_method_8_code
def yX2_listClass : MethodName := ⟨RX2, "listClass", "(LGraphCompare$Classes;II)V"⟩
abbrev cX2_add : ByteArray := prog_4_method_9_code
def yX2_add : MethodName := ⟨RX2, "add", "(IIII)V"⟩
def RX3 : String := "GraphCompare$Joining"
def TX3 : u_T := fun k => match k with
  | _ => ("GraphCompare$Joining", "pinsAt", "[I", true)
def tyX3 : Nat → FieldType := fun k => match k with
  | _ => .array .int
abbrev wsX30 : List Cond := u_ws RX3 TX3 1
theorem nmX3 : ∀ a, a < 1 → ∀ b, b < 1 → a ≠ b → (TX3 a).2.1 ≠ (TX3 b).2.1 := by decide +kernel
theorem tyX3_ok : ∀ k, k < 1 → parseFieldDescriptor (TX3 k).2.2.1 = some (tyX3 k) := by decide +kernel
abbrev cX3_init : ByteArray := prog_5_method_1_code
def yX3_init : MethodName := ⟨RX3, "<init>", "()V"⟩
abbrev cX3_joinAll : ByteArray := prog_5_method_2_code
def yX3_joinAll : MethodName := ⟨RX3, "joinAll", "(LGraphCompare$Side;LGraphCompare$Kinds;I)V"⟩
abbrev cX3_joinFirstPair : ByteArray := prog_5_method_3_code
def yX3_joinFirstPair : MethodName := ⟨RX3, "joinFirstPair", "(LGraphCompare$Side;LGraphCompare$Kinds;I)Z"⟩
abbrev cX3_countPins : ByteArray := prog_5_method_4_code
def yX3_countPins : MethodName := ⟨RX3, "countPins", "(LGraphCompare$Side;)V"⟩
abbrev cX3_areOfOneKind : ByteArray := prog_5_method_5_code
def yX3_areOfOneKind : MethodName := ⟨RX3, "areOfOneKind", "(LGraphCompare$Side;II)Z"⟩
abbrev cX3_joinPair : ByteArray := prog_5_method_6_code
def yX3_joinPair : MethodName := ⟨RX3, "joinPair", "(LGraphCompare$Side;LGraphCompare$Kinds;III)Z"⟩
abbrev cX3_joinParallel : ByteArray := prog_5_method_7_code
def yX3_joinParallel : MethodName := ⟨RX3, "joinParallel", "(LGraphCompare$Side;LGraphCompare$Kinds;II)Z"⟩
abbrev cX3_joinSeries : ByteArray := prog_5_method_8_code
def yX3_joinSeries : MethodName := ⟨RX3, "joinSeries", "(LGraphCompare$Side;LGraphCompare$Kinds;II)Z"⟩
abbrev cX3_hasTwoEnds : ByteArray := prog_5_method_9_code
def yX3_hasTwoEnds : MethodName := ⟨RX3, "hasTwoEnds", "(LGraphCompare$Side;LGraphCompare$Kinds;I)Z"⟩
abbrev cX3_netBetween : ByteArray := prog_5_method_10_code
def yX3_netBetween : MethodName := ⟨RX3, "netBetween", "(LGraphCompare$Side;II)I"⟩
abbrev cX3_sizeInSeries : ByteArray := prog_5_method_11_code
def yX3_sizeInSeries : MethodName := ⟨RX3, "sizeInSeries", "(DD)D"⟩
def RX4 : String := "GraphCompare$Kinds"
def TX4 : u_T := fun k => match k with
  | 0 => ("GraphCompare$Kinds", "groups", "[I", true)
  | _ => ("GraphCompare$Kinds", "shares", "[D", true)
def tyX4 : Nat → FieldType := fun k => match k with
  | 0 => .array .int
  | _ => .array .double
abbrev wsX40 : List Cond := u_ws RX4 TX4 2
theorem nmX4 : ∀ a, a < 2 → ∀ b, b < 2 → a ≠ b → (TX4 a).2.1 ≠ (TX4 b).2.1 := by decide +kernel
theorem tyX4_ok : ∀ k, k < 2 → parseFieldDescriptor (TX4 k).2.2.1 = some (tyX4 k) := by decide +kernel
abbrev cX4_init : ByteArray := prog_6_method_1_code
def yX4_init : MethodName := ⟨RX4, "<init>", "()V"⟩
abbrev cX4_groupOf : ByteArray := prog_6_method_2_code
def yX4_groupOf : MethodName := ⟨RX4, "groupOf", "(II)I"⟩
abbrev cX4_uniteGroups : ByteArray := prog_6_method_3_code
def yX4_uniteGroups : MethodName := ⟨RX4, "uniteGroups", "(III)Z"⟩
abbrev cX4_setShare : ByteArray := prog_6_method_4_code
def yX4_setShare : MethodName := ⟨RX4, "setShare", "(ID)Z"⟩
abbrev cX4_sizesAgree : ByteArray := prog_6_method_5_code
def yX4_sizesAgree : MethodName := ⟨RX4, "sizesAgree", "(IDD)Z"⟩
abbrev cX4_pinsOn : ByteArray := prog_6_method_6_code
def yX4_pinsOn : MethodName := ⟨RX4, "pinsOn", "(LGraphCompare$Side;III)I"⟩
def RX5 : String := "GraphCompare$Match"
def TX5 : u_T := fun k => match k with
  | 0 => ("GraphCompare$Match", "kept", "Z", false)
  | 1 => ("GraphCompare$Match", "firstDevices", "[I", true)
  | 2 => ("GraphCompare$Match", "secondDevices", "[I", true)
  | 3 => ("GraphCompare$Match", "firstNets", "[I", true)
  | _ => ("GraphCompare$Match", "secondNets", "[I", true)
def tyX5 : Nat → FieldType := fun k => match k with
  | 0 => .boolean
  | 1 => .array .int
  | 2 => .array .int
  | 3 => .array .int
  | _ => .array .int
abbrev wsX50 : List Cond := u_ws RX5 TX5 5
theorem nmX5 : ∀ a, a < 5 → ∀ b, b < 5 → a ≠ b → (TX5 a).2.1 ≠ (TX5 b).2.1 := by decide +kernel
theorem tyX5_ok : ∀ k, k < 5 → parseFieldDescriptor (TX5 k).2.2.1 = some (tyX5 k) := by decide +kernel
abbrev cX5_init : ByteArray := prog_7_method_1_code
def yX5_init : MethodName := ⟨RX5, "<init>", "()V"⟩
abbrev cX5_forget : ByteArray := prog_7_method_2_code
def yX5_forget : MethodName := ⟨RX5, "forget", "()V"⟩
abbrev cX5_pairDevices : ByteArray := prog_7_method_3_code
def yX5_pairDevices : MethodName := ⟨RX5, "pairDevices", "(II)V"⟩
abbrev cX5_pairNets : ByteArray := prog_7_method_4_code
def yX5_pairNets : MethodName := ⟨RX5, "pairNets", "(II)V"⟩
abbrev cX5_isMatchNow : ByteArray := prog_7_method_5_code
def yX5_isMatchNow : MethodName := ⟨RX5, "isMatchNow", "(LGraphCompare$Designs;)Z"⟩
abbrev cX5_pairsPresent : ByteArray := prog_7_method_6_code
def yX5_pairsPresent : MethodName := ⟨RX5, "pairsPresent", "(LGraphCompare$Side;LGraphCompare$Side;[I)Z"⟩
abbrev cX5_pairsUsed : ByteArray := prog_7_method_7_code
def yX5_pairsUsed : MethodName := ⟨RX5, "pairsUsed", "(LGraphCompare$Side;LGraphCompare$Side;[I)Z"⟩
abbrev cX5_allPairsAgree : ByteArray := prog_7_method_8_code
def yX5_allPairsAgree : MethodName := ⟨RX5, "allPairsAgree", "(LGraphCompare$Designs;)Z"⟩
abbrev cX5_pairAgrees : ByteArray := prog_7_method_9_code
def yX5_pairAgrees : MethodName := ⟨RX5, "pairAgrees", "(LGraphCompare$Designs;I)Z"⟩
def RX6 : String := "GraphCompare$NetSorts"
def TX6 : u_T := fun k => match k with
  | 0 => ("GraphCompare$NetSorts", "sorts", "[I", true)
  | 1 => ("GraphCompare$NetSorts", "count", "I", false)
  | 2 => ("GraphCompare$NetSorts", "nets", "[I", true)
  | _ => ("GraphCompare$NetSorts", "keys", "[I", true)
def tyX6 : Nat → FieldType := fun k => match k with
  | 0 => .array .int
  | 1 => .int
  | 2 => .array .int
  | _ => .array .int
abbrev wsX60 : List Cond := u_ws RX6 TX6 4
theorem nmX6 : ∀ a, a < 4 → ∀ b, b < 4 → a ≠ b → (TX6 a).2.1 ≠ (TX6 b).2.1 := by decide +kernel
theorem tyX6_ok : ∀ k, k < 4 → parseFieldDescriptor (TX6 k).2.2.1 = some (tyX6 k) := by decide +kernel
abbrev cX6_init : ByteArray := prog_8_method_1_code
def yX6_init : MethodName := ⟨RX6, "<init>", "()V"⟩
abbrev cX6_lookAt : ByteArray := prog_8_method_2_code
def yX6_lookAt : MethodName := ⟨RX6, "lookAt", "(LGraphCompare$Side;LGraphCompare$Kinds;I)V"⟩
abbrev cX6_placeOf : ByteArray := prog_8_method_3_code
def yX6_placeOf : MethodName := ⟨RX6, "placeOf", "(I)I"⟩
abbrev cX6_placeWith : ByteArray := prog_8_method_4_code
def yX6_placeWith : MethodName := ⟨RX6, "placeWith", "(II)I"⟩
def RX7 : String := "GraphCompare$Partition"
def TX7 : u_T := fun k => match k with
  | 0 => ("GraphCompare$Partition", "things", "I", true)
  | 1 => ("GraphCompare$Partition", "mostCodes", "I", true)
  | 2 => ("GraphCompare$Partition", "count", "I", false)
  | 3 => ("GraphCompare$Partition", "classOf", "[I", true)
  | 4 => ("GraphCompare$Partition", "codes", "[I", true)
  | 5 => ("GraphCompare$Partition", "codeCounts", "[I", true)
  | 6 => ("GraphCompare$Partition", "newestPart", "[I", true)
  | 7 => ("GraphCompare$Partition", "partBefore", "[I", true)
  | _ => ("GraphCompare$Partition", "firstThing", "[I", true)
def tyX7 : Nat → FieldType := fun k => match k with
  | 0 => .int
  | 1 => .int
  | 2 => .int
  | 3 => .array .int
  | 4 => .array .int
  | 5 => .array .int
  | 6 => .array .int
  | 7 => .array .int
  | _ => .array .int
abbrev wsX70 : List Cond := u_ws RX7 TX7 9
theorem nmX7 : ∀ a, a < 9 → ∀ b, b < 9 → a ≠ b → (TX7 a).2.1 ≠ (TX7 b).2.1 := by decide +kernel
theorem tyX7_ok : ∀ k, k < 9 → parseFieldDescriptor (TX7 k).2.2.1 = some (tyX7 k) := by decide +kernel
abbrev cX7_init : ByteArray := prog_9_method_1_code
def yX7_init : MethodName := ⟨RX7, "<init>", "(II)V"⟩
abbrev cX7_empty : ByteArray := prog_9_method_2_code
def yX7_empty : MethodName := ⟨RX7, "empty", "()V"⟩
abbrev cX7_forgetCodes : ByteArray := prog_9_method_3_code
def yX7_forgetCodes : MethodName := ⟨RX7, "forgetCodes", "()V"⟩
abbrev cX7_enter : ByteArray := prog_9_method_4_code
def yX7_enter : MethodName := ⟨RX7, "enter", "(II)V"⟩
abbrev cX7_addCode : ByteArray := prog_9_method_5_code
def yX7_addCode : MethodName := ⟨RX7, "addCode", "(II)V"⟩
abbrev cX7_split : ByteArray := prog_9_method_6_code
def yX7_split : MethodName := ⟨RX7, "split", "()Z"⟩
abbrev cX7_partLike : ByteArray := prog_9_method_7_code
def yX7_partLike : MethodName := ⟨RX7, "partLike", "(II)I"⟩
abbrev cX7_haveSameCodes : ByteArray := prog_9_method_8_code
def yX7_haveSameCodes : MethodName := ⟨RX7, "haveSameCodes", "(II)Z"⟩
def RX8 : String := "GraphCompare$Search"
def TX8 : u_T := fun k => match k with
  | 0 => ("GraphCompare$Search", "deviceCount", "I", false)
  | 1 => ("GraphCompare$Search", "firstDevices", "[I", true)
  | 2 => ("GraphCompare$Search", "triedLast", "[I", true)
  | 3 => ("GraphCompare$Search", "taken", "[Z", true)
  | 4 => ("GraphCompare$Search", "firstSorts", "LGraphCompare$NetSorts;", true)
  | 5 => ("GraphCompare$Search", "secondSorts", "LGraphCompare$NetSorts;", true)
  | 6 => ("GraphCompare$Search", "mates", "[I", true)
  | 7 => ("GraphCompare$Search", "changedCounts", "[I", true)
  | 8 => ("GraphCompare$Search", "changedFirst", "[I", true)
  | 9 => ("GraphCompare$Search", "changedSecond", "[I", true)
  | _ => ("GraphCompare$Search", "sortsBefore", "[I", true)
def tyX8 : Nat → FieldType := fun k => match k with
  | 0 => .int
  | 1 => .array .int
  | 2 => .array .int
  | 3 => .array .boolean
  | 4 => .object "GraphCompare$NetSorts"
  | 5 => .object "GraphCompare$NetSorts"
  | 6 => .array .int
  | 7 => .array .int
  | 8 => .array .int
  | 9 => .array .int
  | _ => .array .int
abbrev wsX80 : List Cond := u_ws RX8 TX8 11
theorem nmX8 : ∀ a, a < 11 → ∀ b, b < 11 → a ≠ b → (TX8 a).2.1 ≠ (TX8 b).2.1 := by decide +kernel
theorem tyX8_ok : ∀ k, k < 11 → parseFieldDescriptor (TX8 k).2.2.1 = some (tyX8 k) := by decide +kernel
abbrev cX8_init : ByteArray := prog_10_method_1_code
def yX8_init : MethodName := ⟨RX8, "<init>", "()V"⟩
abbrev cX8_find : ByteArray := prog_10_method_2_code
def yX8_find : MethodName := ⟨RX8, "find", "(LGraphCompare$Designs;LGraphCompare$Classes;I)I"⟩
abbrev cX8_keep : ByteArray := prog_10_method_3_code
def yX8_keep : MethodName := ⟨RX8, "keep", "(LGraphCompare$Designs;LGraphCompare$Match;)V"⟩
abbrev cX8_keepNet : ByteArray := prog_10_method_4_code
def yX8_keepNet : MethodName := ⟨RX8, "keepNet", "(LGraphCompare$Side;LGraphCompare$Match;I)V"⟩
abbrev cX8_begin : ByteArray := prog_10_method_5_code
def yX8_begin : MethodName := ⟨RX8, "begin", "(LGraphCompare$Designs;)V"⟩
abbrev cX8_sortByPorts : ByteArray := prog_10_method_6_code
def yX8_sortByPorts : MethodName := ⟨RX8, "sortByPorts", "(LGraphCompare$Side;LGraphCompare$Side;[I)V"⟩
abbrev cX8_nextCandidate : ByteArray := prog_10_method_7_code
def yX8_nextCandidate : MethodName := ⟨RX8, "nextCandidate", "(LGraphCompare$Designs;LGraphCompare$Classes;I)I"⟩
abbrev cX8_pairUp : ByteArray := prog_10_method_8_code
def yX8_pairUp : MethodName := ⟨RX8, "pairUp", "(LGraphCompare$Designs;II)Z"⟩
abbrev cX8_findMates : ByteArray := prog_10_method_9_code
def yX8_findMates : MethodName := ⟨RX8, "findMates", "()Z"⟩
abbrev cX8_changeSorts : ByteArray := prog_10_method_10_code
def yX8_changeSorts : MethodName := ⟨RX8, "changeSorts", "(I)V"⟩
abbrev cX8_undo : ByteArray := prog_10_method_11_code
def yX8_undo : MethodName := ⟨RX8, "undo", "(I)V"⟩
def RX9 : String := "GraphCompare$Side"
def TX9 : u_T := fun k => match k with
  | 0 => ("GraphCompare$Side", "netCount", "I", false)
  | 1 => ("GraphCompare$Side", "portNames", "[I", true)
  | 2 => ("GraphCompare$Side", "used", "[Z", true)
  | 3 => ("GraphCompare$Side", "deviceCount", "I", false)
  | 4 => ("GraphCompare$Side", "kindOf", "[I", true)
  | 5 => ("GraphCompare$Side", "sizes", "[D", true)
  | 6 => ("GraphCompare$Side", "gone", "[Z", true)
  | _ => ("GraphCompare$Side", "pins", "[I", true)
def tyX9 : Nat → FieldType := fun k => match k with
  | 0 => .int
  | 1 => .array .int
  | 2 => .array .boolean
  | 3 => .int
  | 4 => .array .int
  | 5 => .array .double
  | 6 => .array .boolean
  | _ => .array .int
abbrev wsX90 : List Cond := u_ws RX9 TX9 8
theorem nmX9 : ∀ a, a < 8 → ∀ b, b < 8 → a ≠ b → (TX9 a).2.1 ≠ (TX9 b).2.1 := by decide +kernel
theorem tyX9_ok : ∀ k, k < 8 → parseFieldDescriptor (TX9 k).2.2.1 = some (tyX9 k) := by decide +kernel
abbrev cX9_init : ByteArray := prog_11_method_1_code
def yX9_init : MethodName := ⟨RX9, "<init>", "()V"⟩
abbrev cX9_addNet : ByteArray := prog_11_method_2_code
def yX9_addNet : MethodName := ⟨RX9, "addNet", "()I"⟩
abbrev cX9_addDevice : ByteArray := prog_11_method_3_code
def yX9_addDevice : MethodName := ⟨RX9, "addDevice", "(ID)I"⟩
abbrev cX9_isNet : ByteArray := prog_11_method_4_code
def yX9_isNet : MethodName := ⟨RX9, "isNet", "(I)Z"⟩
abbrev cX9_isDevice : ByteArray := prog_11_method_5_code
def yX9_isDevice : MethodName := ⟨RX9, "isDevice", "(I)Z"⟩
abbrev cX9_netOf : ByteArray := prog_11_method_6_code
def yX9_netOf : MethodName := ⟨RX9, "netOf", "(II)I"⟩
abbrev cX9_connect : ByteArray := prog_11_method_7_code
def yX9_connect : MethodName := ⟨RX9, "connect", "(III)Z"⟩
abbrev cX9_isPort : ByteArray := prog_11_method_8_code
def yX9_isPort : MethodName := ⟨RX9, "isPort", "(I)Z"⟩
abbrev cX9_makePort : ByteArray := prog_11_method_9_code
def yX9_makePort : MethodName := ⟨RX9, "makePort", "(II)Z"⟩
abbrev cX9_portNamed : ByteArray := prog_11_method_10_code
def yX9_portNamed : MethodName := ⟨RX9, "portNamed", "(I)I"⟩
abbrev cX9_presentCount : ByteArray := prog_11_method_11_code
def yX9_presentCount : MethodName := ⟨RX9, "presentCount", "()I"⟩
abbrev cX9_presentOfKind : ByteArray := prog_11_method_12_code
def yX9_presentOfKind : MethodName := ⟨RX9, "presentOfKind", "(I)I"⟩
abbrev cX9_markUsedNets : ByteArray := prog_11_method_13_code
def yX9_markUsedNets : MethodName := ⟨RX9, "markUsedNets", "()V"⟩
abbrev cX9_usedCount : ByteArray := prog_11_method_14_code
def yX9_usedCount : MethodName := ⟨RX9, "usedCount", "()I"⟩
abbrev cX9_nextPortName : ByteArray := prog_11_method_15_code
def yX9_nextPortName : MethodName := ⟨RX9, "nextPortName", "(I)I"⟩
def RX10 : String := "GraphCompare"
def TX10 : u_T := fun k => match k with
  | 0 => ("GraphCompare", "designs", "LGraphCompare$Designs;", true)
  | 1 => ("GraphCompare", "joining", "LGraphCompare$Joining;", true)
  | 2 => ("GraphCompare", "classes", "LGraphCompare$Classes;", true)
  | 3 => ("GraphCompare", "search", "LGraphCompare$Search;", true)
  | 4 => ("GraphCompare", "kept", "LGraphCompare$Match;", true)
  | 5 => ("GraphCompare", "differences", "LGraphCompare$Differences;", true)
  | 6 => ("GraphCompare", "latestRounds", "I", false)
  | _ => ("GraphCompare", "latestAlike", "I", false)
def tyX10 : Nat → FieldType := fun k => match k with
  | 0 => .object "GraphCompare$Designs"
  | 1 => .object "GraphCompare$Joining"
  | 2 => .object "GraphCompare$Classes"
  | 3 => .object "GraphCompare$Search"
  | 4 => .object "GraphCompare$Match"
  | 5 => .object "GraphCompare$Differences"
  | 6 => .int
  | _ => .int
abbrev wsX100 : List Cond := u_ws RX10 TX10 8
theorem nmX10 : ∀ a, a < 8 → ∀ b, b < 8 → a ≠ b → (TX10 a).2.1 ≠ (TX10 b).2.1 := by decide +kernel
theorem tyX10_ok : ∀ k, k < 8 → parseFieldDescriptor (TX10 k).2.2.1 = some (tyX10 k) := by decide +kernel
abbrev cX10_init : ByteArray := prog_1_method_1_code
def yX10_init : MethodName := ⟨RX10, "<init>", "()V"⟩
abbrev cX10_net : ByteArray := prog_1_method_2_code
def yX10_net : MethodName := ⟨RX10, "net", "(II)I"⟩
abbrev cX10_device : ByteArray := prog_1_method_3_code
def yX10_device : MethodName := ⟨RX10, "device", "(IID)I"⟩
abbrev cX10_pin : ByteArray := prog_1_method_4_code
def yX10_pin : MethodName := ⟨RX10, "pin", "(IIII)Z"⟩
abbrev cX10_swap : ByteArray := prog_1_method_5_code
def yX10_swap : MethodName := ⟨RX10, "swap", "(III)Z"⟩
abbrev cX10_share : ByteArray := prog_1_method_6_code
def yX10_share : MethodName := ⟨RX10, "share", "(ID)Z"⟩
abbrev cX10_port : ByteArray := prog_1_method_7_code
def yX10_port : MethodName := ⟨RX10, "port", "(III)Z"⟩
abbrev cX10_join : ByteArray := prog_1_method_8_code
def yX10_join : MethodName := ⟨RX10, "join", "(II)I"⟩
abbrev cX10_run : ByteArray := prog_1_method_9_code
def yX10_run : MethodName := ⟨RX10, "run", "(J)I"⟩
abbrev cX10_match : ByteArray := prog_1_method_10_code
def yX10_match : MethodName := ⟨RX10, "match", "(II)I"⟩
abbrev cX10_netMatch : ByteArray := prog_1_method_11_code
def yX10_netMatch : MethodName := ⟨RX10, "netMatch", "(I)I"⟩
abbrev cX10_differs : ByteArray := prog_1_method_12_code
def yX10_differs : MethodName := ⟨RX10, "differs", "(II)I"⟩
abbrev cX10_rounds : ByteArray := prog_1_method_13_code
def yX10_rounds : MethodName := ⟨RX10, "rounds", "()I"⟩
abbrev cX10_tried : ByteArray := prog_1_method_14_code
def yX10_tried : MethodName := ⟨RX10, "tried", "()I"⟩
abbrev cX10_tested : ByteArray := prog_1_method_15_code
def yX10_tested : MethodName := ⟨RX10, "tested", "()Z"⟩
abbrev cX10_sideAt : ByteArray := prog_1_method_16_code
def yX10_sideAt : MethodName := ⟨RX10, "sideAt", "(I)LGraphCompare$Side;"⟩
abbrev cX10_isKind : ByteArray := prog_1_method_17_code
def yX10_isKind : MethodName := ⟨RX10, "isKind", "(I)Z"⟩
abbrev cX10_isPin : ByteArray := prog_1_method_18_code
def yX10_isPin : MethodName := ⟨RX10, "isPin", "(I)Z"⟩
def RX11 : String := "GraphCompareModel"
def TX11 : u_T := fun k => match k with
  | 0 => ("GraphCompareModel", "code", "I", false)
  | 1 => ("GraphCompareModel", "ports", "[I", true)
  | 2 => ("GraphCompareModel", "netCounts", "[I", true)
  | 3 => ("GraphCompareModel", "kinds", "[I", true)
  | 4 => ("GraphCompareModel", "sizes", "[D", true)
  | 5 => ("GraphCompareModel", "gone", "[Z", true)
  | 6 => ("GraphCompareModel", "pins", "[I", true)
  | 7 => ("GraphCompareModel", "deviceCounts", "[I", true)
  | 8 => ("GraphCompareModel", "groups", "[I", true)
  | 9 => ("GraphCompareModel", "shares", "[D", true)
  | 10 => ("GraphCompareModel", "deviceClasses", "[I", true)
  | 11 => ("GraphCompareModel", "netClasses", "[I", true)
  | 12 => ("GraphCompareModel", "newDevices", "[I", true)
  | 13 => ("GraphCompareModel", "newNets", "[I", true)
  | 14 => ("GraphCompareModel", "roundCount", "I", false)
  | 15 => ("GraphCompareModel", "triedCount", "I", false)
  | 16 => ("GraphCompareModel", "differences", "[I", true)
  | 17 => ("GraphCompareModel", "differenceCount", "I", false)
  | 18 => ("GraphCompareModel", "kept", "Z", false)
  | 19 => ("GraphCompareModel", "devicePairs", "[I", true)
  | 20 => ("GraphCompareModel", "netPairs", "[I", true)
  | 21 => ("GraphCompareModel", "line", "[I", true)
  | 22 => ("GraphCompareModel", "lineCount", "I", false)
  | 23 => ("GraphCompareModel", "choice", "[I", true)
  | 24 => ("GraphCompareModel", "taken", "[Z", true)
  | 25 => ("GraphCompareModel", "netTry", "[I", true)
  | 26 => ("GraphCompareModel", "sorts", "[I", true)
  | 27 => ("GraphCompareModel", "touches", "[I", true)
  | 28 => ("GraphCompareModel", "usedNow", "[Z", true)
  | 29 => ("GraphCompareModel", "counts", "[I", true)
  | 30 => ("GraphCompareModel", "limit", "J", false)
  | _ => ("GraphCompareModel", "pairs", "J", false)
def tyX11 : Nat → FieldType := fun k => match k with
  | 0 => .int
  | 1 => .array .int
  | 2 => .array .int
  | 3 => .array .int
  | 4 => .array .double
  | 5 => .array .boolean
  | 6 => .array .int
  | 7 => .array .int
  | 8 => .array .int
  | 9 => .array .double
  | 10 => .array .int
  | 11 => .array .int
  | 12 => .array .int
  | 13 => .array .int
  | 14 => .int
  | 15 => .int
  | 16 => .array .int
  | 17 => .int
  | 18 => .boolean
  | 19 => .array .int
  | 20 => .array .int
  | 21 => .array .int
  | 22 => .int
  | 23 => .array .int
  | 24 => .array .boolean
  | 25 => .array .int
  | 26 => .array .int
  | 27 => .array .int
  | 28 => .array .boolean
  | 29 => .array .int
  | 30 => .long
  | _ => .long
abbrev wsX110 : List Cond := u_ws RX11 TX11 32
theorem nmX11 : ∀ a, a < 32 → ∀ b, b < 32 → a ≠ b → (TX11 a).2.1 ≠ (TX11 b).2.1 := by decide +kernel
theorem tyX11_ok : ∀ k, k < 32 → parseFieldDescriptor (TX11 k).2.2.1 = some (tyX11 k) := by decide +kernel
abbrev cX11_init : ByteArray := prog_13_method_1_code
def yX11_init : MethodName := ⟨RX11, "<init>", "()V"⟩
abbrev cX11_thrown : ByteArray := prog_13_method_2_code
def yX11_thrown : MethodName := ⟨RX11, "thrown", "()I"⟩
abbrev cX11_isSide : ByteArray := prog_13_method_3_code
def yX11_isSide : MethodName := ⟨RX11, "isSide", "(I)Z"⟩
abbrev cX11_isNet : ByteArray := prog_13_method_4_code
def yX11_isNet : MethodName := ⟨RX11, "isNet", "(II)Z"⟩
abbrev cX11_isDevice : ByteArray := prog_13_method_5_code
def yX11_isDevice : MethodName := ⟨RX11, "isDevice", "(II)Z"⟩
abbrev cX11_isKind : ByteArray := prog_13_method_6_code
def yX11_isKind : MethodName := ⟨RX11, "isKind", "(I)Z"⟩
abbrev cX11_isPin : ByteArray := prog_13_method_7_code
def yX11_isPin : MethodName := ⟨RX11, "isPin", "(I)Z"⟩
abbrev cX11_net : ByteArray := prog_13_method_8_code
def yX11_net : MethodName := ⟨RX11, "net", "(II)I"⟩
abbrev cX11_device : ByteArray := prog_13_method_9_code
def yX11_device : MethodName := ⟨RX11, "device", "(IID)I"⟩
abbrev cX11_pin : ByteArray := prog_13_method_10_code
def yX11_pin : MethodName := ⟨RX11, "pin", "(IIII)Z"⟩
abbrev cX11_swap : ByteArray := prog_13_method_11_code
def yX11_swap : MethodName := ⟨RX11, "swap", "(III)Z"⟩
abbrev cX11_share : ByteArray := prog_13_method_12_code
def yX11_share : MethodName := ⟨RX11, "share", "(ID)Z"⟩
abbrev cX11_port : ByteArray := prog_13_method_13_code
def yX11_port : MethodName := ⟨RX11, "port", "(III)Z"⟩
abbrev cX11_group : ByteArray := prog_13_method_14_code
def yX11_group : MethodName := ⟨RX11, "group", "(II)I"⟩
abbrev cX11_pinsOn : ByteArray := prog_13_method_15_code
def yX11_pinsOn : MethodName := ⟨RX11, "pinsOn", "(III)I"⟩
abbrev cX11_isParallel : ByteArray := prog_13_method_16_code
def yX11_isParallel : MethodName := ⟨RX11, "isParallel", "(II)Z"⟩
abbrev cX11_all : ByteArray := prog_13_method_17_code
def yX11_all : MethodName := ⟨RX11, "all", "(II)I"⟩
abbrev cX11_isChain : ByteArray := prog_13_method_18_code
def yX11_isChain : MethodName := ⟨RX11, "isChain", "(I)Z"⟩
abbrev cX11_common : ByteArray := prog_13_method_19_code
def yX11_common : MethodName := ⟨RX11, "common", "(III)I"⟩
abbrev cX11_isJoined : ByteArray := prog_13_method_20_code
def yX11_isJoined : MethodName := ⟨RX11, "isJoined", "(II)Z"⟩
abbrev cX11_live : ByteArray := prog_13_method_21_code
def yX11_live : MethodName := ⟨RX11, "live", "(I)I"⟩
abbrev cX11_join : ByteArray := prog_13_method_22_code
def yX11_join : MethodName := ⟨RX11, "join", "(II)I"⟩
abbrev cX11_isUsed : ByteArray := prog_13_method_23_code
def yX11_isUsed : MethodName := ⟨RX11, "isUsed", "(II)Z"⟩
abbrev cX11_pinsOnClass : ByteArray := prog_13_method_24_code
def yX11_pinsOnClass : MethodName := ⟨RX11, "pinsOnClass", "(III)I"⟩
abbrev cX11_isLikeDevice : ByteArray := prog_13_method_25_code
def yX11_isLikeDevice : MethodName := ⟨RX11, "isLikeDevice", "(II)Z"⟩
abbrev cX11_pinsOfClass : ByteArray := prog_13_method_26_code
def yX11_pinsOfClass : MethodName := ⟨RX11, "pinsOfClass", "(III)I"⟩
abbrev cX11_isLikeNet : ByteArray := prog_13_method_27_code
def yX11_isLikeNet : MethodName := ⟨RX11, "isLikeNet", "(II)Z"⟩
abbrev cX11_isLive : ByteArray := prog_13_method_28_code
def yX11_isLive : MethodName := ⟨RX11, "isLive", "(I)Z"⟩
abbrev cX11_isUsedAt : ByteArray := prog_13_method_29_code
def yX11_isUsedAt : MethodName := ⟨RX11, "isUsedAt", "(I)Z"⟩
abbrev cX11_round : ByteArray := prog_13_method_30_code
def yX11_round : MethodName := ⟨RX11, "round", "()I"⟩
abbrev cX11_take : ByteArray := prog_13_method_31_code
def yX11_take : MethodName := ⟨RX11, "take", "()V"⟩
abbrev cX11_begin : ByteArray := prog_13_method_32_code
def yX11_begin : MethodName := ⟨RX11, "begin", "()I"⟩
abbrev cX11_refine : ByteArray := prog_13_method_33_code
def yX11_refine : MethodName := ⟨RX11, "refine", "()V"⟩
abbrev cX11_isAgreed : ByteArray := prog_13_method_34_code
def yX11_isAgreed : MethodName := ⟨RX11, "isAgreed", "(II)Z"⟩
abbrev cX11_isSameNet : ByteArray := prog_13_method_35_code
def yX11_isSameNet : MethodName := ⟨RX11, "isSameNet", "(III)Z"⟩
abbrev cX11_sortFirst : ByteArray := prog_13_method_36_code
def yX11_sortFirst : MethodName := ⟨RX11, "sortFirst", "()V"⟩
abbrev cX11_touch : ByteArray := prog_13_method_37_code
def yX11_touch : MethodName := ⟨RX11, "touch", "(II)I"⟩
abbrev cX11_isSorted : ByteArray := prog_13_method_38_code
def yX11_isSorted : MethodName := ⟨RX11, "isSorted", "(III)Z"⟩
abbrev cX11_pairNets : ByteArray := prog_13_method_39_code
def yX11_pairNets : MethodName := ⟨RX11, "pairNets", "(I)V"⟩
abbrev cX11_isFree : ByteArray := prog_13_method_40_code
def yX11_isFree : MethodName := ⟨RX11, "isFree", "(II)Z"⟩
abbrev cX11_isChoice : ByteArray := prog_13_method_41_code
def yX11_isChoice : MethodName := ⟨RX11, "isChoice", "(I)Z"⟩
abbrev cX11_isNamed : ByteArray := prog_13_method_42_code
def yX11_isNamed : MethodName := ⟨RX11, "isNamed", "()Z"⟩
abbrev cX11_isMatched : ByteArray := prog_13_method_43_code
def yX11_isMatched : MethodName := ⟨RX11, "isMatched", "()Z"⟩
abbrev cX11_used : ByteArray := prog_13_method_44_code
def yX11_used : MethodName := ⟨RX11, "used", "(I)I"⟩
abbrev cX11_keep : ByteArray := prog_13_method_45_code
def yX11_keep : MethodName := ⟨RX11, "keep", "()V"⟩
abbrev cX11_differ : ByteArray := prog_13_method_46_code
def yX11_differ : MethodName := ⟨RX11, "differ", "(IIII)V"⟩
abbrev cX11_ofKind : ByteArray := prog_13_method_47_code
def yX11_ofKind : MethodName := ⟨RX11, "ofKind", "(II)I"⟩
abbrev cX11_hasName : ByteArray := prog_13_method_48_code
def yX11_hasName : MethodName := ⟨RX11, "hasName", "(II)Z"⟩
abbrev cX11_differNames : ByteArray := prog_13_method_49_code
def yX11_differNames : MethodName := ⟨RX11, "differNames", "()V"⟩
abbrev cX11_ofClass : ByteArray := prog_13_method_50_code
def yX11_ofClass : MethodName := ⟨RX11, "ofClass", "(II)I"⟩
abbrev cX11_explain : ByteArray := prog_13_method_51_code
def yX11_explain : MethodName := ⟨RX11, "explain", "()V"⟩
abbrev cX11_run : ByteArray := prog_13_method_52_code
def yX11_run : MethodName := ⟨RX11, "run", "(J)I"⟩
abbrev cX11_match : ByteArray := prog_13_method_53_code
def yX11_match : MethodName := ⟨RX11, "match", "(II)I"⟩
abbrev cX11_netMatch : ByteArray := prog_13_method_54_code
def yX11_netMatch : MethodName := ⟨RX11, "netMatch", "(I)I"⟩
abbrev cX11_differs : ByteArray := prog_13_method_55_code
def yX11_differs : MethodName := ⟨RX11, "differs", "(II)I"⟩
abbrev cX11_rounds : ByteArray := prog_13_method_56_code
def yX11_rounds : MethodName := ⟨RX11, "rounds", "()I"⟩
abbrev cX11_tried : ByteArray := prog_13_method_57_code
def yX11_tried : MethodName := ⟨RX11, "tried", "()I"⟩
abbrev cX11_tested : ByteArray := prog_13_method_58_code
def yX11_tested : MethodName := ⟨RX11, "tested", "()Z"⟩
def RJx145de : String := "java/io/Serializable"
def TJx145de : u_T := fun k => match k with
  | _ => ("", "", "", false)
def tyJx145de : Nat → FieldType := fun k => match k with
  | _ => .int
abbrev wsJx145de0 : List Cond := u_ws RJx145de TJx145de 0
theorem nmJx145de : ∀ a, a < 0 → ∀ b, b < 0 → a ≠ b → (TJx145de a).2.1 ≠ (TJx145de b).2.1 := by decide +kernel
theorem tyJx145de_ok : ∀ k, k < 0 → parseFieldDescriptor (TJx145de k).2.2.1 = some (tyJx145de k) := by decide +kernel
def RJ9 : String := "java/lang/Math"
def TJ9 : u_T := fun k => match k with
  | _ => ("", "", "", false)
def tyJ9 : Nat → FieldType := fun k => match k with
  | _ => .int
abbrev wsJ90 : List Cond := u_ws RJ9 TJ9 0
theorem nmJ9 : ∀ a, a < 0 → ∀ b, b < 0 → a ≠ b → (TJ9 a).2.1 ≠ (TJ9 b).2.1 := by decide +kernel
theorem tyJ9_ok : ∀ k, k < 0 → parseFieldDescriptor (TJ9 k).2.2.1 = some (tyJ9 k) := by decide +kernel
abbrev cJ9_min_7cf53 : ByteArray := prog_18_method_69_code
def yJ9_min_7cf53 : MethodName := ⟨RJ9, "min", "(II)I"⟩
def RJ0 : String := "java/lang/String"
def TJ0 : u_T := fun k => match k with
  | _ => ("", "", "", false)
def tyJ0 : Nat → FieldType := fun k => match k with
  | _ => .int
abbrev wsJ00 : List Cond := u_ws RJ0 TJ0 0
theorem nmJ0 : ∀ a, a < 0 → ∀ b, b < 0 → a ≠ b → (TJ0 a).2.1 ≠ (TJ0 b).2.1 := by decide +kernel
theorem tyJ0_ok : ∀ k, k < 0 → parseFieldDescriptor (TJ0 k).2.2.1 = some (tyJ0 k) := by decide +kernel
def RJ7 : String := "java/util/Arrays"
def TJ7 : u_T := fun k => match k with
  | _ => ("", "", "", false)
def tyJ7 : Nat → FieldType := fun k => match k with
  | _ => .int
abbrev wsJ70 : List Cond := u_ws RJ7 TJ7 0
theorem nmJ7 : ∀ a, a < 0 → ∀ b, b < 0 → a ≠ b → (TJ7 a).2.1 ≠ (TJ7 b).2.1 := by decide +kernel
theorem tyJ7_ok : ∀ k, k < 0 → parseFieldDescriptor (TJ7 k).2.2.1 = some (tyJ7 k) := by decide +kernel
abbrev cJ7_fill_53178 : ByteArray := prog_22_method_103_code
def yJ7_fill_53178 : MethodName := ⟨RJ7, "fill", "([II)V"⟩
def RL : String := "GraphCompareLaw"
abbrev cL_net : ByteArray := method_3_code
def yL_net : MethodName := ⟨RL, "net", "(LGraphCompare;II[J)I"⟩
abbrev cL_device : ByteArray := method_4_code
def yL_device : MethodName := ⟨RL, "device", "(LGraphCompare;IID[J)I"⟩
abbrev cL_pin : ByteArray := method_5_code
def yL_pin : MethodName := ⟨RL, "pin", "(LGraphCompare;IIII[J)I"⟩
abbrev cL_swap : ByteArray := method_6_code
def yL_swap : MethodName := ⟨RL, "swap", "(LGraphCompare;III[J)I"⟩
abbrev cL_share : ByteArray := method_7_code
def yL_share : MethodName := ⟨RL, "share", "(LGraphCompare;ID[J)I"⟩
abbrev cL_port : ByteArray := method_8_code
def yL_port : MethodName := ⟨RL, "port", "(LGraphCompare;III[J)I"⟩
abbrev cL_join : ByteArray := method_9_code
def yL_join : MethodName := ⟨RL, "join", "(LGraphCompare;II[J)I"⟩
abbrev cL_run : ByteArray := method_10_code
def yL_run : MethodName := ⟨RL, "run", "(LGraphCompare;J[J)I"⟩
abbrev cL_match : ByteArray := method_11_code
def yL_match : MethodName := ⟨RL, "match", "(LGraphCompare;II[J)I"⟩
abbrev cL_netMatch : ByteArray := method_12_code
def yL_netMatch : MethodName := ⟨RL, "netMatch", "(LGraphCompare;I[J)I"⟩
abbrev cL_differs : ByteArray := method_13_code
def yL_differs : MethodName := ⟨RL, "differs", "(LGraphCompare;II[J)I"⟩
abbrev cL_law : ByteArray := code
def yL_law : MethodName := ⟨RL, "law", "([I)Z"⟩
abbrev vwCl : List vw_C := [(RX0, TX0, 5), (RX1, TX1, 3), (RX2, TX2, 3), (RX3, TX3, 1), (RX4, TX4, 2), (RX5, TX5, 5), (RX6, TX6, 4), (RX7, TX7, 9), (RX8, TX8, 11), (RX9, TX9, 8), (RX10, TX10, 8), (RX11, TX11, 32)]
end
section
/-! ABSTRACT MACHINE, SHALLOW: values, cells, heaps of small numbers; 'ga_W' says that from a point (pc, locals, stack, heap) the method comes to its end with P, or throws with X. -/
-- words that stay
def ga_good2 : Cond → Bool
  | .fieldLinkNest .. => true
  | .methodLinkNest .. => true
  | .castable .. => true
  | .declares .. => true
  | w => goodWord w
def ga_big : List Cond := lw_tbl.filter ga_good2
theorem ga_mem {w : Cond} (h : w ∈ lw_tbl) (hg : ga_good2 w = true) : w ∈ ga_big := List.mem_filter.mpr ⟨h, hg⟩
theorem ga_warm {args : Array Value} {s : State} (hts : ∀ w ∈ ga_big, w.before args s = true) : ∀ w ∈ ga_big, ∀ (a' : Array Value) (U : State), s.WarmedH U.vm → w.before a' U = true := by
  intro w hw a' U hW
  have h1 := hts w hw
  have hg := (List.mem_filter.mp hw).2
  cases w with
  | fieldLinkNest a i b n d h => exact va_Nw.use rfl (va_Nw.warmF hW (va_Nw.of rfl h1))
  | methodLinkNest a i x h => exact va_Nw.use rfl (va_Nw.warmM hW (va_Nw.of rfl h1))
  | castable C T => exact va_Nw.use rfl (va_Nw.warmC hW (va_Nw.of rfl h1))
  | declares x => exact va_Nw.use rfl (va_Nw.warmD hW (va_Nw.of rfl h1))
  | _ => exact word_at hW (good_of_word hg) h1
-- values
abbrev ga_V : Type := Int ⊕ (Option Nat) ⊕ UInt64 ⊕ Int
abbrev ga_K : Type := (Nat × List ga_V) ⊕ (Nat × Nat × (Int → Int)) ⊕ (Nat × (Int → UInt64)) ⊕ (Nat × (Int → Int))
abbrev ga_H : Type := List ga_K
abbrev Vi (x : Int) : ga_V := .inl x
abbrev Vr (k : Nat) : ga_V := .inr (.inl (some k))
abbrev Vn : ga_V := .inr (.inl none)
abbrev Vd (d : UInt64) : ga_V := .inr (.inr (.inl d))
abbrev Vl (x : Int) : ga_V := .inr (.inr (.inr x))
def ga_v (ad : Nat → Nat) : ga_V → Value
  | .inl x => .int (Int32.ofInt x)
  | .inr (.inl none) => .null
  | .inr (.inl (some k)) => .ref (ad k)
  | .inr (.inr (.inl d)) => .double d
  | .inr (.inr (.inr x)) => .long (Int64.ofInt x)
def ga_c2 : ga_V → Bool
  | .inr (.inr _) => true
  | _ => false
theorem ga_cat (ad : Nat → Nat) (v : ga_V) : (ga_v ad v).category = if ga_c2 v then 2 else 1 := by
  rcases v with x | (_ | k) | d | x <;> rfl
def ga_c (tc : Nat → ClassId) (ad : Nat → Nat) : ga_K → va_E
  | .inl o => .inr (o.1, o.2.map (ga_v ad))
  | .inr (.inl a) => .inl (tc a.1, a.2.1, .inl (fun j => Int32.ofInt (a.2.2 (j : Int))))
  | .inr (.inr (.inl a)) => .inl (tc 2, a.1, .inr (.inr (.inr (.inl (fun j => a.2 (j : Int))))))
  | .inr (.inr (.inr a)) => .inl (tc 3, a.1, .inr (.inl (fun j => Int64.ofInt (a.2 (j : Int)))))
def ga_w (tc : Nat → ClassId) (ad : Nat → Nat) (h : ga_H) : va_W := h.mapIdx (fun i c => (ad i, ga_c tc ad c))
theorem ga_w_get (tc : Nat → ClassId) (ad : Nat → Nat) (h : ga_H) (k : Nat) : (ga_w tc ad h)[k]? = h[k]?.map (fun c => (ad k, ga_c tc ad c)) := by
  unfold ga_w
  rw [List.getElem?_mapIdx]
theorem ga_w_at {tc : Nat → ClassId} {ad : Nat → Nat} {h : ga_H} {k : Nat} {c : ga_K} (hk : h[k]? = some c) : (ga_w tc ad h)[k]? = some (ad k, ga_c tc ad c) := by
  rw [ga_w_get, hk]; rfl
theorem ga_w_set (tc : Nat → ClassId) (ad : Nat → Nat) (h : ga_H) (k : Nat) (c : ga_K) : ga_w tc ad (h.set k c) = (ga_w tc ad h).set k (ad k, ga_c tc ad c) := by
  apply List.ext_getElem?
  intro i
  rw [ga_w_get, List.getElem?_set, List.getElem?_set, ga_w_get]
  unfold ga_w
  rw [List.length_mapIdx]
  by_cases hk : k = i
  · subst hk
    by_cases hl : k < h.length <;> simp [hl]
  · simp [hk]
theorem ga_w_push (tc : Nat → ClassId) (ad : Nat → Nat) (h : ga_H) (c : ga_K) : ga_w tc ad (h ++ [c]) = ga_w tc ad h ++ [(ad h.length, ga_c tc ad c)] := by
  unfold ga_w
  rw [List.mapIdx_append]
  simp
-- numbers in range
abbrev ga_scr : Nat := 1000000
def ga_inI (x : Int) : Prop := -2147483648 ≤ x ∧ x ≤ 2147483647
def ga_inL (x : Int) : Prop := -9223372036854775808 ≤ x ∧ x ≤ 9223372036854775807
def ga_ok (n : Nat) : ga_V → Prop
  | .inl x => ga_inI x
  | .inr (.inl none) => True
  | .inr (.inl (some k)) => k < n ∨ k = ga_scr
  | .inr (.inr (.inl _)) => True
  | .inr (.inr (.inr x)) => ga_inL x
def ga_okc (n : Nat) : ga_K → Prop
  | .inl o => ∀ v ∈ o.2, ga_ok n v
  | .inr (.inl a) => ∀ j, ga_inI (a.2.2 j)
  | .inr (.inr (.inl _)) => True
  | .inr (.inr (.inr a)) => ∀ j, ga_inL (a.2 j)
def ga_okh (h : ga_H) : Prop := ∀ c ∈ h, ga_okc h.length c
def ga_oks (n : Nat) (st : List ga_V) : Prop := ∀ v ∈ st, ga_ok n v
def ga_okl (n : Nat) (lv : List (Option ga_V)) : Prop := ∀ v, some v ∈ lv → ga_ok n v
theorem ga_ok.mono {n n' : Nat} (hn : n ≤ n') {v : ga_V} (h : ga_ok n v) : ga_ok n' v := by
  rcases v with x | (_ | k) | d | x
  · exact h
  · trivial
  · exact h.elim (fun q => Or.inl (by omega)) Or.inr
  · trivial
  · exact h
theorem ga_okc.mono {n n' : Nat} (hn : n ≤ n') {c : ga_K} (h : ga_okc n c) : ga_okc n' c := by
  rcases c with o | a | a | a
  · exact fun v hv => (h v hv).mono hn
  · exact h
  · trivial
  · exact h
theorem ga_oks.mono {n n' : Nat} (hn : n ≤ n') {st : List ga_V} (h : ga_oks n st) : ga_oks n' st := fun v hv => (h v hv).mono hn
theorem ga_okl.mono {n n' : Nat} (hn : n ≤ n') {lv : List (Option ga_V)} (h : ga_okl n lv) : ga_okl n' lv := fun v hv => (h v hv).mono hn
-- addresses that agree
def ga_ag (n : Nat) (ad ad' : Nat → Nat) : Prop := ∀ i, i < n ∨ i = ga_scr → ad' i = ad i
theorem ga_v_ag {n : Nat} {ad ad' : Nat → Nat} (h : ga_ag n ad ad') {v : ga_V} (hv : ga_ok n v) : ga_v ad' v = ga_v ad v := by
  rcases v with x | (_ | k) | d | x
  · rfl
  · rfl
  · show Value.ref _ = Value.ref _
    rw [h k hv]
  · rfl
  · rfl
theorem ga_map_ag {n : Nat} {ad ad' : Nat → Nat} (h : ga_ag n ad ad') {st : List ga_V} (hv : ga_oks n st) : st.map (ga_v ad') = st.map (ga_v ad) :=
  List.map_congr_left fun v hm => ga_v_ag h (hv v hm)
theorem ga_c_ag {n : Nat} {ad ad' : Nat → Nat} (tc : Nat → ClassId) (h : ga_ag n ad ad') {c : ga_K} (hv : ga_okc n c) : ga_c tc ad' c = ga_c tc ad c := by
  rcases c with o | a | a | a
  · show Sum.inr (o.1, _) = Sum.inr (o.1, _)
    rw [ga_map_ag h hv]
  · rfl
  · rfl
  · rfl
-- Int32 as numbers
theorem ga_toI {x : Int} (h : ga_inI x) : (Int32.ofInt x).toInt = x := by
  obtain ⟨h1, h2⟩ := h
  rw [Int32.toInt_ofInt, show Int32.size = 4294967296 from rfl]
  exact Int.bmod_eq_of_le (by omega) (by omega)
theorem ga_ofI (x : Int32) : Int32.ofInt x.toInt = x := Int32.ofInt_toInt x
theorem ga_inI32 (x : Int32) : ga_inI x.toInt := ⟨Int32.le_toInt x, by have := Int32.toInt_lt x; omega⟩
theorem ga_lt {x y : Int} (hx : ga_inI x) (hy : ga_inI y) : Int32.ofInt x < Int32.ofInt y ↔ x < y := by
  rw [Int32.lt_iff_toInt_lt, ga_toI hx, ga_toI hy]
theorem ga_le {x y : Int} (hx : ga_inI x) (hy : ga_inI y) : Int32.ofInt x ≤ Int32.ofInt y ↔ x ≤ y := by
  rw [Int32.le_iff_toInt_le, ga_toI hx, ga_toI hy]
theorem ga_eq {x y : Int} (hx : ga_inI x) (hy : ga_inI y) : Int32.ofInt x = Int32.ofInt y ↔ x = y := by
  rw [← Int32.toInt_inj, ga_toI hx, ga_toI hy]
theorem ga_in0 : ga_inI 0 := ⟨by decide, by decide⟩
theorem ga_0 : (0 : Int32) = Int32.ofInt 0 := rfl
theorem ga_eq0 {x : Int} (hx : ga_inI x) : Int32.ofInt x = 0 ↔ x = 0 := by rw [ga_0, ga_eq hx ga_in0]
theorem ga_lt0 {x : Int} (hx : ga_inI x) : Int32.ofInt x < 0 ↔ x < 0 := by rw [ga_0, ga_lt hx ga_in0]
theorem ga_le0 {x : Int} (hx : ga_inI x) : Int32.ofInt x ≤ 0 ↔ x ≤ 0 := by rw [ga_0, ga_le hx ga_in0]
theorem ga_clamp {x : Int} (hx : ga_inI x) : (Int32.ofInt x).toNatClampNeg = x.toNat := by
  rw [Int32.toNatClampNeg, ga_toI hx]
theorem ga_vpin {x : Int} {n : Nat} (hx : ga_inI x) (h0 : 0 ≤ x) (h1 : x < n) : vp_in (Int32.ofInt x) n := vp_in_iff.mpr (by rw [ga_toI hx]; exact ⟨h0, h1⟩)
theorem ga_toL {x : Int} (h : ga_inL x) : (Int64.ofInt x).toInt = x := by
  obtain ⟨h1, h2⟩ := h
  rw [Int64.toInt_ofInt, show Int64.size = 18446744073709551616 from rfl]
  exact Int.bmod_eq_of_le (by omega) (by omega)
theorem ga_ofL (x : Int64) : Int64.ofInt x.toInt = x := Int64.ofInt_toInt x
theorem ga_inL64 (x : Int64) : ga_inL x.toInt := ⟨Int64.le_toInt x, by have := Int64.toInt_lt x; omega⟩
-- locals
def ga_l (ad : Nat → Nat) : Nat → List (Option ga_V) → List (Nat × Value)
  | _, [] => []
  | i, none :: t => ga_l ad (i + 1) t
  | i, some v :: t => (i, ga_v ad v) :: ga_l ad (i + 1) t
theorem ga_l_mem {ad : Nat → Nat} : ∀ {lv : List (Option ga_V)} {i : Nat} {q : Nat × Value}, q ∈ ga_l ad i lv ↔ ∃ (k : Nat) (v : ga_V), lv[k]? = some (some v) ∧ q = (i + k, ga_v ad v)
  | [], i, q => by simp [ga_l]
  | none :: t, i, q => by
    rw [ga_l, ga_l_mem]
    constructor
    · rintro ⟨k, v, h, rfl⟩
      exact ⟨k + 1, v, by simpa using h, by rw [Nat.add_assoc, Nat.add_comm 1 k]⟩
    · rintro ⟨k, v, h, rfl⟩
      cases k with
      | zero => simp at h
      | succ k => exact ⟨k, v, by simpa using h, by rw [Nat.add_assoc, Nat.add_comm 1 k]⟩
  | some w :: t, i, q => by
    rw [ga_l, List.mem_cons, ga_l_mem]
    constructor
    · rintro (rfl | ⟨k, v, h, rfl⟩)
      · exact ⟨0, w, rfl, rfl⟩
      · exact ⟨k + 1, v, by simpa using h, by rw [Nat.add_assoc, Nat.add_comm 1 k]⟩
    · rintro ⟨k, v, h, rfl⟩
      cases k with
      | zero =>
        left
        simp at h
        rw [h]; rfl
      | succ k => exact Or.inr ⟨k, v, by simpa using h, by rw [Nat.add_assoc, Nat.add_comm 1 k]⟩
theorem ga_l_at {ad : Nat → Nat} {ls : Array Slot} {n : Nat} {lv : List (Option ga_V)} (h : lv_has ls n (ga_l ad 0 lv)) {k : Nat} {v : ga_V} (hk : lv[k]? = some (some v)) : ls[k]? = some (.val (ga_v ad v)) :=
  h.2.2 (k, ga_v ad v) (ga_l_mem.mpr ⟨k, v, hk, by rw [Nat.zero_add]⟩)
theorem ga_l_ag {n N : Nat} {ad ad' : Nat → Nat} {ls : Array Slot} {lv : List (Option ga_V)} (h : lv_has ls N (ga_l ad 0 lv)) (hag : ga_ag n ad ad') (hok : ga_okl n lv) : lv_has ls N (ga_l ad' 0 lv) := by
  refine ⟨h.1, h.2.1, fun q hq => ?_⟩
  obtain ⟨k, v, hk, rfl⟩ := ga_l_mem.mp hq
  rw [Nat.zero_add, ga_v_ag hag (hok v (List.mem_of_getElem? hk))]
  exact ga_l_at h hk
def ga_pc2 (lv : List (Option ga_V)) (i : Nat) : Bool := match i with
  | 0 => false
  | j + 1 => match lv[j]? with
    | some (some v) => ga_c2 v
    | _ => false
theorem ga_l_store1 {ad : Nat → Nat} {ls : Array Slot} {n i : Nat} {lv : List (Option ga_V)} {v : ga_V} (h : lv_has ls n ((i, ga_v ad v) :: (ga_l ad 0 lv).filter (fun q => !(q.1 == i) && !(q.1 + 1 == i && q.2.category == 2)))) (hp : ga_pc2 lv i = false) : lv_has ls n (ga_l ad 0 (lv.set i (some v))) := by
  refine ⟨h.1, h.2.1, fun q hq => ?_⟩
  obtain ⟨k, w, hk, rfl⟩ := ga_l_mem.mp hq
  rw [Nat.zero_add]
  by_cases hki : i = k
  · subst hki
    rw [List.getElem?_set] at hk
    simp only [if_true] at hk
    by_cases hl : i < lv.length
    · rw [if_pos hl] at hk
      cases hk
      exact h.2.2 (i, ga_v ad v) List.mem_cons_self
    · rw [if_neg hl] at hk
      cases hk
  · rw [List.getElem?_set_ne hki] at hk
    refine h.2.2 (k, ga_v ad w) (List.mem_cons_of_mem _ (List.mem_filter.mpr ⟨ga_l_mem.mpr ⟨k, w, hk, by rw [Nat.zero_add]⟩, ?_⟩))
    have h1 : (k == i) = false := by simp; omega
    simp only [h1, Bool.not_false, Bool.true_and, Bool.not_eq_true', Bool.and_eq_false_iff]
    by_cases h2 : k + 1 = i
    · right
      subst h2
      rw [ga_cat]
      simp only [ga_pc2, hk] at hp
      rw [hp]
      rfl
    · left
      simp; omega
theorem ga_l_store2 {ad : Nat → Nat} {ls : Array Slot} {n i : Nat} {lv : List (Option ga_V)} {v : ga_V} (h : lv_has ls n ((i, ga_v ad v) :: (ga_l ad 0 lv).filter (fun q => !(q.1 == i) && (!(q.1 == i + 1) && !(q.1 + 1 == i && q.2.category == 2))))) (hp : ga_pc2 lv i = false) : lv_has ls n (ga_l ad 0 ((lv.set i (some v)).set (i + 1) none)) := by
  refine ⟨h.1, h.2.1, fun q hq => ?_⟩
  obtain ⟨k, w, hk, rfl⟩ := ga_l_mem.mp hq
  rw [Nat.zero_add]
  by_cases hk1 : i + 1 = k
  · subst hk1
    rw [List.getElem?_set] at hk
    simp only [if_true] at hk
    split at hk <;> cases hk
  rw [List.getElem?_set_ne hk1] at hk
  by_cases hki : i = k
  · subst hki
    rw [List.getElem?_set] at hk
    simp only [if_true] at hk
    by_cases hl : i < lv.length
    · rw [if_pos hl] at hk
      cases hk
      exact h.2.2 (i, ga_v ad v) List.mem_cons_self
    · rw [if_neg hl] at hk
      cases hk
  · rw [List.getElem?_set_ne hki] at hk
    refine h.2.2 (k, ga_v ad w) (List.mem_cons_of_mem _ (List.mem_filter.mpr ⟨ga_l_mem.mpr ⟨k, w, hk, by rw [Nat.zero_add]⟩, ?_⟩))
    have h1 : (k == i) = false := by simp; omega
    have h3 : (k == i + 1) = false := by simp; omega
    simp only [h1, h3, Bool.not_false, Bool.true_and, Bool.not_eq_true', Bool.and_eq_false_iff]
    by_cases h2 : k + 1 = i
    · right
      subst h2
      rw [ga_cat]
      simp only [ga_pc2, hk] at hp
      rw [hp]
      rfl
    · left
      simp; omega
theorem ga_okl_set {n i : Nat} {lv : List (Option ga_V)} {v : ga_V} (h : ga_okl n lv) (hv : ga_ok n v) : ga_okl n (lv.set i (some v)) := fun w hw => by
  rcases List.mem_or_eq_of_mem_set hw with q | q
  · exact h w q
  · cases q; exact hv
theorem ga_okl_clr {n i : Nat} {lv : List (Option ga_V)} (h : ga_okl n lv) : ga_okl n (lv.set i none) := fun w hw => by
  rcases List.mem_or_eq_of_mem_set hw with q | q
  · exact h w q
  · cases q
-- updates
def ga_up {α : Type} (f : Int → α) (i : Int) (x : α) : Int → α := fun j => if j = i then x else f j
theorem ga_upI {f : Int → Int} {i x : Int} (h0 : 0 ≤ i) : upd (fun j : Nat => Int32.ofInt (f (j : Int))) i.toNat (Int32.ofInt x) = fun j : Nat => Int32.ofInt (ga_up f i x (j : Int)) := by
  funext j
  unfold upd ga_up
  by_cases h : j = i.toNat
  · rw [if_pos h, if_pos (by omega)]
  · rw [if_neg h, if_neg (by omega)]
theorem ga_upL {f : Int → Int} {i x : Int} (h0 : 0 ≤ i) : vp_updL (fun j : Nat => Int64.ofInt (f (j : Int))) i.toNat (Int64.ofInt x) = fun j : Nat => Int64.ofInt (ga_up f i x (j : Int)) := by
  funext j
  unfold vp_updL ga_up
  by_cases h : j = i.toNat
  · rw [if_pos h, if_pos (by omega)]
  · rw [if_neg h, if_neg (by omega)]
theorem ga_upD {f : Int → UInt64} {i : Int} {x : UInt64} (h0 : 0 ≤ i) : vf_upd (fun j : Nat => f (j : Int)) i.toNat x = fun j : Nat => ga_up f i x (j : Int) := by
  funext j
  unfold vf_upd ga_up
  by_cases h : j = i.toNat
  · rw [if_pos h, if_pos (by omega)]
  · rw [if_neg h, if_neg (by omega)]
theorem ga_cast {i : Int} (h0 : 0 ≤ i) : ((i.toNat : Nat) : Int) = i := Int.toNat_of_nonneg h0
end
section
-- the point of a walk: what stays (ga_C), what moves (ga_D)
abbrev ga_M0 : Type := MethodName × ByteArray × Nat × Option FieldType × List (Nat × Nat × Nat × Nat) × Option (Nat × (Nat → Int32))
abbrev ga_y (M : ga_M0) : MethodName := M.1
abbrev ga_b (M : ga_M0) : ByteArray := M.2.1
abbrev ga_n (M : ga_M0) : Nat := M.2.2.1
abbrev ga_r (M : ga_M0) : Option FieldType := M.2.2.2.1
abbrev ga_hh (M : ga_M0) : List (Nat × Nat × Nat × Nat) := M.2.2.2.2.1
abbrev ga_sc (M : ga_M0) : Option (Nat × (Nat → Int32)) := M.2.2.2.2.2
def ga_tys (tc : Nat → ClassId) : List (ClassId × FieldType) := [(tc 0, .int), (tc 1, .boolean), (tc 2, .double), (tc 3, .long)]
def ga_Z (A : Nat → Prop) (s : State) : Prop := vx_Zq Bundle.tN "UNASSIGNED_STACK" Bundle.steD A s s.heap ∧ vx_Zq Bundle.tN "SUPPRESSED_SENTINEL" Bundle.listD A s s.heap
def ga_ncp : List (String × String) := [("java/lang/IllegalStateException", "java/lang/IndexOutOfBoundsException"), ("java/lang/IllegalArgumentException", "java/lang/IndexOutOfBoundsException"), ("java/lang/IllegalArgumentException", "java/lang/IllegalStateException")]
def ga_Str (L : List (String × Nat × String)) (s : State) : Prop := (∀ q ∈ L, ∃ sa : Nat, vk_R q.1 q.2.1 q.2.2 sa s) ∧ ∀ q ∈ ga_ncp, va_Nc q.1 q.2 s
def ga_strs : List (String × Nat × String) := [("GraphCompare", 228, "no such side"), ("GraphCompare", 69, "no more nets"), ("GraphCompare", 76, "a name below 0"), ("GraphCompare", 89, "no such kind"), ("GraphCompare", 95, "no more devices"), ("GraphCompare", 99, "no such size"), ("GraphCompare", 112, "no such device"), ("GraphCompare", 117, "no such pin"), ("GraphCompare", 122, "no such net"), ("GraphCompare", 137, "no such share"), ("GraphCompare", 147, "the name of another port"), ("GraphCompare", 153, "no such rule"), ("GraphCompare", 164, "no such number of tries"), ("GraphCompare", 217, "no such difference"), ("GraphCompare", 219, "no such part of a difference")]
abbrev ga_Po : Type := Option ga_V → ga_H → Prop
abbrev ga_Px : Type := String → ga_H → Prop
/-- the heap's picture at a point -/
def ga_Pic (G : va_G) (tc : Nat → ClassId) (A : Nat → Prop) (H0 : Heap) (ad0 ad : Nat → Nat) (n0 : Nat) (h : ga_H) (H : Heap) (locs : List Loc) : Prop :=
  n0 ≤ h.length ∧ ga_ag n0 ad0 ad ∧ h.length ≤ 900000 ∧ ga_okh h ∧ va_P G vwCl (ga_w tc ad h) H ∧ va_D A (ga_w tc ad h) ∧ va_S A H0 H locs
/-- the instruction that leaves a method with v -/
def ga_R (M : ga_M0) (pc : Nat) : Option ga_V → Prop
  | none => decode (ga_b M) pc = .ok (.return_, 1) ∧ ga_r M = none
  | some (.inl x) => decode (ga_b M) pc = .ok (.ireturn, 1) ∧ ∃ ty, ga_r M = some ty ∧ narrow ty (.int (Int32.ofInt x)) = .int (Int32.ofInt x)
  | some (.inr (.inl _)) => decode (ga_b M) pc = .ok (.areturn, 1) ∧ ∃ rt, ga_r M = some rt ∧ ((∃ n, rt = .object n) ∨ ∃ t, rt = .array t)
  | some (.inr (.inr (.inl _))) => decode (ga_b M) pc = .ok (.dreturn, 1) ∧ ga_r M = some .double
  | some (.inr (.inr (.inr _))) => False
/-- the ends: what a return owes, what a throw owes -/
def ga_E (p : Program) (l : Launch) (e : Env) (R : Room) (s : State) (m : MethodId) (args : Array Value) (below : List Frame) (meth : Method) (c : Code) (G : va_G) (tc : Nat → ClassId) (A : Nat → Prop) (ad0 : Nat → Nat) (n0 : Nat) (Q : State → Prop) (mc ms : Nat) (M : ga_M0) (P : ga_Po) (X : ga_Px) : Prop :=
  (∀ (v : Option ga_V) (h : ga_H) (ad : Nat → Nat) (H : Heap) (locs : List Loc) (k n pc : Nat) (ls : Array Slot), P v h → ga_Pic G tc A s.heap ad0 ad n0 h H locs → (∀ x, v = some x → ga_ok h.length x) → k ≤ mc → n ≤ ms → ga_R M pc v →
    W p l e R s m args below meth c H locs k n Q (F0 m pc ls (v.toList.map (ga_v ad)))) ∧
  ((∀ E h, ¬ X E h) ∨ ∃ (Qc : Array Value → State → Outcome → State → Prop) (XC : String → State → State → Prop), Q = vx_MQ below Qc XC args s mc ms A ∧
    ∀ (E : String) (h : ga_H) (ad : Nat → Nat) (H : Heap) (locs : List Loc) (t : State), X E h → ga_Pic G tc A s.heap ad0 ad n0 h H locs → t.heap = H → s.vm.Alike t.vm → XC E s t)
def ga_C (p : Program) (l : Launch) (e : Env) (R : Room) (s : State) (m : MethodId) (args : Array Value) (below : List Frame) (meth : Method) (c : Code) (G : va_G) (tc : Nat → ClassId) (A : Nat → Prop) (ad0 : Nat → Nat) (n0 : Nat) (Q : State → Prop) (t mc ms : Nat) (M : ga_M0) (P : ga_Po) (X : ga_Px) : Prop :=
  p.tables.exec = Jvm.exec ∧ c.code = ga_b M ∧ c.maxLocals = ga_n M ∧ meth.sig.returnType = ga_r M ∧ s.vm.findClass (ga_y M).cls = some m.cls ∧ (∀ w ∈ ga_big, w.before args s = true) ∧ va_K G vwCl (ga_tys tc) s ∧
  (∀ q, s.heap.size ≤ q → A q) ∧ meth.locks = false ∧ ((ga_y M).name = "<init>" → meth.name = "<init>") ∧ l.stackTraces = false ∧ c.exceptionTable.toList = tableOf (ga_hh M) ∧ ga_Z A s ∧ ga_Str ga_strs s ∧
  (∀ L xs, ga_sc M = some (L, xs) → va_X (ad0 ga_scr) L xs s s.heap ∧ ad0 ga_scr < s.heap.size ∧ ¬ A (ad0 ga_scr)) ∧
  (R.cells = mc ∧ R.slots = ms ∧ t ≤ R.frames ∧ 35 * t ≤ R.locals) ∧ ga_E p l e R s m args below meth c G tc A ad0 n0 Q mc ms M P X
/-- from here the method comes to its end -/
def ga_W (t mc ms kc ks : Nat) (M : ga_M0) (P : ga_Po) (X : ga_Px) (pc : Nat) (lv : List (Option ga_V)) (st : List ga_V) (h : ga_H) : Prop :=
  ∀ (p : Program) (l : Launch) (e : Env) (R : Room) (s : State) (m : MethodId) (args : Array Value) (below : List Frame) (meth : Method) (c : Code) (G : va_G) (tc : Nat → ClassId) (A : Nat → Prop) (ad0 ad : Nat → Nat) (n0 : Nat) (H : Heap) (locs : List Loc) (ls : Array Slot) (Q : State → Prop),
    ga_C p l e R s m args below meth c G tc A ad0 n0 Q t mc ms M P X → ga_Pic G tc A s.heap ad0 ad n0 h H locs → lv_has ls (ga_n M) (ga_l ad 0 lv) → ga_okl h.length lv → ga_oks h.length st →
    W p l e R s m args below meth c H locs kc ks Q (F0 m pc ls (st.map (ga_v ad)))
theorem ga_oks.cons {n : Nat} {v : ga_V} {st : List ga_V} (hv : ga_ok n v) (h : ga_oks n st) : ga_oks n (v :: st) := fun w hw => by
  rcases List.mem_cons.mp hw with q | q
  · rw [q]; exact hv
  · exact h w q
theorem ga_oks.tail {n : Nat} {v : ga_V} {st : List ga_V} (h : ga_oks n (v :: st)) : ga_oks n st := fun w hw => h w (List.mem_cons_of_mem _ hw)
theorem ga_oks.head {n : Nat} {v : ga_V} {st : List ga_V} (h : ga_oks n (v :: st)) : ga_ok n v := h v List.mem_cons_self

section GaRules
variable {t mc ms kc ks : Nat} {M : ga_M0} {P : ga_Po} {X : ga_Px} {pc : Nat} {lv : List (Option ga_V)} {st : List ga_V} {h : ga_H}
theorem ga_iconst {n : Int} (hd : decode (ga_b M) pc = .ok (.iconst n, 1)) (hn : ga_inI n) (k : ga_W t mc ms kc ks M P X (pc + 1) lv (Vi n :: st) h) : ga_W t mc ms kc ks M P X pc lv (st) h := by
  intro p l e R s m args below meth c G tc A ad0 ad n0 H locs ls Q hC hP hl hol hos
  have hx := hC.1
  have hb := hC.2.1
  refine lv_iconst hx hb hd rfl ?_
  exact k p l e R s m args below meth c G tc A ad0 ad n0 H locs ls Q hC hP hl hol (ga_oks.cons (v := Vi n) hn hos)
theorem ga_bipush {n : Int} (hd : decode (ga_b M) pc = .ok (.bipush n, 2)) (hn : ga_inI n) (hv : (Int8.ofInt n).toInt32 = Int32.ofInt n) (k : ga_W t mc ms kc ks M P X (pc + 2) lv (Vi n :: st) h) : ga_W t mc ms kc ks M P X pc lv (st) h := by
  intro p l e R s m args below meth c G tc A ad0 ad n0 H locs ls Q hC hP hl hol hos
  have hx := hC.1
  have hb := hC.2.1
  refine lv_bipush hx hb hd hv ?_
  exact k p l e R s m args below meth c G tc A ad0 ad n0 H locs ls Q hC hP hl hol (ga_oks.cons (v := Vi n) hn hos)
theorem ga_sipush {n : Int} (hd : decode (ga_b M) pc = .ok (.sipush n, 3)) (hn : ga_inI n) (hv : (Int16.ofInt n).toInt32 = Int32.ofInt n) (k : ga_W t mc ms kc ks M P X (pc + 3) lv (Vi n :: st) h) : ga_W t mc ms kc ks M P X pc lv (st) h := by
  intro p l e R s m args below meth c G tc A ad0 ad n0 H locs ls Q hC hP hl hol hos
  have hx := hC.1
  have hb := hC.2.1
  refine lv_sipush hx hb hd hv ?_
  exact k p l e R s m args below meth c G tc A ad0 ad n0 H locs ls Q hC hP hl hol (ga_oks.cons (v := Vi n) hn hos)
theorem ga_lconst {n : Fin 2} {z : Int} (hd : decode (ga_b M) pc = .ok (.lconst n, 1)) (hn : ga_inL z) (hv : Int64.ofNat (n : Nat) = Int64.ofInt z) (k : ga_W t mc ms kc ks M P X (pc + 1) lv (Vl z :: st) h) : ga_W t mc ms kc ks M P X pc lv (st) h := by
  intro p l e R s m args below meth c G tc A ad0 ad n0 H locs ls Q hC hP hl hol hos
  have hx := hC.1
  have hb := hC.2.1
  refine lv_lconst hx hb hd hv ?_
  exact k p l e R s m args below meth c G tc A ad0 ad n0 H locs ls Q hC hP hl hol (ga_oks.cons (v := Vl z) hn hos)
theorem ga_dconst0  (hd : decode (ga_b M) pc = .ok (.dconst 0, 1)) (k : ga_W t mc ms kc ks M P X (pc + 1) lv (Vd FP.dconst0 :: st) h) : ga_W t mc ms kc ks M P X pc lv (st) h := by
  intro p l e R s m args below meth c G tc A ad0 ad n0 H locs ls Q hC hP hl hol hos
  have hx := hC.1
  have hb := hC.2.1
  refine lv_dconst0 hx hb hd ?_
  exact k p l e R s m args below meth c G tc A ad0 ad n0 H locs ls Q hC hP hl hol (ga_oks.cons (v := Vd FP.dconst0) trivial hos)
theorem ga_dconst1  (hd : decode (ga_b M) pc = .ok (.dconst 1, 1)) (k : ga_W t mc ms kc ks M P X (pc + 1) lv (Vd FP.dconst1 :: st) h) : ga_W t mc ms kc ks M P X pc lv (st) h := by
  intro p l e R s m args below meth c G tc A ad0 ad n0 H locs ls Q hC hP hl hol hos
  have hx := hC.1
  have hb := hC.2.1
  refine lv_dconst1 hx hb hd ?_
  exact k p l e R s m args below meth c G tc A ad0 ad n0 H locs ls Q hC hP hl hol (ga_oks.cons (v := Vd FP.dconst1) trivial hos)
theorem ga_ldc2d {i : Nat} {v : UInt64} (hd : decode (ga_b M) pc = .ok (.ldc2_w i, 3)) (hw : Cond.constantDouble (ga_y M).cls i v ∈ ga_big) (k : ga_W t mc ms kc ks M P X (pc + 3) lv (Vd v :: st) h) : ga_W t mc ms kc ks M P X pc lv (st) h := by
  intro p l e R s m args below meth c G tc A ad0 ad n0 H locs ls Q hC hP hl hol hos
  have hx := hC.1
  have hb := hC.2.1
  refine lv_ldc2d hx hb hC.2.2.2.2.1 (hC.2.2.2.2.2.1 _ hw) hd ?_
  exact k p l e R s m args below meth c G tc A ad0 ad n0 H locs ls Q hC hP hl hol (ga_oks.cons (v := Vd v) trivial hos)
theorem ga_ldc2l {i : Nat} {w : Int64} {z : Int} (hd : decode (ga_b M) pc = .ok (.ldc2_w i, 3)) (hw : Cond.constantLong (ga_y M).cls i w ∈ ga_big) (hz : w = Int64.ofInt z) (hn : ga_inL z) (k : ga_W t mc ms kc ks M P X (pc + 3) lv (Vl z :: st) h) : ga_W t mc ms kc ks M P X pc lv (st) h := by
  intro p l e R s m args below meth c G tc A ad0 ad n0 H locs ls Q hC hP hl hol hos
  have hx := hC.1
  have hb := hC.2.1
  refine lv_ldc2 (v := Int64.ofInt z) hx hb hC.2.2.2.2.1 (hC.2.2.2.2.2.1 _ (by rw [← hz]; exact hw)) hd ?_
  exact k p l e R s m args below meth c G tc A ad0 ad n0 H locs ls Q hC hP hl hol (ga_oks.cons (v := Vl z) hn hos)
theorem ga_iload_n {i : Fin 4} {x : Int} (hd : decode (ga_b M) pc = .ok (.iload_n i, 1)) (hi : lv[(i : Nat)]? = some (some (Vi x))) (k : ga_W t mc ms kc ks M P X (pc + 1) lv (Vi x :: st) h) : ga_W t mc ms kc ks M P X pc lv (st) h := by
  intro p l e R s m args below meth c G tc A ad0 ad n0 H locs ls Q hC hP hl hol hos
  have hx := hC.1
  have hb := hC.2.1
  refine lv_iload_n hx hb hd rfl (ga_l_at (v := Vi x) hl hi) ?_
  exact k p l e R s m args below meth c G tc A ad0 ad n0 H locs ls Q hC hP hl hol (ga_oks.cons (hol _ (List.mem_of_getElem? hi)) hos)
theorem ga_iload {i : Nat} {x : Int} (hd : decode (ga_b M) pc = .ok (.iload i, 2)) (hi : lv[i]? = some (some (Vi x))) (k : ga_W t mc ms kc ks M P X (pc + 2) lv (Vi x :: st) h) : ga_W t mc ms kc ks M P X pc lv (st) h := by
  intro p l e R s m args below meth c G tc A ad0 ad n0 H locs ls Q hC hP hl hol hos
  have hx := hC.1
  have hb := hC.2.1
  refine lv_iload hx hb hd (ga_l_at (v := Vi x) hl hi) ?_
  exact k p l e R s m args below meth c G tc A ad0 ad n0 H locs ls Q hC hP hl hol (ga_oks.cons (hol _ (List.mem_of_getElem? hi)) hos)
theorem ga_aload_n {i : Fin 4} {x : Nat} (hd : decode (ga_b M) pc = .ok (.aload_n i, 1)) (hi : lv[(i : Nat)]? = some (some (Vr x))) (k : ga_W t mc ms kc ks M P X (pc + 1) lv (Vr x :: st) h) : ga_W t mc ms kc ks M P X pc lv (st) h := by
  intro p l e R s m args below meth c G tc A ad0 ad n0 H locs ls Q hC hP hl hol hos
  have hx := hC.1
  have hb := hC.2.1
  refine lv_aload_n hx hb hd rfl (ga_l_at (v := Vr x) hl hi) ?_
  exact k p l e R s m args below meth c G tc A ad0 ad n0 H locs ls Q hC hP hl hol (ga_oks.cons (hol _ (List.mem_of_getElem? hi)) hos)
theorem ga_aload {i : Nat} {x : Nat} (hd : decode (ga_b M) pc = .ok (.aload i, 2)) (hi : lv[i]? = some (some (Vr x))) (k : ga_W t mc ms kc ks M P X (pc + 2) lv (Vr x :: st) h) : ga_W t mc ms kc ks M P X pc lv (st) h := by
  intro p l e R s m args below meth c G tc A ad0 ad n0 H locs ls Q hC hP hl hol hos
  have hx := hC.1
  have hb := hC.2.1
  refine lv_aload hx hb hd (ga_l_at (v := Vr x) hl hi) ?_
  exact k p l e R s m args below meth c G tc A ad0 ad n0 H locs ls Q hC hP hl hol (ga_oks.cons (hol _ (List.mem_of_getElem? hi)) hos)
theorem ga_dload_n {i : Fin 4} {x : UInt64} (hd : decode (ga_b M) pc = .ok (.dload_n i, 1)) (hi : lv[(i : Nat)]? = some (some (Vd x))) (k : ga_W t mc ms kc ks M P X (pc + 1) lv (Vd x :: st) h) : ga_W t mc ms kc ks M P X pc lv (st) h := by
  intro p l e R s m args below meth c G tc A ad0 ad n0 H locs ls Q hC hP hl hol hos
  have hx := hC.1
  have hb := hC.2.1
  refine lv_dload_n hx hb hd rfl (ga_l_at (v := Vd x) hl hi) ?_
  exact k p l e R s m args below meth c G tc A ad0 ad n0 H locs ls Q hC hP hl hol (ga_oks.cons (hol _ (List.mem_of_getElem? hi)) hos)
theorem ga_dload {i : Nat} {x : UInt64} (hd : decode (ga_b M) pc = .ok (.dload i, 2)) (hi : lv[i]? = some (some (Vd x))) (k : ga_W t mc ms kc ks M P X (pc + 2) lv (Vd x :: st) h) : ga_W t mc ms kc ks M P X pc lv (st) h := by
  intro p l e R s m args below meth c G tc A ad0 ad n0 H locs ls Q hC hP hl hol hos
  have hx := hC.1
  have hb := hC.2.1
  refine lv_dload hx hb hd (ga_l_at (v := Vd x) hl hi) ?_
  exact k p l e R s m args below meth c G tc A ad0 ad n0 H locs ls Q hC hP hl hol (ga_oks.cons (hol _ (List.mem_of_getElem? hi)) hos)
theorem ga_lload_n {i : Fin 4} {x : Int} (hd : decode (ga_b M) pc = .ok (.lload_n i, 1)) (hi : lv[(i : Nat)]? = some (some (Vl x))) (k : ga_W t mc ms kc ks M P X (pc + 1) lv (Vl x :: st) h) : ga_W t mc ms kc ks M P X pc lv (st) h := by
  intro p l e R s m args below meth c G tc A ad0 ad n0 H locs ls Q hC hP hl hol hos
  have hx := hC.1
  have hb := hC.2.1
  refine lv_lload_n hx hb hd rfl (ga_l_at (v := Vl x) hl hi) ?_
  exact k p l e R s m args below meth c G tc A ad0 ad n0 H locs ls Q hC hP hl hol (ga_oks.cons (hol _ (List.mem_of_getElem? hi)) hos)
theorem ga_lload {i : Nat} {x : Int} (hd : decode (ga_b M) pc = .ok (.lload i, 2)) (hi : lv[i]? = some (some (Vl x))) (k : ga_W t mc ms kc ks M P X (pc + 2) lv (Vl x :: st) h) : ga_W t mc ms kc ks M P X pc lv (st) h := by
  intro p l e R s m args below meth c G tc A ad0 ad n0 H locs ls Q hC hP hl hol hos
  have hx := hC.1
  have hb := hC.2.1
  refine lv_lload hx hb hd (ga_l_at (v := Vl x) hl hi) ?_
  exact k p l e R s m args below meth c G tc A ad0 ad n0 H locs ls Q hC hP hl hol (ga_oks.cons (hol _ (List.mem_of_getElem? hi)) hos)
theorem ga_istore_n {i : Fin 4} {x : Int} {lv2 : List (Option ga_V)} (hd : decode (ga_b M) pc = .ok (.istore_n i, 1)) (hi : (i : Nat) < ga_n M) (hp : ga_pc2 lv (i : Nat) = false) (hl2 : lv.set (i : Nat) (some (Vi x)) = lv2) (k : ga_W t mc ms kc ks M P X (pc + 1) lv2 st h) : ga_W t mc ms kc ks M P X pc lv (Vi x :: st) h := by
  intro p l e R s m args below meth c G tc A ad0 ad n0 H locs ls Q hC hP hl hol hos
  have hx := hC.1
  have hb := hC.2.1
  subst hl2
  refine lv_istore_n hx hb hd rfl hl hi rfl (fun ls2 hl2 => ?_)
  exact k p l e R s m args below meth c G tc A ad0 ad n0 H locs ls2 Q hC hP (ga_l_store1 (v := Vi x) hl2 hp) (ga_okl_set hol hos.head) hos.tail
theorem ga_istore {i : Nat} {x : Int} {lv2 : List (Option ga_V)} (hd : decode (ga_b M) pc = .ok (.istore i, 2)) (hi : i < ga_n M) (hp : ga_pc2 lv i = false) (hl2 : lv.set i (some (Vi x)) = lv2) (k : ga_W t mc ms kc ks M P X (pc + 2) lv2 st h) : ga_W t mc ms kc ks M P X pc lv (Vi x :: st) h := by
  intro p l e R s m args below meth c G tc A ad0 ad n0 H locs ls Q hC hP hl hol hos
  have hx := hC.1
  have hb := hC.2.1
  subst hl2
  refine lv_istore hx hb hd hl hi rfl (fun ls2 hl2 => ?_)
  exact k p l e R s m args below meth c G tc A ad0 ad n0 H locs ls2 Q hC hP (ga_l_store1 (v := Vi x) hl2 hp) (ga_okl_set hol hos.head) hos.tail
theorem ga_astore_n {i : Fin 4} {x : Nat} {lv2 : List (Option ga_V)} (hd : decode (ga_b M) pc = .ok (.astore_n i, 1)) (hi : (i : Nat) < ga_n M) (hp : ga_pc2 lv (i : Nat) = false) (hl2 : lv.set (i : Nat) (some (Vr x)) = lv2) (k : ga_W t mc ms kc ks M P X (pc + 1) lv2 st h) : ga_W t mc ms kc ks M P X pc lv (Vr x :: st) h := by
  intro p l e R s m args below meth c G tc A ad0 ad n0 H locs ls Q hC hP hl hol hos
  have hx := hC.1
  have hb := hC.2.1
  subst hl2
  refine lv_astore_n hx hb hd rfl hl hi rfl (fun ls2 hl2 => ?_)
  exact k p l e R s m args below meth c G tc A ad0 ad n0 H locs ls2 Q hC hP (ga_l_store1 (v := Vr x) hl2 hp) (ga_okl_set hol hos.head) hos.tail
theorem ga_astore {i : Nat} {x : Nat} {lv2 : List (Option ga_V)} (hd : decode (ga_b M) pc = .ok (.astore i, 2)) (hi : i < ga_n M) (hp : ga_pc2 lv i = false) (hl2 : lv.set i (some (Vr x)) = lv2) (k : ga_W t mc ms kc ks M P X (pc + 2) lv2 st h) : ga_W t mc ms kc ks M P X pc lv (Vr x :: st) h := by
  intro p l e R s m args below meth c G tc A ad0 ad n0 H locs ls Q hC hP hl hol hos
  have hx := hC.1
  have hb := hC.2.1
  subst hl2
  refine lv_astore hx hb hd hl hi rfl (fun ls2 hl2 => ?_)
  exact k p l e R s m args below meth c G tc A ad0 ad n0 H locs ls2 Q hC hP (ga_l_store1 (v := Vr x) hl2 hp) (ga_okl_set hol hos.head) hos.tail
theorem ga_dstore_n {i : Fin 4} {x : UInt64} {lv2 : List (Option ga_V)} (hd : decode (ga_b M) pc = .ok (.dstore_n i, 1)) (hi : (i : Nat) + 1 < ga_n M) (hp : ga_pc2 lv (i : Nat) = false) (hl2 : (lv.set (i : Nat) (some (Vd x))).set ((i : Nat) + 1) none = lv2) (k : ga_W t mc ms kc ks M P X (pc + 1) lv2 st h) : ga_W t mc ms kc ks M P X pc lv (Vd x :: st) h := by
  intro p l e R s m args below meth c G tc A ad0 ad n0 H locs ls Q hC hP hl hol hos
  have hx := hC.1
  have hb := hC.2.1
  subst hl2
  refine lv_dstore_n hx hb hd rfl hl hi rfl (fun ls2 hl2 => ?_)
  exact k p l e R s m args below meth c G tc A ad0 ad n0 H locs ls2 Q hC hP (ga_l_store2 (v := Vd x) hl2 hp) (ga_okl_clr (ga_okl_set hol hos.head)) hos.tail
theorem ga_dstore {i : Nat} {x : UInt64} {lv2 : List (Option ga_V)} (hd : decode (ga_b M) pc = .ok (.dstore i, 2)) (hi : i + 1 < ga_n M) (hp : ga_pc2 lv i = false) (hl2 : (lv.set i (some (Vd x))).set (i + 1) none = lv2) (k : ga_W t mc ms kc ks M P X (pc + 2) lv2 st h) : ga_W t mc ms kc ks M P X pc lv (Vd x :: st) h := by
  intro p l e R s m args below meth c G tc A ad0 ad n0 H locs ls Q hC hP hl hol hos
  have hx := hC.1
  have hb := hC.2.1
  subst hl2
  refine lv_dstore hx hb hd hl hi rfl (fun ls2 hl2 => ?_)
  exact k p l e R s m args below meth c G tc A ad0 ad n0 H locs ls2 Q hC hP (ga_l_store2 (v := Vd x) hl2 hp) (ga_okl_clr (ga_okl_set hol hos.head)) hos.tail
theorem ga_lstore_n {i : Fin 4} {x : Int} {lv2 : List (Option ga_V)} (hd : decode (ga_b M) pc = .ok (.lstore_n i, 1)) (hi : (i : Nat) + 1 < ga_n M) (hp : ga_pc2 lv (i : Nat) = false) (hl2 : (lv.set (i : Nat) (some (Vl x))).set ((i : Nat) + 1) none = lv2) (k : ga_W t mc ms kc ks M P X (pc + 1) lv2 st h) : ga_W t mc ms kc ks M P X pc lv (Vl x :: st) h := by
  intro p l e R s m args below meth c G tc A ad0 ad n0 H locs ls Q hC hP hl hol hos
  have hx := hC.1
  have hb := hC.2.1
  subst hl2
  refine lv_lstore_n hx hb hd rfl hl hi rfl (fun ls2 hl2 => ?_)
  exact k p l e R s m args below meth c G tc A ad0 ad n0 H locs ls2 Q hC hP (ga_l_store2 (v := Vl x) hl2 hp) (ga_okl_clr (ga_okl_set hol hos.head)) hos.tail
theorem ga_lstore {i : Nat} {x : Int} {lv2 : List (Option ga_V)} (hd : decode (ga_b M) pc = .ok (.lstore i, 2)) (hi : i + 1 < ga_n M) (hp : ga_pc2 lv i = false) (hl2 : (lv.set i (some (Vl x))).set (i + 1) none = lv2) (k : ga_W t mc ms kc ks M P X (pc + 2) lv2 st h) : ga_W t mc ms kc ks M P X pc lv (Vl x :: st) h := by
  intro p l e R s m args below meth c G tc A ad0 ad n0 H locs ls Q hC hP hl hol hos
  have hx := hC.1
  have hb := hC.2.1
  subst hl2
  refine lv_lstore hx hb hd hl hi rfl (fun ls2 hl2 => ?_)
  exact k p l e R s m args below meth c G tc A ad0 ad n0 H locs ls2 Q hC hP (ga_l_store2 (v := Vl x) hl2 hp) (ga_okl_clr (ga_okl_set hol hos.head)) hos.tail
theorem ga_iinc {i : Nat} {n x z : Int} {lv2 : List (Option ga_V)} (hd : decode (ga_b M) pc = .ok (.iinc i n, 3)) (hi : i < ga_n M) (hx0 : lv[i]? = some (some (Vi x))) (hp : ga_pc2 lv i = false) (hz : x + n = z) (hn : ga_inI z) (hl2 : lv.set i (some (Vi z)) = lv2) (k : ga_W t mc ms kc ks M P X (pc + 3) lv2 st h) : ga_W t mc ms kc ks M P X pc lv st h := by
  intro p l e R s m args below meth c G tc A ad0 ad n0 H locs ls Q hC hP hl hol hos
  have hx := hC.1
  have hb := hC.2.1
  subst hl2
  subst hz
  obtain ⟨j, hj⟩ := List.getElem?_of_mem (ga_l_mem (ad := ad) (i := 0).mpr ⟨i, Vi x, hx0, by rw [Nat.zero_add]⟩)
  refine lv_iinc hx hb hd hl hj (v := Int32.ofInt (x + n)) (by rw [Int32.ofInt_add]) hi rfl (fun ls2 hl2 => ?_)
  exact k p l e R s m args below meth c G tc A ad0 ad n0 H locs ls2 Q hC hP (ga_l_store1 (v := Vi (x + n)) hl2 hp) (ga_okl_set hol hn) hos
theorem ga_dup {v : ga_V} (hd : decode (ga_b M) pc = .ok (.dup, 1)) (hv : ga_c2 v = false) (k : ga_W t mc ms kc ks M P X (pc + 1) lv (v :: v :: st) h) : ga_W t mc ms kc ks M P X pc lv (v :: st) h := by
  intro p l e R s m args below meth c G tc A ad0 ad n0 H locs ls Q hC hP hl hol hos
  have hx := hC.1
  have hb := hC.2.1
  refine lv_dup hx hb hd (by rw [ga_cat, hv]; rfl) ?_
  exact k p l e R s m args below meth c G tc A ad0 ad n0 H locs ls Q hC hP hl hol (ga_oks.cons hos.head hos)
theorem ga_pop {v : ga_V} (hd : decode (ga_b M) pc = .ok (.pop, 1)) (hv : ga_c2 v = false) (k : ga_W t mc ms kc ks M P X (pc + 1) lv (st) h) : ga_W t mc ms kc ks M P X pc lv (v :: st) h := by
  intro p l e R s m args below meth c G tc A ad0 ad n0 H locs ls Q hC hP hl hol hos
  have hx := hC.1
  have hb := hC.2.1
  refine lv_pop hx hb hd (by rw [ga_cat, hv]; rfl) ?_
  exact k p l e R s m args below meth c G tc A ad0 ad n0 H locs ls Q hC hP hl hol (hos.tail)
theorem ga_dup2 {v w : ga_V} (hd : decode (ga_b M) pc = .ok (.dup2, 1)) (hv : ga_c2 v = false) (hw : ga_c2 w = false) (k : ga_W t mc ms kc ks M P X (pc + 1) lv (v :: w :: v :: w :: st) h) : ga_W t mc ms kc ks M P X pc lv (v :: w :: st) h := by
  intro p l e R s m args below meth c G tc A ad0 ad n0 H locs ls Q hC hP hl hol hos
  have hx := hC.1
  have hb := hC.2.1
  refine lv_dup2_11 hx hb hd (by rw [ga_cat, hv]; rfl) (by rw [ga_cat, hw]; rfl) ?_
  exact k p l e R s m args below meth c G tc A ad0 ad n0 H locs ls Q hC hP hl hol (ga_oks.cons hos.head (ga_oks.cons hos.tail.head hos))
theorem ga_dup2l {v : ga_V} (hd : decode (ga_b M) pc = .ok (.dup2, 1)) (hv : ga_c2 v = true) (k : ga_W t mc ms kc ks M P X (pc + 1) lv (v :: v :: st) h) : ga_W t mc ms kc ks M P X pc lv (v :: st) h := by
  intro p l e R s m args below meth c G tc A ad0 ad n0 H locs ls Q hC hP hl hol hos
  have hx := hC.1
  have hb := hC.2.1
  refine lv_dup2_2 hx hb hd (by rw [ga_cat, hv]; rfl) ?_
  exact k p l e R s m args below meth c G tc A ad0 ad n0 H locs ls Q hC hP hl hol (ga_oks.cons hos.head hos)
theorem ga_dup_x1 {v w : ga_V} (hd : decode (ga_b M) pc = .ok (.dup_x1, 1)) (hv : ga_c2 v = false) (hw : ga_c2 w = false) (k : ga_W t mc ms kc ks M P X (pc + 1) lv (v :: w :: v :: st) h) : ga_W t mc ms kc ks M P X pc lv (v :: w :: st) h := by
  intro p l e R s m args below meth c G tc A ad0 ad n0 H locs ls Q hC hP hl hol hos
  have hx := hC.1
  have hb := hC.2.1
  refine lv_dup_x1 hx hb hd (by rw [ga_cat, hv]; rfl) (by rw [ga_cat, hw]; rfl) ?_
  exact k p l e R s m args below meth c G tc A ad0 ad n0 H locs ls Q hC hP hl hol (ga_oks.cons hos.head (ga_oks.cons hos.tail.head (ga_oks.cons hos.head hos.tail.tail)))
theorem ga_iadd {x y z : Int} (hd : decode (ga_b M) pc = .ok (.iadd, 1)) (hz : x + y = z) (hn : ga_inI z) (k : ga_W t mc ms kc ks M P X (pc + 1) lv (Vi z :: st) h) : ga_W t mc ms kc ks M P X pc lv (Vi y :: Vi x :: st) h := by
  intro p l e R s m args below meth c G tc A ad0 ad n0 H locs ls Q hC hP hl hol hos
  have hx := hC.1
  have hb := hC.2.1
  subst hz
  refine lv_iadd hx hb hd ?_
  rw [← Int32.ofInt_add]
  exact k p l e R s m args below meth c G tc A ad0 ad n0 H locs ls Q hC hP hl hol (ga_oks.cons (v := Vi (x + y)) hn hos.tail.tail)
theorem ga_isub {x y z : Int} (hd : decode (ga_b M) pc = .ok (.isub, 1)) (hz : x - y = z) (hn : ga_inI z) (k : ga_W t mc ms kc ks M P X (pc + 1) lv (Vi z :: st) h) : ga_W t mc ms kc ks M P X pc lv (Vi y :: Vi x :: st) h := by
  intro p l e R s m args below meth c G tc A ad0 ad n0 H locs ls Q hC hP hl hol hos
  have hx := hC.1
  have hb := hC.2.1
  subst hz
  refine lv_isub hx hb hd ?_
  rw [← Int32.ofInt_sub]
  exact k p l e R s m args below meth c G tc A ad0 ad n0 H locs ls Q hC hP hl hol (ga_oks.cons (v := Vi (x - y)) hn hos.tail.tail)
theorem ga_imul {x y z : Int} (hd : decode (ga_b M) pc = .ok (.imul, 1)) (hz : x * y = z) (hn : ga_inI z) (k : ga_W t mc ms kc ks M P X (pc + 1) lv (Vi z :: st) h) : ga_W t mc ms kc ks M P X pc lv (Vi y :: Vi x :: st) h := by
  intro p l e R s m args below meth c G tc A ad0 ad n0 H locs ls Q hC hP hl hol hos
  have hx := hC.1
  have hb := hC.2.1
  subst hz
  refine lv_imul hx hb hd ?_
  rw [← Int32.ofInt_mul]
  exact k p l e R s m args below meth c G tc A ad0 ad n0 H locs ls Q hC hP hl hol (ga_oks.cons (v := Vi (x * y)) hn hos.tail.tail)
theorem ga_idiv {x y z : Int} (hd : decode (ga_b M) pc = .ok (.idiv, 1)) (h0 : 0 ≤ x) (h1 : 0 < y) (hz : x / y = z) (k : ga_W t mc ms kc ks M P X (pc + 1) lv (Vi z :: st) h) : ga_W t mc ms kc ks M P X pc lv (Vi y :: Vi x :: st) h := by
  intro p l e R s m args below meth c G tc A ad0 ad n0 H locs ls Q hC hP hl hol hos
  have hx := hC.1
  have hb := hC.2.1
  subst hz
  have hy : ga_inI y := hos.head
  have hx9 : ga_inI x := hos.tail.head
  have hn : ga_inI (x / y) := ⟨by have := Int.ediv_nonneg h0 (Int.le_of_lt h1); omega, by have := Int.ediv_le_self y h0; have := hx9.2; omega⟩
  refine lv_idiv hx hb hd (fun q => by rw [ga_eq0 hy] at q; omega) ?_
  rw [show Int32.ofInt x / Int32.ofInt y = Int32.ofInt (x / y) from by
    apply Int32.toInt_inj.mp
    rw [Int32.toInt_div, ga_toI hx9, ga_toI hy, ga_toI hn, Int.tdiv_eq_ediv_of_nonneg h0]
    exact Int.bmod_eq_of_le (by have := hn.1; omega) (by have := hn.2; omega)]
  exact k p l e R s m args below meth c G tc A ad0 ad n0 H locs ls Q hC hP hl hol (ga_oks.cons (v := Vi (x / y)) hn hos.tail.tail)
theorem ga_irem {x y z : Int} (hd : decode (ga_b M) pc = .ok (.irem, 1)) (h0 : 0 ≤ x) (h1 : 0 < y) (hz : x % y = z) (k : ga_W t mc ms kc ks M P X (pc + 1) lv (Vi z :: st) h) : ga_W t mc ms kc ks M P X pc lv (Vi y :: Vi x :: st) h := by
  intro p l e R s m args below meth c G tc A ad0 ad n0 H locs ls Q hC hP hl hol hos
  have hx := hC.1
  have hb := hC.2.1
  subst hz
  have hy : ga_inI y := hos.head
  have hx9 : ga_inI x := hos.tail.head
  have hq : ga_inI (x / y) := ⟨by have := Int.ediv_nonneg h0 (Int.le_of_lt h1); omega, by have := Int.ediv_le_self y h0; have := hx9.2; omega⟩
  have hn : ga_inI (x % y) := ⟨by have := Int.emod_nonneg x (show y ≠ 0 by omega); omega, by have := Int.emod_lt_of_pos x h1; have := hy.2; omega⟩
  refine lv_irem hx hb hd (fun q => by rw [ga_eq0 hy] at q; omega) ?_
  rw [show Int32.ofInt x / Int32.ofInt y = Int32.ofInt (x / y) from by
    apply Int32.toInt_inj.mp
    rw [Int32.toInt_div, ga_toI hx9, ga_toI hy, ga_toI hq, Int.tdiv_eq_ediv_of_nonneg h0]
    exact Int.bmod_eq_of_le (by have := hq.1; omega) (by have := hq.2; omega)]
  rw [← Int32.ofInt_mul, ← Int32.ofInt_sub, show x - x / y * y = x % y from by have := Int.emod_add_mul_ediv x y; rw [Int.mul_comm]; omega]
  exact k p l e R s m args below meth c G tc A ad0 ad n0 H locs ls Q hC hP hl hol (ga_oks.cons (v := Vi (x % y)) hn hos.tail.tail)
theorem ga_if_eq {x : Int} {off : Int} {tgt : Nat} (hd : decode (ga_b M) pc = .ok (.ifCond .eq off, 3)) (ht : (pc : Int) + off = (tgt : Int)) (kt : x = 0 → ga_W t mc ms kc ks M P X tgt lv st h) (kf : ¬ x = 0 → ga_W t mc ms kc ks M P X (pc + 3) lv st h) : ga_W t mc ms kc ks M P X pc lv (Vi x :: st) h := by
  intro p l e R s m args below meth c G tc A ad0 ad n0 H locs ls Q hC hP hl hol hos
  have hx := hC.1
  have hb := hC.2.1
  have hx9 : ga_inI x := hos.head
  exact lv_if_eq hx hb hd ht (fun q => kt ((ga_eq0 hx9).mp q) p l e R s m args below meth c G tc A ad0 ad n0 H locs ls Q hC hP hl hol (hos.tail)) (fun q => kf (fun z => q ((ga_eq0 hx9).mpr z)) p l e R s m args below meth c G tc A ad0 ad n0 H locs ls Q hC hP hl hol (hos.tail))
theorem ga_icmp_eq {x y : Int} {off : Int} {tgt : Nat} (hd : decode (ga_b M) pc = .ok (.if_icmp .eq off, 3)) (ht : (pc : Int) + off = (tgt : Int)) (kt : x = y → ga_W t mc ms kc ks M P X tgt lv st h) (kf : ¬ x = y → ga_W t mc ms kc ks M P X (pc + 3) lv st h) : ga_W t mc ms kc ks M P X pc lv (Vi y :: Vi x :: st) h := by
  intro p l e R s m args below meth c G tc A ad0 ad n0 H locs ls Q hC hP hl hol hos
  have hx := hC.1
  have hb := hC.2.1
  have hy9 : ga_inI y := hos.head
  have hx9 : ga_inI x := hos.tail.head
  exact lv_icmp_eq hx hb hd ht (fun q => kt ((ga_eq hx9 hy9).mp q) p l e R s m args below meth c G tc A ad0 ad n0 H locs ls Q hC hP hl hol (hos.tail.tail)) (fun q => kf (fun z => q ((ga_eq hx9 hy9).mpr z)) p l e R s m args below meth c G tc A ad0 ad n0 H locs ls Q hC hP hl hol (hos.tail.tail))
theorem ga_if_ne {x : Int} {off : Int} {tgt : Nat} (hd : decode (ga_b M) pc = .ok (.ifCond .ne off, 3)) (ht : (pc : Int) + off = (tgt : Int)) (kt : ¬ x = 0 → ga_W t mc ms kc ks M P X tgt lv st h) (kf : x = 0 → ga_W t mc ms kc ks M P X (pc + 3) lv st h) : ga_W t mc ms kc ks M P X pc lv (Vi x :: st) h := by
  intro p l e R s m args below meth c G tc A ad0 ad n0 H locs ls Q hC hP hl hol hos
  have hx := hC.1
  have hb := hC.2.1
  have hx9 : ga_inI x := hos.head
  exact lv_if_ne hx hb hd ht (fun q => kt (fun z => q ((ga_eq0 hx9).mpr z)) p l e R s m args below meth c G tc A ad0 ad n0 H locs ls Q hC hP hl hol (hos.tail)) (fun q => kf (by first | exact (ga_eq0 hx9).mp q | exact (ga_eq0 hx9).mp (Classical.not_not.mp q)) p l e R s m args below meth c G tc A ad0 ad n0 H locs ls Q hC hP hl hol (hos.tail))
theorem ga_icmp_ne {x y : Int} {off : Int} {tgt : Nat} (hd : decode (ga_b M) pc = .ok (.if_icmp .ne off, 3)) (ht : (pc : Int) + off = (tgt : Int)) (kt : ¬ x = y → ga_W t mc ms kc ks M P X tgt lv st h) (kf : x = y → ga_W t mc ms kc ks M P X (pc + 3) lv st h) : ga_W t mc ms kc ks M P X pc lv (Vi y :: Vi x :: st) h := by
  intro p l e R s m args below meth c G tc A ad0 ad n0 H locs ls Q hC hP hl hol hos
  have hx := hC.1
  have hb := hC.2.1
  have hy9 : ga_inI y := hos.head
  have hx9 : ga_inI x := hos.tail.head
  exact lv_icmp_ne hx hb hd ht (fun q => kt (fun z => q ((ga_eq hx9 hy9).mpr z)) p l e R s m args below meth c G tc A ad0 ad n0 H locs ls Q hC hP hl hol (hos.tail.tail)) (fun q => kf (by first | exact (ga_eq hx9 hy9).mp q | exact (ga_eq hx9 hy9).mp (Classical.not_not.mp q)) p l e R s m args below meth c G tc A ad0 ad n0 H locs ls Q hC hP hl hol (hos.tail.tail))
theorem ga_if_lt {x : Int} {off : Int} {tgt : Nat} (hd : decode (ga_b M) pc = .ok (.ifCond .lt off, 3)) (ht : (pc : Int) + off = (tgt : Int)) (kt : x < 0 → ga_W t mc ms kc ks M P X tgt lv st h) (kf : ¬ x < 0 → ga_W t mc ms kc ks M P X (pc + 3) lv st h) : ga_W t mc ms kc ks M P X pc lv (Vi x :: st) h := by
  intro p l e R s m args below meth c G tc A ad0 ad n0 H locs ls Q hC hP hl hol hos
  have hx := hC.1
  have hb := hC.2.1
  have hx9 : ga_inI x := hos.head
  exact lv_if_lt hx hb hd ht (fun q => kt ((ga_lt0 hx9).mp q) p l e R s m args below meth c G tc A ad0 ad n0 H locs ls Q hC hP hl hol (hos.tail)) (fun q => kf (fun z => q ((ga_lt0 hx9).mpr z)) p l e R s m args below meth c G tc A ad0 ad n0 H locs ls Q hC hP hl hol (hos.tail))
theorem ga_icmp_lt {x y : Int} {off : Int} {tgt : Nat} (hd : decode (ga_b M) pc = .ok (.if_icmp .lt off, 3)) (ht : (pc : Int) + off = (tgt : Int)) (kt : x < y → ga_W t mc ms kc ks M P X tgt lv st h) (kf : ¬ x < y → ga_W t mc ms kc ks M P X (pc + 3) lv st h) : ga_W t mc ms kc ks M P X pc lv (Vi y :: Vi x :: st) h := by
  intro p l e R s m args below meth c G tc A ad0 ad n0 H locs ls Q hC hP hl hol hos
  have hx := hC.1
  have hb := hC.2.1
  have hy9 : ga_inI y := hos.head
  have hx9 : ga_inI x := hos.tail.head
  exact lv_icmp_lt hx hb hd ht (fun q => kt ((ga_lt hx9 hy9).mp q) p l e R s m args below meth c G tc A ad0 ad n0 H locs ls Q hC hP hl hol (hos.tail.tail)) (fun q => kf (fun z => q ((ga_lt hx9 hy9).mpr z)) p l e R s m args below meth c G tc A ad0 ad n0 H locs ls Q hC hP hl hol (hos.tail.tail))
theorem ga_if_ge {x : Int} {off : Int} {tgt : Nat} (hd : decode (ga_b M) pc = .ok (.ifCond .ge off, 3)) (ht : (pc : Int) + off = (tgt : Int)) (kt : ¬ x < 0 → ga_W t mc ms kc ks M P X tgt lv st h) (kf : x < 0 → ga_W t mc ms kc ks M P X (pc + 3) lv st h) : ga_W t mc ms kc ks M P X pc lv (Vi x :: st) h := by
  intro p l e R s m args below meth c G tc A ad0 ad n0 H locs ls Q hC hP hl hol hos
  have hx := hC.1
  have hb := hC.2.1
  have hx9 : ga_inI x := hos.head
  exact lv_if_ge hx hb hd ht (fun q => kt (by first | exact fun z => q ((ga_lt0 hx9).mpr z) | (intro z; exact absurd ((ga_lt0 hx9).mpr z) (by first | exact Int32.not_lt.mpr q | exact q))) p l e R s m args below meth c G tc A ad0 ad n0 H locs ls Q hC hP hl hol (hos.tail)) (fun q => kf (by first | exact (ga_lt0 hx9).mp q | exact (ga_lt0 hx9).mp (Int32.not_le.mp q) | exact (ga_lt0 hx9).mp (Classical.not_not.mp q)) p l e R s m args below meth c G tc A ad0 ad n0 H locs ls Q hC hP hl hol (hos.tail))
theorem ga_icmp_ge {x y : Int} {off : Int} {tgt : Nat} (hd : decode (ga_b M) pc = .ok (.if_icmp .ge off, 3)) (ht : (pc : Int) + off = (tgt : Int)) (kt : ¬ x < y → ga_W t mc ms kc ks M P X tgt lv st h) (kf : x < y → ga_W t mc ms kc ks M P X (pc + 3) lv st h) : ga_W t mc ms kc ks M P X pc lv (Vi y :: Vi x :: st) h := by
  intro p l e R s m args below meth c G tc A ad0 ad n0 H locs ls Q hC hP hl hol hos
  have hx := hC.1
  have hb := hC.2.1
  have hy9 : ga_inI y := hos.head
  have hx9 : ga_inI x := hos.tail.head
  exact lv_icmp_ge hx hb hd ht (fun q => kt (by first | exact fun z => q ((ga_lt hx9 hy9).mpr z) | (intro z; exact absurd ((ga_lt hx9 hy9).mpr z) (by first | exact Int32.not_lt.mpr q | exact q))) p l e R s m args below meth c G tc A ad0 ad n0 H locs ls Q hC hP hl hol (hos.tail.tail)) (fun q => kf (by first | exact (ga_lt hx9 hy9).mp q | exact (ga_lt hx9 hy9).mp (Int32.not_le.mp q) | exact (ga_lt hx9 hy9).mp (Classical.not_not.mp q)) p l e R s m args below meth c G tc A ad0 ad n0 H locs ls Q hC hP hl hol (hos.tail.tail))
theorem ga_if_gt {x : Int} {off : Int} {tgt : Nat} (hd : decode (ga_b M) pc = .ok (.ifCond .gt off, 3)) (ht : (pc : Int) + off = (tgt : Int)) (kt : ¬ x ≤ 0 → ga_W t mc ms kc ks M P X tgt lv st h) (kf : x ≤ 0 → ga_W t mc ms kc ks M P X (pc + 3) lv st h) : ga_W t mc ms kc ks M P X pc lv (Vi x :: st) h := by
  intro p l e R s m args below meth c G tc A ad0 ad n0 H locs ls Q hC hP hl hol hos
  have hx := hC.1
  have hb := hC.2.1
  have hx9 : ga_inI x := hos.head
  exact lv_if_gt hx hb hd ht (fun q => kt (by first | exact fun z => q ((ga_le0 hx9).mpr z) | (intro z; exact absurd ((ga_le0 hx9).mpr z) (by first | exact Int32.not_le.mpr q | exact q))) p l e R s m args below meth c G tc A ad0 ad n0 H locs ls Q hC hP hl hol (hos.tail)) (fun q => kf (by first | exact (ga_le0 hx9).mp q | exact (ga_le0 hx9).mp (Int32.not_lt.mp q) | exact (ga_le0 hx9).mp (Classical.not_not.mp q)) p l e R s m args below meth c G tc A ad0 ad n0 H locs ls Q hC hP hl hol (hos.tail))
theorem ga_icmp_gt {x y : Int} {off : Int} {tgt : Nat} (hd : decode (ga_b M) pc = .ok (.if_icmp .gt off, 3)) (ht : (pc : Int) + off = (tgt : Int)) (kt : ¬ x ≤ y → ga_W t mc ms kc ks M P X tgt lv st h) (kf : x ≤ y → ga_W t mc ms kc ks M P X (pc + 3) lv st h) : ga_W t mc ms kc ks M P X pc lv (Vi y :: Vi x :: st) h := by
  intro p l e R s m args below meth c G tc A ad0 ad n0 H locs ls Q hC hP hl hol hos
  have hx := hC.1
  have hb := hC.2.1
  have hy9 : ga_inI y := hos.head
  have hx9 : ga_inI x := hos.tail.head
  exact lv_icmp_gt hx hb hd ht (fun q => kt (by first | exact fun z => q ((ga_le hx9 hy9).mpr z) | (intro z; exact absurd ((ga_le hx9 hy9).mpr z) (by first | exact Int32.not_le.mpr q | exact q))) p l e R s m args below meth c G tc A ad0 ad n0 H locs ls Q hC hP hl hol (hos.tail.tail)) (fun q => kf (by first | exact (ga_le hx9 hy9).mp q | exact (ga_le hx9 hy9).mp (Int32.not_lt.mp q) | exact (ga_le hx9 hy9).mp (Classical.not_not.mp q)) p l e R s m args below meth c G tc A ad0 ad n0 H locs ls Q hC hP hl hol (hos.tail.tail))
theorem ga_if_le {x : Int} {off : Int} {tgt : Nat} (hd : decode (ga_b M) pc = .ok (.ifCond .le off, 3)) (ht : (pc : Int) + off = (tgt : Int)) (kt : x ≤ 0 → ga_W t mc ms kc ks M P X tgt lv st h) (kf : ¬ x ≤ 0 → ga_W t mc ms kc ks M P X (pc + 3) lv st h) : ga_W t mc ms kc ks M P X pc lv (Vi x :: st) h := by
  intro p l e R s m args below meth c G tc A ad0 ad n0 H locs ls Q hC hP hl hol hos
  have hx := hC.1
  have hb := hC.2.1
  have hx9 : ga_inI x := hos.head
  exact lv_if_le hx hb hd ht (fun q => kt ((ga_le0 hx9).mp q) p l e R s m args below meth c G tc A ad0 ad n0 H locs ls Q hC hP hl hol (hos.tail)) (fun q => kf (fun z => q ((ga_le0 hx9).mpr z)) p l e R s m args below meth c G tc A ad0 ad n0 H locs ls Q hC hP hl hol (hos.tail))
theorem ga_icmp_le {x y : Int} {off : Int} {tgt : Nat} (hd : decode (ga_b M) pc = .ok (.if_icmp .le off, 3)) (ht : (pc : Int) + off = (tgt : Int)) (kt : x ≤ y → ga_W t mc ms kc ks M P X tgt lv st h) (kf : ¬ x ≤ y → ga_W t mc ms kc ks M P X (pc + 3) lv st h) : ga_W t mc ms kc ks M P X pc lv (Vi y :: Vi x :: st) h := by
  intro p l e R s m args below meth c G tc A ad0 ad n0 H locs ls Q hC hP hl hol hos
  have hx := hC.1
  have hb := hC.2.1
  have hy9 : ga_inI y := hos.head
  have hx9 : ga_inI x := hos.tail.head
  exact lv_icmp_le hx hb hd ht (fun q => kt ((ga_le hx9 hy9).mp q) p l e R s m args below meth c G tc A ad0 ad n0 H locs ls Q hC hP hl hol (hos.tail.tail)) (fun q => kf (fun z => q ((ga_le hx9 hy9).mpr z)) p l e R s m args below meth c G tc A ad0 ad n0 H locs ls Q hC hP hl hol (hos.tail.tail))
theorem ga_goto {off : Int} {tgt : Nat} (hd : decode (ga_b M) pc = .ok (.goto off, 3)) (ht : (pc : Int) + off = (tgt : Int)) (k : ga_W t mc ms kc ks M P X (tgt) lv (st) h) : ga_W t mc ms kc ks M P X pc lv (st) h := by
  intro p l e R s m args below meth c G tc A ad0 ad n0 H locs ls Q hC hP hl hol hos
  have hx := hC.1
  have hb := hC.2.1
  refine lv_goto hx hb hd ht ?_
  exact k p l e R s m args below meth c G tc A ad0 ad n0 H locs ls Q hC hP hl hol (hos)
theorem ga_dadd {x y : UInt64} (hd : decode (ga_b M) pc = .ok (.dadd, 1)) (hne : vf_n64 (FP.dadd x y)) (k : ga_W t mc ms kc ks M P X (pc + 1) lv (Vd (FP.dadd x y) :: st) h) : ga_W t mc ms kc ks M P X pc lv (Vd y :: Vd x :: st) h := by
  intro p l e R s m args below meth c G tc A ad0 ad n0 H locs ls Q hC hP hl hol hos
  have hx := hC.1
  have hb := hC.2.1
  refine lv_dadd hx hb hd hne ?_
  exact k p l e R s m args below meth c G tc A ad0 ad n0 H locs ls Q hC hP hl hol (ga_oks.cons (v := Vd _) trivial hos.tail.tail)
theorem ga_dsub {x y : UInt64} (hd : decode (ga_b M) pc = .ok (.dsub, 1)) (hne : vf_n64 (FP.dsub x y)) (k : ga_W t mc ms kc ks M P X (pc + 1) lv (Vd (FP.dsub x y) :: st) h) : ga_W t mc ms kc ks M P X pc lv (Vd y :: Vd x :: st) h := by
  intro p l e R s m args below meth c G tc A ad0 ad n0 H locs ls Q hC hP hl hol hos
  have hx := hC.1
  have hb := hC.2.1
  refine lv_dsub hx hb hd hne ?_
  exact k p l e R s m args below meth c G tc A ad0 ad n0 H locs ls Q hC hP hl hol (ga_oks.cons (v := Vd _) trivial hos.tail.tail)
theorem ga_dmul {x y : UInt64} (hd : decode (ga_b M) pc = .ok (.dmul, 1)) (hne : vf_n64 (FP.dmul x y)) (k : ga_W t mc ms kc ks M P X (pc + 1) lv (Vd (FP.dmul x y) :: st) h) : ga_W t mc ms kc ks M P X pc lv (Vd y :: Vd x :: st) h := by
  intro p l e R s m args below meth c G tc A ad0 ad n0 H locs ls Q hC hP hl hol hos
  have hx := hC.1
  have hb := hC.2.1
  refine lv_dmul hx hb hd hne ?_
  exact k p l e R s m args below meth c G tc A ad0 ad n0 H locs ls Q hC hP hl hol (ga_oks.cons (v := Vd _) trivial hos.tail.tail)
theorem ga_ddiv {x y : UInt64} (hd : decode (ga_b M) pc = .ok (.ddiv, 1)) (hne : vf_n64 (FP.ddiv x y)) (k : ga_W t mc ms kc ks M P X (pc + 1) lv (Vd (FP.ddiv x y) :: st) h) : ga_W t mc ms kc ks M P X pc lv (Vd y :: Vd x :: st) h := by
  intro p l e R s m args below meth c G tc A ad0 ad n0 H locs ls Q hC hP hl hol hos
  have hx := hC.1
  have hb := hC.2.1
  refine lv_ddiv hx hb hd hne ?_
  exact k p l e R s m args below meth c G tc A ad0 ad n0 H locs ls Q hC hP hl hol (ga_oks.cons (v := Vd _) trivial hos.tail.tail)
theorem ga_dcmp {x y : UInt64} {op : CmpOp} {z : Int} (hd : decode (ga_b M) pc = .ok (.dcmp op, 1)) (hz : Op.cmpValue (FP.dcmp x y) op = Int32.ofInt z) (hn : ga_inI z) (k : ga_W t mc ms kc ks M P X (pc + 1) lv (Vi z :: st) h) : ga_W t mc ms kc ks M P X pc lv (Vd y :: Vd x :: st) h := by
  intro p l e R s m args below meth c G tc A ad0 ad n0 H locs ls Q hC hP hl hol hos
  have hx := hC.1
  have hb := hC.2.1
  refine lv_dcmp hx hb hd ?_
  rw [hz]
  exact k p l e R s m args below meth c G tc A ad0 ad n0 H locs ls Q hC hP hl hol (ga_oks.cons (v := Vi z) hn hos.tail.tail)
theorem ga_i2d {x : Int} (hd : decode (ga_b M) pc = .ok (.i2d, 1)) (k : ga_W t mc ms kc ks M P X (pc + 1) lv (Vd (FP.i2d (Int32.ofInt x)) :: st) h) : ga_W t mc ms kc ks M P X pc lv (Vi x :: st) h := by
  intro p l e R s m args below meth c G tc A ad0 ad n0 H locs ls Q hC hP hl hol hos
  have hx := hC.1
  have hb := hC.2.1
  refine lv_i2d hx hb hd ?_
  exact k p l e R s m args below meth c G tc A ad0 ad n0 H locs ls Q hC hP hl hol (ga_oks.cons (v := Vd _) trivial hos.tail)
theorem ga_i2l {x : Int} (hd : decode (ga_b M) pc = .ok (.i2l, 1)) (k : ga_W t mc ms kc ks M P X (pc + 1) lv (Vl x :: st) h) : ga_W t mc ms kc ks M P X pc lv (Vi x :: st) h := by
  intro p l e R s m args below meth c G tc A ad0 ad n0 H locs ls Q hC hP hl hol hos
  have hx := hC.1
  have hb := hC.2.1
  refine lv_i2l (v := Int64.ofInt x) hx hb hd (by apply Int64.toInt_inj.mp; have h9 : ga_inI x := hos.head; rw [Int32.toInt_toInt64, ga_toI h9, ga_toL ⟨by have := h9.1; omega, by have := h9.2; omega⟩]) ?_
  exact k p l e R s m args below meth c G tc A ad0 ad n0 H locs ls Q hC hP hl hol (ga_oks.cons (v := Vl x) (by have h9 : ga_inI x := hos.head; exact ⟨by have := h9.1; omega, by have := h9.2; omega⟩) hos.tail)
theorem ga_l2i {x : Int} (hd : decode (ga_b M) pc = .ok (.l2i, 1)) (hn : ga_inI x) (k : ga_W t mc ms kc ks M P X (pc + 1) lv (Vi x :: st) h) : ga_W t mc ms kc ks M P X pc lv (Vl x :: st) h := by
  intro p l e R s m args below meth c G tc A ad0 ad n0 H locs ls Q hC hP hl hol hos
  have hx := hC.1
  have hb := hC.2.1
  refine lv_l2i (v := Int32.ofInt x) hx hb hd (by apply Int32.toInt_inj.mp; have h9 : ga_inL x := hos.head; rw [Int64.toInt_toInt32, ga_toL h9, ga_toI hn]; exact Int.bmod_eq_of_le (by have := hn.1; omega) (by have := hn.2; omega)) ?_
  exact k p l e R s m args below meth c G tc A ad0 ad n0 H locs ls Q hC hP hl hol (ga_oks.cons (v := Vi x) hn hos.tail)
theorem ga_lcmp {x y : Int} (hd : decode (ga_b M) pc = .ok (.lcmp, 1)) (k : ga_W t mc ms kc ks M P X (pc + 1) lv (Vi (if y < x then 1 else if x = y then 0 else -1) :: st) h) : ga_W t mc ms kc ks M P X pc lv (Vl y :: Vl x :: st) h := by
  intro p l e R s m args below meth c G tc A ad0 ad n0 H locs ls Q hC hP hl hol hos
  have hx := hC.1
  have hb := hC.2.1
  have hy9 : ga_inL y := hos.head
  have hx9 : ga_inL x := hos.tail.head
  refine W.lcmp hx hb hd ?_
  rw [show lg_cmp (Int64.ofInt x) (Int64.ofInt y) = Int32.ofInt (if y < x then 1 else if x = y then 0 else -1) from by
    unfold lg_cmp
    have e1 : Int64.ofInt x > Int64.ofInt y ↔ y < x := by
      show Int64.ofInt y < Int64.ofInt x ↔ _
      rw [Int64.lt_iff_toInt_lt, ga_toL hx9, ga_toL hy9]
    have e2 : Int64.ofInt x = Int64.ofInt y ↔ x = y := by rw [← Int64.toInt_inj, ga_toL hx9, ga_toL hy9]
    simp only [e1, e2]
    split
    · rfl
    · split <;> rfl]
  exact k p l e R s m args below meth c G tc A ad0 ad n0 H locs ls Q hC hP hl hol (ga_oks.cons (v := Vi _) (by split; exact ⟨by decide, by decide⟩; split <;> exact ⟨by decide, by decide⟩) hos.tail.tail)
theorem ga_land {x y : Int} (hd : decode (ga_b M) pc = .ok (.land, 1)) (k : ga_W t mc ms kc ks M P X (pc + 1) lv (Vl (Int64.ofInt x &&& Int64.ofInt y).toInt :: st) h) : ga_W t mc ms kc ks M P X pc lv (Vl y :: Vl x :: st) h := by
  intro p l e R s m args below meth c G tc A ad0 ad n0 H locs ls Q hC hP hl hol hos
  have hx := hC.1
  have hb := hC.2.1
  refine lv_land hx hb hd ?_
  rw [← ga_ofL (Int64.ofInt x &&& Int64.ofInt y)]
  exact k p l e R s m args below meth c G tc A ad0 ad n0 H locs ls Q hC hP hl hol (ga_oks.cons (v := Vl _) (ga_inL64 _) hos.tail.tail)
theorem ga_lor {x y : Int} (hd : decode (ga_b M) pc = .ok (.lor, 1)) (k : ga_W t mc ms kc ks M P X (pc + 1) lv (Vl (Int64.ofInt x ||| Int64.ofInt y).toInt :: st) h) : ga_W t mc ms kc ks M P X pc lv (Vl y :: Vl x :: st) h := by
  intro p l e R s m args below meth c G tc A ad0 ad n0 H locs ls Q hC hP hl hol hos
  have hx := hC.1
  have hb := hC.2.1
  refine lv_lor hx hb hd ?_
  rw [← ga_ofL (Int64.ofInt x ||| Int64.ofInt y)]
  exact k p l e R s m args below meth c G tc A ad0 ad n0 H locs ls Q hC hP hl hol (ga_oks.cons (v := Vl _) (ga_inL64 _) hos.tail.tail)
theorem ga_lshl {x y : Int} (hd : decode (ga_b M) pc = .ok (.lshl, 1)) (k : ga_W t mc ms kc ks M P X (pc + 1) lv (Vl (Int64.ofInt x <<< ((Int32.ofInt y).toInt64 &&& 63)).toInt :: st) h) : ga_W t mc ms kc ks M P X pc lv (Vi y :: Vl x :: st) h := by
  intro p l e R s m args below meth c G tc A ad0 ad n0 H locs ls Q hC hP hl hol hos
  have hx := hC.1
  have hb := hC.2.1
  refine lv_lshl hx hb hd (v := Int64.ofInt (Int64.ofInt x <<< ((Int32.ofInt y).toInt64 &&& 63)).toInt) (ga_ofL _).symm ?_
  exact k p l e R s m args below meth c G tc A ad0 ad n0 H locs ls Q hC hP hl hol (ga_oks.cons (v := Vl _) (ga_inL64 _) hos.tail.tail)
theorem ga_ladd {x y z : Int} (hd : decode (ga_b M) pc = .ok (.ladd, 1)) (hz : x + y = z) (hn : ga_inL z) (k : ga_W t mc ms kc ks M P X (pc + 1) lv (Vl z :: st) h) : ga_W t mc ms kc ks M P X pc lv (Vl y :: Vl x :: st) h := by
  intro p l e R s m args below meth c G tc A ad0 ad n0 H locs ls Q hC hP hl hol hos
  have hx := hC.1
  have hb := hC.2.1
  refine lv_ladd hx hb hd ?_
  rw [← Int64.ofInt_add, hz]
  exact k p l e R s m args below meth c G tc A ad0 ad n0 H locs ls Q hC hP hl hol (ga_oks.cons (v := Vl z) hn hos.tail.tail)
theorem ga_ishl {x y z : Int} (hd : decode (ga_b M) pc = .ok (.ishl, 1)) (hz : Int32.ofInt x <<< (Int32.ofInt y &&& 31) = Int32.ofInt z) (hn : ga_inI z) (k : ga_W t mc ms kc ks M P X (pc + 1) lv (Vi z :: st) h) : ga_W t mc ms kc ks M P X pc lv (Vi y :: Vi x :: st) h := by
  intro p l e R s m args below meth c G tc A ad0 ad n0 H locs ls Q hC hP hl hol hos
  have hx := hC.1
  have hb := hC.2.1
  refine lv_ishl hx hb hd ?_
  rw [hz]
  exact k p l e R s m args below meth c G tc A ad0 ad n0 H locs ls Q hC hP hl hol (ga_oks.cons (v := Vi z) hn hos.tail.tail)
theorem ga_ishr {x y z : Int} (hd : decode (ga_b M) pc = .ok (.ishr, 1)) (hz : Int32.ofInt x >>> (Int32.ofInt y &&& 31) = Int32.ofInt z) (hn : ga_inI z) (k : ga_W t mc ms kc ks M P X (pc + 1) lv (Vi z :: st) h) : ga_W t mc ms kc ks M P X pc lv (Vi y :: Vi x :: st) h := by
  intro p l e R s m args below meth c G tc A ad0 ad n0 H locs ls Q hC hP hl hol hos
  have hx := hC.1
  have hb := hC.2.1
  refine lv_ishr hx hb hd ?_
  rw [hz]
  exact k p l e R s m args below meth c G tc A ad0 ad n0 H locs ls Q hC hP hl hol (ga_oks.cons (v := Vi z) hn hos.tail.tail)
theorem ga_iand {x y z : Int} (hd : decode (ga_b M) pc = .ok (.iand, 1)) (hz : Int32.ofInt x &&& Int32.ofInt y = Int32.ofInt z) (hn : ga_inI z) (k : ga_W t mc ms kc ks M P X (pc + 1) lv (Vi z :: st) h) : ga_W t mc ms kc ks M P X pc lv (Vi y :: Vi x :: st) h := by
  intro p l e R s m args below meth c G tc A ad0 ad n0 H locs ls Q hC hP hl hol hos
  have hx := hC.1
  have hb := hC.2.1
  refine lv_iand hx hb hd ?_
  rw [hz]
  exact k p l e R s m args below meth c G tc A ad0 ad n0 H locs ls Q hC hP hl hol (ga_oks.cons (v := Vi z) hn hos.tail.tail)
theorem ga_ior {x y z : Int} (hd : decode (ga_b M) pc = .ok (.ior, 1)) (hz : Int32.ofInt x ||| Int32.ofInt y = Int32.ofInt z) (hn : ga_inI z) (k : ga_W t mc ms kc ks M P X (pc + 1) lv (Vi z :: st) h) : ga_W t mc ms kc ks M P X pc lv (Vi y :: Vi x :: st) h := by
  intro p l e R s m args below meth c G tc A ad0 ad n0 H locs ls Q hC hP hl hol hos
  have hx := hC.1
  have hb := hC.2.1
  refine lv_ior hx hb hd ?_
  rw [hz]
  exact k p l e R s m args below meth c G tc A ad0 ad n0 H locs ls Q hC hP hl hol (ga_oks.cons (v := Vi z) hn hos.tail.tail)
end GaRules
end
section
/-- a field's site: pool entry idx of class own is field k of the class ci -/
def ga_FS (own : String) (idx ci k : Nat) (fin : Bool) (ty : FieldType) : Prop :=
  ∃ (C : String) (T : u_T) (N : Nat) (ty0 : Nat → FieldType) (host : String), vwCl[ci]? = some (C, T, N) ∧ k < N ∧ (∀ w ∈ u_ws C T N, w ∈ ga_big) ∧ (∀ j, j < N → parseFieldDescriptor (T j).2.2.1 = some (ty0 j)) ∧ (∀ a, a < N → ∀ b, b < N → a ≠ b → (T a).2.1 ≠ (T b).2.1) ∧
    (Cond.fieldLink own idx (T k).1 (T k).2.1 (T k).2.2.1 ∈ ga_big ∨ Cond.fieldLinkNest own idx (T k).1 (T k).2.1 (T k).2.2.1 host ∈ ga_big) ∧ (T k).2.2.2 = fin ∧ parseFieldDescriptor (T k).2.2.1 = some ty ∧ (fin = true → (T k).1 = own ∧ Cond.fieldLink own idx (T k).1 (T k).2.1 (T k).2.2.1 ∈ ga_big)
/-- .. for reading -/
def ga_FR (own : String) (idx ci k : Nat) (ty : FieldType) : Prop :=
  ∃ (C : String) (T : u_T) (N : Nat) (host : String), vwCl[ci]? = some (C, T, N) ∧ k < N ∧ (∀ w ∈ u_ws C T N, w ∈ ga_big) ∧
    (Cond.fieldLink own idx (T k).1 (T k).2.1 (T k).2.2.1 ∈ ga_big ∨ Cond.fieldLinkNest own idx (T k).1 (T k).2.1 (T k).2.2.1 host ∈ ga_big) ∧ parseFieldDescriptor (T k).2.2.1 = some ty
theorem ga_hok {h : ga_H} (hoh : ga_okh h) {q : Nat} {c : ga_K} (hq : h[q]? = some c) : ga_okc h.length c := hoh c (List.mem_of_getElem? hq)
theorem ga_okh_set {h : ga_H} (hoh : ga_okh h) {q : Nat} {c : ga_K} (hc : ga_okc h.length c) : ga_okh (h.set q c) := fun d hd => by
  rw [List.length_set]
  rcases List.mem_or_eq_of_mem_set hd with z | z
  · exact hoh d z
  · rw [z]; exact hc
theorem ga_pic_set {G : va_G} {tc : Nat → ClassId} {A : Nat → Prop} {H0 H1 : Heap} {ad0 ad : Nat → Nat} {n0 : Nat} {h : ga_H} {locs1 : List Loc} {q : Nat} {c : ga_K} (hn0 : n0 ≤ h.length) (hag : ga_ag n0 ad0 ad) (hlen : h.length ≤ 900000) (hoh : ga_okh h) (hc : ga_okc h.length c)
    (hP : va_P G vwCl ((ga_w tc ad h).set q (ad q, ga_c tc ad c)) H1) (hD : va_D A ((ga_w tc ad h).set q (ad q, ga_c tc ad c))) (hS : va_S A H0 H1 locs1) : ga_Pic G tc A H0 ad0 ad n0 (h.set q c) H1 locs1 := by
  refine ⟨by rw [List.length_set]; exact hn0, hag, by rw [List.length_set]; exact hlen, ga_okh_set hoh hc, ?_, ?_, hS⟩
  · rw [ga_w_set]; exact hP
  · rw [ga_w_set]; exact hD
theorem ga_w_ag {tc : Nat → ClassId} {ad ad' : Nat → Nat} {h : ga_H} (hag : ga_ag h.length ad ad') (hoh : ga_okh h) : ga_w tc ad' h = ga_w tc ad h := by
  apply List.ext_getElem?
  intro i
  rw [ga_w_get, ga_w_get]
  cases hi : h[i]? with
  | none => rfl
  | some c =>
    show some (ad' i, _) = some (ad i, _)
    rw [ga_c_ag tc hag (ga_hok hoh hi), hag i (Or.inl (List.getElem?_eq_some_iff.mp hi).1)]
/-- the address of a new cell -/
def ga_ad (ad : Nat → Nat) (n q : Nat) : Nat → Nat := fun i => if i = n then q else ad i
theorem ga_ad_ag {ad : Nat → Nat} {n q : Nat} (hn : n ≤ 900000) : ga_ag n ad (ga_ad ad n q) := fun i hi => by
  unfold ga_ad
  rw [if_neg]
  rcases hi with z | z
  · omega
  · subst z; unfold ga_scr; omega
theorem ga_pic_push {G : va_G} {tc : Nat → ClassId} {A : Nat → Prop} {H0 H1 : Heap} {ad0 ad : Nat → Nat} {n0 q : Nat} {h : ga_H} {locs1 : List Loc} {c : ga_K} (hn0 : n0 ≤ h.length) (hag : ga_ag n0 ad0 ad) (hlen : h.length + 1 ≤ 900000) (hoh : ga_okh h) (hc : ga_okc (h.length + 1) c)
    (hP : va_P G vwCl (ga_w tc ad h ++ [(q, ga_c tc (ga_ad ad h.length q) c)]) H1) (hD : va_D A (ga_w tc ad h ++ [(q, ga_c tc (ga_ad ad h.length q) c)])) (hS : va_S A H0 H1 locs1) : ga_Pic G tc A H0 ad0 (ga_ad ad h.length q) n0 (h ++ [c]) H1 locs1 := by
  have hag2 : ga_ag h.length ad (ga_ad ad h.length q) := ga_ad_ag (by omega)
  have e : ga_w tc (ga_ad ad h.length q) (h ++ [c]) = ga_w tc ad h ++ [(q, ga_c tc (ga_ad ad h.length q) c)] := by
    rw [ga_w_push, ga_w_ag hag2 hoh]
    congr 3
    unfold ga_ad; rw [if_pos rfl]
  refine ⟨by rw [List.length_append]; exact Nat.le_trans hn0 (Nat.le_add_right _ _), fun i hi => ?_, by rw [List.length_append]; exact hlen, fun d hd => ?_, by rw [e]; exact hP, by rw [e]; exact hD, hS⟩
  · rw [← hag i hi]
    exact hag2 i (hi.elim (fun z => Or.inl (by omega)) Or.inr)
  · rw [List.length_append]
    rcases List.mem_append.mp hd with z | z
    · exact (hoh d z).mono (Nat.le_add_right _ _)
    · rw [List.mem_singleton.mp z]; exact hc
theorem ga_inL0 : ga_inL 0 := ⟨by decide, by decide⟩
section GaRules2
variable {t mc ms kc ks : Nat} {M : ga_M0} {P : ga_Po} {X : ga_Px} {pc : Nat} {lv : List (Option ga_V)} {st : List ga_V} {h : ga_H}
theorem ga_get {idx ci j q : Nat} {ty : FieldType} {fs : List ga_V} {v : ga_V} (hF : ga_FR (ga_y M).cls idx ci j ty) (hd : decode (ga_b M) pc = .ok (.getfield idx, 3)) (hq : h[q]? = some (.inl (ci, fs))) (hj : fs[j]? = some v) (k : ga_W t mc ms kc ks M P X (pc + 3) lv (v :: st) h) : ga_W t mc ms kc ks M P X pc lv (Vr q :: st) h := by
  intro p l e R s m args below meth c G tc A ad0 ad n0 H locs ls Q hC hP hl hol hos
  have hx := hC.1
  have hb := hC.2.1
  have hown := hC.2.2.2.2.1
  have hts := hC.2.2.2.2.2.1
  have hK := hC.2.2.2.2.2.2.1
  obtain ⟨hn0, hag, hlen, hoh, hPP, hPD, hPS⟩ := id hP
  obtain ⟨C, T, N, host, hc, hN, hin, hlk, hpt⟩ := hF
  have hv : (fs.map (ga_v ad))[j]? = some (ga_v ad v) := by rw [List.getElem?_map, hj]; rfl
  have hok : ga_ok h.length v := ga_hok hoh hq v (List.mem_of_getElem? hj)
  rcases hlk with hlk | hlk
  · exact va_get hx hb hts hin hown hK hPP q (ga_w_at hq) hc j hN (hts _ hlk) (fun _ z => z) hv hd (k p l e R s m args below meth c G tc A ad0 ad n0 H locs ls Q hC hP hl hol (ga_oks.cons hok hos.tail))
  · exact va_getN hx hb hts hin hown hK hPP q (ga_w_at hq) hc j hN (hts _ hlk) (fun _ z => z) hv hd (k p l e R s m args below meth c G tc A ad0 ad n0 H locs ls Q hC hP hl hol (ga_oks.cons hok hos.tail))
theorem ga_put {idx ci j q : Nat} {ty : FieldType} {fs : List ga_V} {v : ga_V} {h2 : ga_H} (hF : ga_FS (ga_y M).cls idx ci j false ty) (hd : decode (ga_b M) pc = .ok (.putfield idx, 3)) (hq : h[q]? = some (.inl (ci, fs))) (hj : j < fs.length) (hn : ∀ ad, narrow ty (ga_v ad v) = ga_v ad v) (hf : ∀ ad, fits ty (ga_v ad v) = true) (hh : h.set q (.inl (ci, fs.set j v)) = h2) (k : ga_W t mc ms kc ks M P X (pc + 3) lv st h2) : ga_W t mc ms kc ks M P X pc lv (v :: Vr q :: st) h := by
  intro p l e R s m args below meth c G tc A ad0 ad n0 H locs ls Q hC hP hl hol hos
  have hx := hC.1
  have hb := hC.2.1
  have hown := hC.2.2.2.2.1
  have hts := hC.2.2.2.2.2.1
  have hK := hC.2.2.2.2.2.2.1
  obtain ⟨hn0, hag, hlen, hoh, hPP, hPD, hPS⟩ := id hP
  subst hh
  obtain ⟨C, T, N, ty0, host, hc, hN, hin, hty, hnm, hlk, hfi, hpt, hfo⟩ := hF
  have hok : ga_okc h.length (.inl (ci, fs.set j v)) := fun w hw => by
    rcases List.mem_or_eq_of_mem_set hw with z | z
    · exact ga_hok hoh hq w z
    · rw [z]; exact hos.head
  have e9 : (Sum.inr (ci, (fs.map (ga_v ad)).set j (ga_v ad v)) : va_E) = ga_c tc ad (.inl (ci, fs.set j v)) := by
    show _ = Sum.inr (ci, (fs.set j v).map (ga_v ad))
    rw [List.map_set]
  rcases hlk with hlk | hlk
  · refine va_put hx hb hts hin ty0 hty hnm hown hK hPP hPD hPS q (ga_w_at hq) hc j hN (hts _ hlk) (fun _ z => z) hfi hpt (hn ad) (hf ad) (by rw [List.length_map]; exact hj) hd (fun H1 locs1 q1 q2 q3 => ?_)
    rw [e9] at q1 q2
    exact k p l e R s m args below meth c G tc A ad0 ad n0 H1 locs1 ls Q hC (ga_pic_set hn0 hag hlen hoh hok q1 q2 q3) hl (by rw [List.length_set]; exact hol) (by rw [List.length_set]; exact hos.tail.tail)
  · refine va_putN hx hb hts hin ty0 hty hnm hown hK hPP hPD hPS q (ga_w_at hq) hc j hN (hts _ hlk) (fun _ z => z) hfi hpt (hn ad) (hf ad) (by rw [List.length_map]; exact hj) hd (fun H1 locs1 q1 q2 q3 => ?_)
    rw [e9] at q1 q2
    exact k p l e R s m args below meth c G tc A ad0 ad n0 H1 locs1 ls Q hC (ga_pic_set hn0 hag hlen hoh hok q1 q2 q3) hl (by rw [List.length_set]; exact hol) (by rw [List.length_set]; exact hos.tail.tail)
theorem ga_putF {idx ci j q : Nat} {ty : FieldType} {fs : List ga_V} {v : ga_V} {h2 : ga_H} (hF : ga_FS (ga_y M).cls idx ci j true ty) (hd : decode (ga_b M) pc = .ok (.putfield idx, 3)) (hi2 : (ga_y M).name = "<init>") (hq : h[q]? = some (.inl (ci, fs))) (hj : j < fs.length) (hn : ∀ ad, narrow ty (ga_v ad v) = ga_v ad v) (hf : ∀ ad, fits ty (ga_v ad v) = true) (hh : h.set q (.inl (ci, fs.set j v)) = h2) (k : ga_W t mc ms kc ks M P X (pc + 3) lv st h2) : ga_W t mc ms kc ks M P X pc lv (v :: Vr q :: st) h := by
  intro p l e R s m args below meth c G tc A ad0 ad n0 H locs ls Q hC hP hl hol hos
  have hx := hC.1
  have hb := hC.2.1
  have hown := hC.2.2.2.2.1
  have hts := hC.2.2.2.2.2.1
  have hK := hC.2.2.2.2.2.2.1
  obtain ⟨hn0, hag, hlen, hoh, hPP, hPD, hPS⟩ := id hP
  subst hh
  obtain ⟨C, T, N, ty0, host, hc, hN, hin, hty, hnm, hlk, hfi, hpt, hfo⟩ := hF
  have hok : ga_okc h.length (.inl (ci, fs.set j v)) := fun w hw => by
    rcases List.mem_or_eq_of_mem_set hw with z | z
    · exact ga_hok hoh hq w z
    · rw [z]; exact hos.head
  have e9 : (Sum.inr (ci, (fs.map (ga_v ad)).set j (ga_v ad v)) : va_E) = ga_c tc ad (.inl (ci, fs.set j v)) := by
    show _ = Sum.inr (ci, (fs.set j v).map (ga_v ad))
    rw [List.map_set]
  · refine va_putF hx hb hts hin ty0 hty hnm hown hK hPP hPD hPS q (ga_w_at hq) hc j hN (hts _ (hfo rfl).2) (fun _ z => z) hfi (hC.2.2.2.2.2.2.2.2.2.1 hi2) (hfo rfl).1 hpt (hn ad) (hf ad) (by rw [List.length_map]; exact hj) hd (fun H1 locs1 q1 q2 q3 => ?_)
    rw [e9] at q1 q2
    exact k p l e R s m args below meth c G tc A ad0 ad n0 H1 locs1 ls Q hC (ga_pic_set hn0 hag hlen hoh hok q1 q2 q3) hl (by rw [List.length_set]; exact hol) (by rw [List.length_set]; exact hos.tail.tail)
theorem ga_iaload {q n : Nat} {i : Int} {f : Int → Int} (hd : decode (ga_b M) pc = .ok (.iaload, 1)) (hq : h[q]? = some (.inr (.inl (0, n, f)))) (h0 : 0 ≤ i) (h1 : i < n) (k : ga_W t mc ms kc ks M P X (pc + 1) lv (Vi (f i) :: st) h) : ga_W t mc ms kc ks M P X pc lv (Vi i :: Vr q :: st) h := by
  intro p l e R s m args below meth c G tc A ad0 ad n0 H locs ls Q hC hP hl hol hos
  have hx := hC.1
  have hb := hC.2.1
  have hown := hC.2.2.2.2.1
  have hts := hC.2.2.2.2.2.1
  have hK := hC.2.2.2.2.2.2.1
  obtain ⟨hn0, hag, hlen, hoh, hPP, hPD, hPS⟩ := id hP
  have hi9 : ga_inI i := hos.head
  have h9 := ga_hok hoh hq
  refine va_iald hx hb hK hPP q 0 (ga_w_at hq) rfl (ga_vpin hi9 h0 h1) hd ?_
  rw [ga_clamp hi9]
  rw [ga_cast h0]
  exact k p l e R s m args below meth c G tc A ad0 ad n0 H locs ls Q hC hP hl hol (ga_oks.cons (v := Vi (f i)) (h9 i) hos.tail.tail)
theorem ga_zaload {q n : Nat} {i : Int} {f : Int → Int} (hd : decode (ga_b M) pc = .ok (.baload, 1)) (hq : h[q]? = some (.inr (.inl (1, n, f)))) (h0 : 0 ≤ i) (h1 : i < n) (k : ga_W t mc ms kc ks M P X (pc + 1) lv (Vi (f i) :: st) h) : ga_W t mc ms kc ks M P X pc lv (Vi i :: Vr q :: st) h := by
  intro p l e R s m args below meth c G tc A ad0 ad n0 H locs ls Q hC hP hl hol hos
  have hx := hC.1
  have hb := hC.2.1
  have hown := hC.2.2.2.2.1
  have hts := hC.2.2.2.2.2.1
  have hK := hC.2.2.2.2.2.2.1
  obtain ⟨hn0, hag, hlen, hoh, hPP, hPD, hPS⟩ := id hP
  have hi9 : ga_inI i := hos.head
  have h9 := ga_hok hoh hq
  refine va_zald hx hb hK hPP q 1 (ga_w_at hq) rfl (ga_vpin hi9 h0 h1) hd ?_
  rw [ga_clamp hi9]
  rw [ga_cast h0]
  exact k p l e R s m args below meth c G tc A ad0 ad n0 H locs ls Q hC hP hl hol (ga_oks.cons (v := Vi (f i)) (h9 i) hos.tail.tail)
theorem ga_daload {q n : Nat} {i : Int} {f : Int → UInt64} (hd : decode (ga_b M) pc = .ok (.daload, 1)) (hq : h[q]? = some (.inr (.inr (.inl (n, f))))) (h0 : 0 ≤ i) (h1 : i < n) (k : ga_W t mc ms kc ks M P X (pc + 1) lv (Vd (f i) :: st) h) : ga_W t mc ms kc ks M P X pc lv (Vi i :: Vr q :: st) h := by
  intro p l e R s m args below meth c G tc A ad0 ad n0 H locs ls Q hC hP hl hol hos
  have hx := hC.1
  have hb := hC.2.1
  have hown := hC.2.2.2.2.1
  have hts := hC.2.2.2.2.2.1
  have hK := hC.2.2.2.2.2.2.1
  obtain ⟨hn0, hag, hlen, hoh, hPP, hPD, hPS⟩ := id hP
  have hi9 : ga_inI i := hos.head
  have h9 := ga_hok hoh hq
  refine va_dald hx hb hK hPP q 2 (ga_w_at hq) rfl (ga_vpin hi9 h0 h1) hd ?_
  rw [ga_clamp hi9]
  rw [ga_cast h0]
  exact k p l e R s m args below meth c G tc A ad0 ad n0 H locs ls Q hC hP hl hol (ga_oks.cons (v := Vd (f i)) (trivial) hos.tail.tail)
theorem ga_laload {q n : Nat} {i : Int} {f : Int → Int} (hd : decode (ga_b M) pc = .ok (.laload, 1)) (hq : h[q]? = some (.inr (.inr (.inr (n, f))))) (h0 : 0 ≤ i) (h1 : i < n) (k : ga_W t mc ms kc ks M P X (pc + 1) lv (Vl (f i) :: st) h) : ga_W t mc ms kc ks M P X pc lv (Vi i :: Vr q :: st) h := by
  intro p l e R s m args below meth c G tc A ad0 ad n0 H locs ls Q hC hP hl hol hos
  have hx := hC.1
  have hb := hC.2.1
  have hown := hC.2.2.2.2.1
  have hts := hC.2.2.2.2.2.1
  have hK := hC.2.2.2.2.2.2.1
  obtain ⟨hn0, hag, hlen, hoh, hPP, hPD, hPS⟩ := id hP
  have hi9 : ga_inI i := hos.head
  have h9 := ga_hok hoh hq
  refine va_lald hx hb hK hPP q 3 (ga_w_at hq) rfl (ga_vpin hi9 h0 h1) hd ?_
  rw [ga_clamp hi9]
  rw [ga_cast h0]
  exact k p l e R s m args below meth c G tc A ad0 ad n0 H locs ls Q hC hP hl hol (ga_oks.cons (v := Vl (f i)) (h9 i) hos.tail.tail)
theorem ga_iastore {q n : Nat} {i : Int} {x : Int} {f : Int → Int} {h2 : ga_H} (hd : decode (ga_b M) pc = .ok (.iastore, 1)) (hq : h[q]? = some (.inr (.inl (0, n, f)))) (h0 : 0 ≤ i) (h1 : i < n) (hh : h.set q (.inr (.inl (0, n, ga_up f i x))) = h2) (k : ga_W t mc ms kc ks M P X (pc + 1) lv st h2) : ga_W t mc ms kc ks M P X pc lv (Vi x :: Vi i :: Vr q :: st) h := by
  intro p l e R s m args below meth c G tc A ad0 ad n0 H locs ls Q hC hP hl hol hos
  have hx := hC.1
  have hb := hC.2.1
  have hown := hC.2.2.2.2.1
  have hts := hC.2.2.2.2.2.1
  have hK := hC.2.2.2.2.2.2.1
  obtain ⟨hn0, hag, hlen, hoh, hPP, hPD, hPS⟩ := id hP
  subst hh
  have hi9 : ga_inI i := hos.tail.head
  have hx9 := hos.head
  have h9 := ga_hok hoh hq
  have hok : ga_okc h.length (.inr (.inl (0, n, ga_up f i x))) := fun j => by
    show ga_inI (ga_up f i x j)
    unfold ga_up
    split
    · exact hx9
    · exact h9 j
  refine va_iast hx hb hK hPP hPD hPS q 0 (ga_w_at hq) rfl (ga_vpin hi9 h0 h1) hd (fun H1 locs1 q1 q2 q3 => ?_)
  rw [ga_clamp hi9, ga_upI h0] at q1 q2
  exact k p l e R s m args below meth c G tc A ad0 ad n0 H1 locs1 ls Q hC (ga_pic_set (c := .inr (.inl (0, n, ga_up f i x))) hn0 hag hlen hoh hok q1 q2 q3) hl (by rw [List.length_set]; exact hol) (by rw [List.length_set]; exact hos.tail.tail.tail)
theorem ga_zastore {q n : Nat} {i : Int} {x : Int} {f : Int → Int} {h2 : ga_H} (hd : decode (ga_b M) pc = .ok (.bastore, 1)) (hq : h[q]? = some (.inr (.inl (1, n, f)))) (h0 : 0 ≤ i) (h1 : i < n) (hb01 : x = 0 ∨ x = 1) (hh : h.set q (.inr (.inl (1, n, ga_up f i x))) = h2) (k : ga_W t mc ms kc ks M P X (pc + 1) lv st h2) : ga_W t mc ms kc ks M P X pc lv (Vi x :: Vi i :: Vr q :: st) h := by
  intro p l e R s m args below meth c G tc A ad0 ad n0 H locs ls Q hC hP hl hol hos
  have hx := hC.1
  have hb := hC.2.1
  have hown := hC.2.2.2.2.1
  have hts := hC.2.2.2.2.2.1
  have hK := hC.2.2.2.2.2.2.1
  obtain ⟨hn0, hag, hlen, hoh, hPP, hPD, hPS⟩ := id hP
  subst hh
  have hi9 : ga_inI i := hos.tail.head
  have hx9 := hos.head
  have h9 := ga_hok hoh hq
  have hok : ga_okc h.length (.inr (.inl (1, n, ga_up f i x))) := fun j => by
    show ga_inI (ga_up f i x j)
    unfold ga_up
    split
    · exact hx9
    · exact h9 j
  refine va_zast hx hb hK hPP hPD hPS q 1 (ga_w_at hq) rfl (ga_vpin hi9 h0 h1) hd (fun H1 locs1 q1 q2 q3 => ?_)
  rw [ga_clamp hi9, show vp_nar .boolean (Int32.ofInt x) = Int32.ofInt x from by rcases hb01 with z | z <;> subst z <;> rfl, ga_upI h0] at q1 q2
  exact k p l e R s m args below meth c G tc A ad0 ad n0 H1 locs1 ls Q hC (ga_pic_set (c := .inr (.inl (1, n, ga_up f i x))) hn0 hag hlen hoh hok q1 q2 q3) hl (by rw [List.length_set]; exact hol) (by rw [List.length_set]; exact hos.tail.tail.tail)
theorem ga_dastore {q n : Nat} {i : Int} {x : UInt64} {f : Int → UInt64} {h2 : ga_H} (hd : decode (ga_b M) pc = .ok (.dastore, 1)) (hq : h[q]? = some (.inr (.inr (.inl (n, f))))) (h0 : 0 ≤ i) (h1 : i < n) (hh : h.set q (.inr (.inr (.inl (n, ga_up f i x)))) = h2) (k : ga_W t mc ms kc ks M P X (pc + 1) lv st h2) : ga_W t mc ms kc ks M P X pc lv (Vd x :: Vi i :: Vr q :: st) h := by
  intro p l e R s m args below meth c G tc A ad0 ad n0 H locs ls Q hC hP hl hol hos
  have hx := hC.1
  have hb := hC.2.1
  have hown := hC.2.2.2.2.1
  have hts := hC.2.2.2.2.2.1
  have hK := hC.2.2.2.2.2.2.1
  obtain ⟨hn0, hag, hlen, hoh, hPP, hPD, hPS⟩ := id hP
  subst hh
  have hi9 : ga_inI i := hos.tail.head
  have hx9 := hos.head
  have h9 := ga_hok hoh hq
  have hok : ga_okc h.length (.inr (.inr (.inl (n, ga_up f i x)))) := trivial
  refine va_dast hx hb hK hPP hPD hPS q 2 (ga_w_at hq) rfl (ga_vpin hi9 h0 h1) hd (fun H1 locs1 q1 q2 q3 => ?_)
  rw [ga_clamp hi9, ga_upD h0] at q1 q2
  exact k p l e R s m args below meth c G tc A ad0 ad n0 H1 locs1 ls Q hC (ga_pic_set (c := .inr (.inr (.inl (n, ga_up f i x)))) hn0 hag hlen hoh hok q1 q2 q3) hl (by rw [List.length_set]; exact hol) (by rw [List.length_set]; exact hos.tail.tail.tail)
theorem ga_lastore {q n : Nat} {i : Int} {x : Int} {f : Int → Int} {h2 : ga_H} (hd : decode (ga_b M) pc = .ok (.lastore, 1)) (hq : h[q]? = some (.inr (.inr (.inr (n, f))))) (h0 : 0 ≤ i) (h1 : i < n) (hh : h.set q (.inr (.inr (.inr (n, ga_up f i x)))) = h2) (k : ga_W t mc ms kc ks M P X (pc + 1) lv st h2) : ga_W t mc ms kc ks M P X pc lv (Vl x :: Vi i :: Vr q :: st) h := by
  intro p l e R s m args below meth c G tc A ad0 ad n0 H locs ls Q hC hP hl hol hos
  have hx := hC.1
  have hb := hC.2.1
  have hown := hC.2.2.2.2.1
  have hts := hC.2.2.2.2.2.1
  have hK := hC.2.2.2.2.2.2.1
  obtain ⟨hn0, hag, hlen, hoh, hPP, hPD, hPS⟩ := id hP
  subst hh
  have hi9 : ga_inI i := hos.tail.head
  have hx9 := hos.head
  have h9 := ga_hok hoh hq
  have hok : ga_okc h.length (.inr (.inr (.inr (n, ga_up f i x)))) := fun j => by
    show ga_inL (ga_up f i x j)
    unfold ga_up
    split
    · exact hx9
    · exact h9 j
  refine va_last hx hb hK hPP hPD hPS q 3 (ga_w_at hq) rfl (ga_vpin hi9 h0 h1) hd (fun H1 locs1 q1 q2 q3 => ?_)
  rw [ga_clamp hi9, ga_upL h0] at q1 q2
  exact k p l e R s m args below meth c G tc A ad0 ad n0 H1 locs1 ls Q hC (ga_pic_set (c := .inr (.inr (.inr (n, ga_up f i x)))) hn0 hag hlen hoh hok q1 q2 q3) hl (by rw [List.length_set]; exact hol) (by rw [List.length_set]; exact hos.tail.tail.tail)
theorem ga_alen {q n tcc : Nat} {f : Int → Int} (hd : decode (ga_b M) pc = .ok (.arraylength, 1)) (hq : h[q]? = some (.inr (.inl (tcc, n, f)))) (ht : tcc = 0) (hn : ga_inI (n : Int)) (k : ga_W t mc ms kc ks M P X (pc + 1) lv (Vi (n : Int) :: st) h) : ga_W t mc ms kc ks M P X pc lv (Vr q :: st) h := by
  intro p l e R s m args below meth c G tc A ad0 ad n0 H locs ls Q hC hP hl hol hos
  have hx := hC.1
  have hb := hC.2.1
  have hown := hC.2.2.2.2.1
  have hts := hC.2.2.2.2.2.1
  have hK := hC.2.2.2.2.2.2.1
  obtain ⟨hn0, hag, hlen, hoh, hPP, hPD, hPS⟩ := id hP
  subst ht
  refine va_alen hx hb hK hPP q 0 (ga_w_at hq) rfl (v := Int32.ofInt (n : Int)) (by rfl) hd ?_
  exact k p l e R s m args below meth c G tc A ad0 ad n0 H locs ls Q hC hP hl hol (ga_oks.cons (v := Vi (n : Int)) hn hos.tail)
theorem ga_sld {L : Nat} {xs : Nat → Int32} {i : Int} (hsc : ga_sc M = some (L, xs)) (hd : decode (ga_b M) pc = .ok (.iaload, 1)) (h0 : 0 ≤ i) (h1 : i < L) (k : ga_W t mc ms kc ks M P X (pc + 1) lv (Vi (xs i.toNat).toInt :: st) h) : ga_W t mc ms kc ks M P X pc lv (Vi i :: Vr ga_scr :: st) h := by
  intro p l e R s m args below meth c G tc A ad0 ad n0 H locs ls Q hC hP hl hol hos
  have hx := hC.1
  have hb := hC.2.1
  have hown := hC.2.2.2.2.1
  have hts := hC.2.2.2.2.2.1
  have hK := hC.2.2.2.2.2.2.1
  obtain ⟨hn0, hag, hlen, hoh, hPP, hPD, hPS⟩ := id hP
  have hi9 : ga_inI i := hos.head
  obtain ⟨hX1, hX2, hX3⟩ := hC.2.2.2.2.2.2.2.2.2.2.2.2.2.2.1 L xs hsc
  have e9 : ad ga_scr = ad0 ga_scr := hag ga_scr (Or.inr rfl)
  show W p l e R s m args below meth c H locs kc ks Q (F0 m pc ls (.int (Int32.ofInt i) :: .ref (ad ga_scr) :: st.map (ga_v ad)))
  rw [e9]
  refine va_sld hx hb hX1 hX2 hX3 hPS (ga_vpin hi9 h0 h1) hd ?_
  rw [ga_clamp hi9, ← ga_ofI (xs i.toNat)]
  exact k p l e R s m args below meth c G tc A ad0 ad n0 H locs ls Q hC hP hl hol (ga_oks.cons (v := Vi (xs i.toNat).toInt) (ga_inI32 _) hos.tail.tail)
theorem ga_slen {L : Nat} {xs : Nat → Int32} (hsc : ga_sc M = some (L, xs)) (hd : decode (ga_b M) pc = .ok (.arraylength, 1)) (hL : ga_inI (L : Int)) (k : ga_W t mc ms kc ks M P X (pc + 1) lv (Vi (L : Int) :: st) h) : ga_W t mc ms kc ks M P X pc lv (Vr ga_scr :: st) h := by
  intro p l e R s m args below meth c G tc A ad0 ad n0 H locs ls Q hC hP hl hol hos
  have hx := hC.1
  have hb := hC.2.1
  have hown := hC.2.2.2.2.1
  have hts := hC.2.2.2.2.2.1
  have hK := hC.2.2.2.2.2.2.1
  obtain ⟨hn0, hag, hlen, hoh, hPP, hPD, hPS⟩ := id hP
  obtain ⟨hX1, hX2, hX3⟩ := hC.2.2.2.2.2.2.2.2.2.2.2.2.2.2.1 L xs hsc
  have e9 : ad ga_scr = ad0 ga_scr := hag ga_scr (Or.inr rfl)
  show W p l e R s m args below meth c H locs kc ks Q (F0 m pc ls (.ref (ad ga_scr) :: st.map (ga_v ad)))
  rw [e9]
  refine va_slen hx hb hX1 hX2 hX3 hPS hd ?_
  exact k p l e R s m args below meth c G tc A ad0 ad n0 H locs ls Q hC hP hl hol (ga_oks.cons (v := Vi (L : Int)) hL hos.tail)
/-- a class's site for new: its number, its fields' first values -/
def ga_NS (own : String) (idx ci N : Nat) (fs : List ga_V) : Prop :=
  ∃ (C : String) (T : u_T) (ty0 : Nat → FieldType), vwCl[ci]? = some (C, T, N) ∧ (∀ w ∈ u_ws C T N, w ∈ ga_big) ∧ (∀ j, j < N → parseFieldDescriptor (T j).2.2.1 = some (ty0 j)) ∧ Cond.classLink own idx C ∈ ga_big ∧ Cond.instantiable C N ∈ ga_big ∧ Cond.initialized C ∈ ga_big ∧ (∀ v ∈ fs, ga_ok 0 v) ∧ ∀ ad, ∀ j, j < N → defaultValue (ty0 j) = vp_V (fs.map (ga_v ad)) j
theorem ga_new {idx ci N : Nat} {fs : List ga_V} {h2 : ga_H} (hN : ga_NS (ga_y M).cls idx ci N fs) (hd : decode (ga_b M) pc = .ok (.new idx, 3)) (hkc : kc + 1 ≤ mc) (hks : ks + N ≤ ms) (hlen2 : h.length + 1 ≤ 900000) (hh : h ++ [.inl (ci, fs)] = h2) (k : ga_W t mc ms (kc + 1) (ks + N) M P X (pc + 3) lv (Vr h.length :: st) h2) : ga_W t mc ms kc ks M P X pc lv st h := by
  intro p l e R s m args below meth c G tc A ad0 ad n0 H locs ls Q hC hP hl hol hos
  have hx := hC.1
  have hb := hC.2.1
  have hown := hC.2.2.2.2.1
  have hts := hC.2.2.2.2.2.1
  have hK := hC.2.2.2.2.2.2.1
  obtain ⟨hn0, hag, hlen, hoh, hPP, hPD, hPS⟩ := id hP
  subst hh
  obtain ⟨C, T, ty0, hc, hin, hty, hw1, hw2, hw3, hfo, hfs⟩ := hN
  have hRR := hC.2.2.2.2.2.2.2.2.2.2.2.2.2.2.2.1
  refine va_new (fs := fs.map (ga_v ad)) hx hb hts hin ty0 hty hown (hts _ hw1) (hts _ hw2) (hts _ hw3) hK hPP hPD hPS hC.2.2.2.2.2.2.2.1 hc (hfs ad) (by rw [hRR.1]; exact hkc) (by rw [hRR.2.1]; exact hks) hd (fun q H1 q1 q2 q3 => ?_)
  have hag2 : ga_ag h.length ad (ga_ad ad h.length q) := ga_ad_ag hlen
  have e9 : (Sum.inr (ci, fs.map (ga_v ad)) : va_E) = ga_c tc (ga_ad ad h.length q) (.inl (ci, fs)) := by
    show _ = Sum.inr (ci, fs.map _)
    rw [ga_map_ag hag2 (fun v hv => (hfo v hv).mono (Nat.zero_le _))]
  rw [e9] at q1 q2
  have hp2 := ga_pic_push (c := .inl (ci, fs)) hn0 hag hlen2 hoh (fun v hv => (hfo v hv).mono (Nat.zero_le _)) q1 q2 q3
  have hlq : (h ++ [Sum.inl (ci, fs)] : ga_H).length = h.length + 1 := by rw [List.length_append]; rfl
  have k2 := k p l e R s m args below meth c G tc A ad0 (ga_ad ad h.length q) n0 H1 locs ls Q hC hp2 (ga_l_ag hl hag2 hol) (by rw [hlq]; exact hol.mono (Nat.le_succ _)) (by rw [hlq]; exact ga_oks.cons (Or.inl (Nat.lt_succ_self _)) (hos.mono (Nat.le_succ _)))
  rw [List.map_cons, show ga_v (ga_ad ad h.length q) (Vr h.length) = .ref q from by show Value.ref _ = _; unfold ga_ad; rw [if_pos rfl], ga_map_ag hag2 hos] at k2
  exact k2
theorem ga_newa_int {z : Int} {n : Nat} {h2 : ga_H} (harr : Cond.arrayClass .int ∈ ga_big) (hd : decode (ga_b M) pc = .ok (.newarray .int, 2)) (hz : z = (n : Int)) (hnb : n ≤ 60000) (hkc : kc + 1 ≤ mc) (hks : ks + n ≤ ms) (hlen2 : h.length + 1 ≤ 900000) (hh : h ++ [.inr (.inl (0, n, fun _ => 0))] = h2) (k : ga_W t mc ms (kc + 1) (ks + n) M P X (pc + 2) lv (Vr h.length :: st) h2) : ga_W t mc ms kc ks M P X pc lv (Vi z :: st) h := by
  intro p l e R s m args below meth c G tc A ad0 ad n0 H locs ls Q hC hP hl hol hos
  have hx := hC.1
  have hb := hC.2.1
  have hown := hC.2.2.2.2.1
  have hts := hC.2.2.2.2.2.1
  have hK := hC.2.2.2.2.2.2.1
  obtain ⟨hn0, hag, hlen, hoh, hPP, hPD, hPS⟩ := id hP
  subst hh
  subst hz
  have hi9 : ga_inI (n : Int) := hos.head
  have hRR := hC.2.2.2.2.2.2.2.2.2.2.2.2.2.2.2.1
  refine va_newa (atype := .int) (ty := .int) (N' := n) (a0 := (n, .inl (fun _ => Int32.ofInt 0))) hx hb (hts _ harr) rfl hK hPP hPD hPS hC.2.2.2.2.2.2.2.1 (fun _ => rfl) (fun q => by rw [ga_lt0 hi9] at q; omega) (by rw [ga_clamp hi9]; rfl) (by show n * 4 ≤ 536870912; omega) (by rw [hRR.1]; exact hkc) (by rw [hRR.2.1]; exact hks) hd (fun q cA H1 q0 q1 q2 q3 => ?_)
  have r1 : va_RA s cA .int := (q0.2 4 (cA, .int) (by show (ga_tys tc ++ [(cA, _)])[4]? = _; rfl)).2
  have r2 : va_RA s (tc 0) .int := (hK.2 0 (tc 0, .int) rfl).2
  have ecA : cA = tc 0 := Option.some.inj (r1.symm.trans r2)
  subst ecA
  have hag2 : ga_ag h.length ad (ga_ad ad h.length q) := ga_ad_ag hlen
  have hp2 := ga_pic_push (c := .inr (.inl (0, n, fun _ => 0))) hn0 hag hlen2 hoh (fun _ => ga_in0) q1 q2 q3
  have hlq : (h ++ [.inr (.inl (0, n, fun _ => 0))] : ga_H).length = h.length + 1 := by rw [List.length_append]; rfl
  have k2 := k p l e R s m args below meth c G tc A ad0 (ga_ad ad h.length q) n0 H1 locs ls Q hC hp2 (ga_l_ag hl hag2 hol) (by rw [hlq]; exact hol.mono (Nat.le_succ _)) (by rw [hlq]; exact ga_oks.cons (Or.inl (Nat.lt_succ_self _)) (hos.tail.mono (Nat.le_succ _)))
  rw [List.map_cons, show ga_v (ga_ad ad h.length q) (Vr h.length) = .ref q from by show Value.ref _ = _; unfold ga_ad; rw [if_pos rfl], ga_map_ag hag2 hos.tail] at k2
  exact k2
theorem ga_newa_bool {z : Int} {n : Nat} {h2 : ga_H} (harr : Cond.arrayClass .boolean ∈ ga_big) (hd : decode (ga_b M) pc = .ok (.newarray .boolean, 2)) (hz : z = (n : Int)) (hnb : n ≤ 60000) (hkc : kc + 1 ≤ mc) (hks : ks + n ≤ ms) (hlen2 : h.length + 1 ≤ 900000) (hh : h ++ [.inr (.inl (1, n, fun _ => 0))] = h2) (k : ga_W t mc ms (kc + 1) (ks + n) M P X (pc + 2) lv (Vr h.length :: st) h2) : ga_W t mc ms kc ks M P X pc lv (Vi z :: st) h := by
  intro p l e R s m args below meth c G tc A ad0 ad n0 H locs ls Q hC hP hl hol hos
  have hx := hC.1
  have hb := hC.2.1
  have hown := hC.2.2.2.2.1
  have hts := hC.2.2.2.2.2.1
  have hK := hC.2.2.2.2.2.2.1
  obtain ⟨hn0, hag, hlen, hoh, hPP, hPD, hPS⟩ := id hP
  subst hh
  subst hz
  have hi9 : ga_inI (n : Int) := hos.head
  have hRR := hC.2.2.2.2.2.2.2.2.2.2.2.2.2.2.2.1
  refine va_newa (atype := .boolean) (ty := .boolean) (N' := n) (a0 := (n, .inl (fun _ => Int32.ofInt 0))) hx hb (hts _ harr) rfl hK hPP hPD hPS hC.2.2.2.2.2.2.2.1 (fun _ => rfl) (fun q => by rw [ga_lt0 hi9] at q; omega) (by rw [ga_clamp hi9]; rfl) (by show n * 1 ≤ 536870912; omega) (by rw [hRR.1]; exact hkc) (by rw [hRR.2.1]; exact hks) hd (fun q cA H1 q0 q1 q2 q3 => ?_)
  have r1 : va_RA s cA .boolean := (q0.2 4 (cA, .boolean) (by show (ga_tys tc ++ [(cA, _)])[4]? = _; rfl)).2
  have r2 : va_RA s (tc 1) .boolean := (hK.2 1 (tc 1, .boolean) rfl).2
  have ecA : cA = tc 1 := Option.some.inj (r1.symm.trans r2)
  subst ecA
  have hag2 : ga_ag h.length ad (ga_ad ad h.length q) := ga_ad_ag hlen
  have hp2 := ga_pic_push (c := .inr (.inl (1, n, fun _ => 0))) hn0 hag hlen2 hoh (fun _ => ga_in0) q1 q2 q3
  have hlq : (h ++ [.inr (.inl (1, n, fun _ => 0))] : ga_H).length = h.length + 1 := by rw [List.length_append]; rfl
  have k2 := k p l e R s m args below meth c G tc A ad0 (ga_ad ad h.length q) n0 H1 locs ls Q hC hp2 (ga_l_ag hl hag2 hol) (by rw [hlq]; exact hol.mono (Nat.le_succ _)) (by rw [hlq]; exact ga_oks.cons (Or.inl (Nat.lt_succ_self _)) (hos.tail.mono (Nat.le_succ _)))
  rw [List.map_cons, show ga_v (ga_ad ad h.length q) (Vr h.length) = .ref q from by show Value.ref _ = _; unfold ga_ad; rw [if_pos rfl], ga_map_ag hag2 hos.tail] at k2
  exact k2
theorem ga_newa_double {z : Int} {n : Nat} {h2 : ga_H} (harr : Cond.arrayClass .double ∈ ga_big) (hd : decode (ga_b M) pc = .ok (.newarray .double, 2)) (hz : z = (n : Int)) (hnb : n ≤ 60000) (hkc : kc + 1 ≤ mc) (hks : ks + n ≤ ms) (hlen2 : h.length + 1 ≤ 900000) (hh : h ++ [.inr (.inr (.inl (n, fun _ => FP.dconst0)))] = h2) (k : ga_W t mc ms (kc + 1) (ks + n) M P X (pc + 2) lv (Vr h.length :: st) h2) : ga_W t mc ms kc ks M P X pc lv (Vi z :: st) h := by
  intro p l e R s m args below meth c G tc A ad0 ad n0 H locs ls Q hC hP hl hol hos
  have hx := hC.1
  have hb := hC.2.1
  have hown := hC.2.2.2.2.1
  have hts := hC.2.2.2.2.2.1
  have hK := hC.2.2.2.2.2.2.1
  obtain ⟨hn0, hag, hlen, hoh, hPP, hPD, hPS⟩ := id hP
  subst hh
  subst hz
  have hi9 : ga_inI (n : Int) := hos.head
  have hRR := hC.2.2.2.2.2.2.2.2.2.2.2.2.2.2.2.1
  refine va_newa (atype := .double) (ty := .double) (N' := n) (a0 := (n, .inr (.inr (.inr (.inl (fun _ => FP.dconst0)))))) hx hb (hts _ harr) rfl hK hPP hPD hPS hC.2.2.2.2.2.2.2.1 (fun _ => rfl) (fun q => by rw [ga_lt0 hi9] at q; omega) (by rw [ga_clamp hi9]; rfl) (by show n * 8 ≤ 536870912; omega) (by rw [hRR.1]; exact hkc) (by rw [hRR.2.1]; exact hks) hd (fun q cA H1 q0 q1 q2 q3 => ?_)
  have r1 : va_RA s cA .double := (q0.2 4 (cA, .double) (by show (ga_tys tc ++ [(cA, _)])[4]? = _; rfl)).2
  have r2 : va_RA s (tc 2) .double := (hK.2 2 (tc 2, .double) rfl).2
  have ecA : cA = tc 2 := Option.some.inj (r1.symm.trans r2)
  subst ecA
  have hag2 : ga_ag h.length ad (ga_ad ad h.length q) := ga_ad_ag hlen
  have hp2 := ga_pic_push (c := .inr (.inr (.inl (n, fun _ => FP.dconst0)))) hn0 hag hlen2 hoh (trivial) q1 q2 q3
  have hlq : (h ++ [.inr (.inr (.inl (n, fun _ => FP.dconst0)))] : ga_H).length = h.length + 1 := by rw [List.length_append]; rfl
  have k2 := k p l e R s m args below meth c G tc A ad0 (ga_ad ad h.length q) n0 H1 locs ls Q hC hp2 (ga_l_ag hl hag2 hol) (by rw [hlq]; exact hol.mono (Nat.le_succ _)) (by rw [hlq]; exact ga_oks.cons (Or.inl (Nat.lt_succ_self _)) (hos.tail.mono (Nat.le_succ _)))
  rw [List.map_cons, show ga_v (ga_ad ad h.length q) (Vr h.length) = .ref q from by show Value.ref _ = _; unfold ga_ad; rw [if_pos rfl], ga_map_ag hag2 hos.tail] at k2
  exact k2
theorem ga_newa_long {z : Int} {n : Nat} {h2 : ga_H} (harr : Cond.arrayClass .long ∈ ga_big) (hd : decode (ga_b M) pc = .ok (.newarray .long, 2)) (hz : z = (n : Int)) (hnb : n ≤ 60000) (hkc : kc + 1 ≤ mc) (hks : ks + n ≤ ms) (hlen2 : h.length + 1 ≤ 900000) (hh : h ++ [.inr (.inr (.inr (n, fun _ => 0)))] = h2) (k : ga_W t mc ms (kc + 1) (ks + n) M P X (pc + 2) lv (Vr h.length :: st) h2) : ga_W t mc ms kc ks M P X pc lv (Vi z :: st) h := by
  intro p l e R s m args below meth c G tc A ad0 ad n0 H locs ls Q hC hP hl hol hos
  have hx := hC.1
  have hb := hC.2.1
  have hown := hC.2.2.2.2.1
  have hts := hC.2.2.2.2.2.1
  have hK := hC.2.2.2.2.2.2.1
  obtain ⟨hn0, hag, hlen, hoh, hPP, hPD, hPS⟩ := id hP
  subst hh
  subst hz
  have hi9 : ga_inI (n : Int) := hos.head
  have hRR := hC.2.2.2.2.2.2.2.2.2.2.2.2.2.2.2.1
  refine va_newa (atype := .long) (ty := .long) (N' := n) (a0 := (n, .inr (.inl (fun _ => Int64.ofInt 0)))) hx hb (hts _ harr) rfl hK hPP hPD hPS hC.2.2.2.2.2.2.2.1 (fun _ => rfl) (fun q => by rw [ga_lt0 hi9] at q; omega) (by rw [ga_clamp hi9]; rfl) (by show n * 8 ≤ 536870912; omega) (by rw [hRR.1]; exact hkc) (by rw [hRR.2.1]; exact hks) hd (fun q cA H1 q0 q1 q2 q3 => ?_)
  have r1 : va_RA s cA .long := (q0.2 4 (cA, .long) (by show (ga_tys tc ++ [(cA, _)])[4]? = _; rfl)).2
  have r2 : va_RA s (tc 3) .long := (hK.2 3 (tc 3, .long) rfl).2
  have ecA : cA = tc 3 := Option.some.inj (r1.symm.trans r2)
  subst ecA
  have hag2 : ga_ag h.length ad (ga_ad ad h.length q) := ga_ad_ag hlen
  have hp2 := ga_pic_push (c := .inr (.inr (.inr (n, fun _ => 0)))) hn0 hag hlen2 hoh (fun _ => ga_inL0) q1 q2 q3
  have hlq : (h ++ [.inr (.inr (.inr (n, fun _ => 0)))] : ga_H).length = h.length + 1 := by rw [List.length_append]; rfl
  have k2 := k p l e R s m args below meth c G tc A ad0 (ga_ad ad h.length q) n0 H1 locs ls Q hC hp2 (ga_l_ag hl hag2 hol) (by rw [hlq]; exact hol.mono (Nat.le_succ _)) (by rw [hlq]; exact ga_oks.cons (Or.inl (Nat.lt_succ_self _)) (hos.tail.mono (Nat.le_succ _)))
  rw [List.map_cons, show ga_v (ga_ad ad h.length q) (Vr h.length) = .ref q from by show Value.ref _ = _; unfold ga_ad; rw [if_pos rfl], ga_map_ag hag2 hos.tail] at k2
  exact k2
theorem ga_ret {v : Option ga_V} (hP1 : P v h) (hst : st = v.toList) (hkc : kc ≤ mc) (hks : ks ≤ ms) (hR : ga_R M pc v) : ga_W t mc ms kc ks M P X pc lv st h := by
  intro p l e R s m args below meth c G tc A ad0 ad n0 H locs ls Q hC hP hl hol hos
  have hx := hC.1
  have hb := hC.2.1
  have hown := hC.2.2.2.2.1
  have hts := hC.2.2.2.2.2.1
  have hK := hC.2.2.2.2.2.2.1
  obtain ⟨hn0, hag, hlen, hoh, hPP, hPD, hPS⟩ := id hP
  subst hst
  exact hC.2.2.2.2.2.2.2.2.2.2.2.2.2.2.2.2.1 v h ad H locs kc ks pc ls hP1 hP (fun x hx => hos x (by rw [hx]; exact List.mem_cons_self)) hkc hks hR
theorem ga_wf (k : ga_okh h → ga_oks h.length st → ga_okl h.length lv → ga_W t mc ms kc ks M P X pc lv st h) : ga_W t mc ms kc ks M P X pc lv st h := by
  intro p l e R s m args below meth c G tc A ad0 ad n0 H locs ls Q hC hP hl hol hos
  have hx := hC.1
  have hb := hC.2.1
  have hown := hC.2.2.2.2.1
  have hts := hC.2.2.2.2.2.1
  have hK := hC.2.2.2.2.2.2.1
  obtain ⟨hn0, hag, hlen, hoh, hPP, hPD, hPS⟩ := id hP
  exact k hoh hos hol p l e R s m args below meth c G tc A ad0 ad n0 H locs ls Q hC hP hl hol hos
end GaRules2
end
section
-- contracts
def ga_Qc (G : va_G) (tc : Nat → ClassId) (A : Nat → Prop) (ad0 : Nat → Nat) (n0 : Nat) (P : ga_Po) : Array Value → State → Outcome → State → Prop := fun _ st oc t =>
  (∃ (v : Option ga_V) (h : ga_H) (ad : Nat → Nat), oc = .returned (v.map (ga_v ad)) ∧ P v h ∧ n0 ≤ h.length ∧ ga_ag n0 ad0 ad ∧ h.length ≤ 900000 ∧ ga_okh h ∧ (∀ x, v = some x → ga_ok h.length x) ∧ va_P G vwCl (ga_w tc ad h) t.heap ∧ va_D A (ga_w tc ad h)) ∧ va_F A st t
def ga_Xc (G : va_G) (tc : Nat → ClassId) (A : Nat → Prop) (ad0 : Nat → Nat) (n0 : Nat) (X : ga_Px) : String → State → State → Prop := fun E st t =>
  (∃ (h : ga_H) (ad : Nat → Nat), X E h ∧ n0 ≤ h.length ∧ ga_ag n0 ad0 ad ∧ h.length ≤ 900000 ∧ ga_okh h ∧ va_P G vwCl (ga_w tc ad h) t.heap ∧ va_D A (ga_w tc ad h)) ∧ va_F A st t
def ga_Pc (G : va_G) (tc : Nat → ClassId) (ad : Nat → Nat) (sz : Nat) (h : ga_H) (U : State) : Prop :=
  U.heap.size = sz ∧ h.length ≤ 900000 ∧ ga_okh h ∧ va_P G vwCl (ga_w tc ad h) U.heap ∧ va_K G vwCl (ga_tys tc) U ∧ va_D (fun _ => True) (ga_w tc ad h) ∧ ga_Z (va_A (ga_w tc ad h) sz) U ∧ ga_Str ga_strs U
def ga_head (M : ga_M0) : Cond := match ga_hh M with
  | [] => Cond.code (ga_y M) (ga_b M) (ga_n M) (ga_r M)
  | hh => Cond.codeWith (ga_y M) (ga_b M) (ga_n M) (ga_r M) hh
def ga_ws (M : ga_M0) : List Cond := ga_head M :: ga_big
def ga_rm (t mc ms : Nat) : Room := { frames := t, cells := mc, slots := ms, locals := 35 * t }
/-- a method's contract: from arguments and heap to P, or, thrown, to X -/
def ga_Mt (t mc ms : Nat) (M : ga_M0) (as : List ga_V) (h : ga_H) (P : ga_Po) (X : ga_Px) : Prop :=
  ∀ (l : Launch) (G : va_G) (tc : Nat → ClassId) (ad : Nat → Nat) (sz : Nat), l.stackTraces = false → (∀ v ∈ as, ga_ok h.length v) →
    vx_Met l (ga_y M) (ga_ws M) (ga_rm t mc ms) (va_Pc (as.map (ga_v ad)) (ga_Pc G tc ad sz h)) (ga_Qc G tc (va_A (ga_w tc ad h) sz) ad h.length P) (ga_Xc G tc (va_A (ga_w tc ad h) sz) ad h.length X) mc ms (va_A (ga_w tc ad h) sz)
abbrev ga_nox : ga_Px := fun _ _ => False
theorem ga_Pc.blind {G : va_G} {tc : Nat → ClassId} {ad : Nat → Nat} {sz : Nat} {h : ga_H} {av : List Value} : FrameBlind (va_Pc av (ga_Pc G tc ad sz h)) := fun a U g mk q => by
  obtain ⟨q0, q1, q2, q3, q4, q5, q6, q7, q8⟩ := q
  exact ⟨q0, q1, q2, q3, q4, va_K.moved (u := U) (U := U.calling g mk a) (Vm.Alike.refl U.vm) q5, q6, ⟨vx_Zq.moved (u := U) (U := U.calling g mk a) (Vm.Alike.refl U.vm) q7.1, vx_Zq.moved (u := U) (U := U.calling g mk a) (Vm.Alike.refl U.vm) q7.2⟩, ⟨fun w hw => by obtain ⟨sa, hs⟩ := q8.1 w hw; exact ⟨sa, vk_R.same (u := U) (U := U.calling g mk a) rfl hs⟩, fun w hw => va_Nc.moved (u := U) (U := U.calling g mk a) (Vm.Alike.refl U.vm) (q8.2 w hw)⟩⟩
-- a method's entry
def ga_lv0 : List ga_V → List (Option ga_V)
  | [] => []
  | v :: t => if ga_c2 v then some v :: none :: ga_lv0 t else some v :: ga_lv0 t
theorem ga_l_none (ad : Nat → Nat) : ∀ (n i : Nat), ga_l ad i (List.replicate n none) = []
  | 0, _ => rfl
  | n + 1, i => by rw [List.replicate_succ, ga_l]; exact ga_l_none ad n (i + 1)
theorem ga_l_args (ad : Nat → Nat) (n : Nat) : ∀ (as : List ga_V) (i : Nat), ga_l ad i (ga_lv0 as ++ List.replicate n none) = lv_args i (as.map (ga_v ad))
  | [], i => by rw [ga_lv0, List.nil_append, ga_l_none]; rfl
  | v :: t, i => by
    rw [ga_lv0, List.map_cons, lv_args, ga_cat]
    cases hc : ga_c2 v with
    | true =>
      simp only [if_true, List.cons_append, ga_l]
      rw [ga_l_args ad n t]
    | false =>
      simp only [Bool.false_eq_true, if_false, List.cons_append, ga_l, show ¬ (1 : Nat) = 2 from by decide]
      rw [ga_l_args ad n t]
theorem ga_lv0_len (ad : Nat → Nat) : ∀ as : List ga_V, (lg_sl (as.map (ga_v ad))).length = (ga_lv0 as).length
  | [] => rfl
  | v :: t => by
    have ih := ga_lv0_len ad t
    unfold lg_sl at ih ⊢
    rw [List.map_cons, List.flatMap_cons, List.length_append, ih, ga_lv0, ga_cat]
    cases ga_c2 v <;> simp <;> omega
theorem ga_E_met {p : Program} {l : Launch} {e : Env} {R : Room} {s : State} {m : MethodId} {args : Array Value} {below : List Frame} {meth : Method} {c : Code} {G : va_G} {tc : Nat → ClassId} {A : Nat → Prop} {ad0 : Nat → Nat} {n0 mc ms : Nat} {M : ga_M0} {P : ga_Po} {X : ga_Px}
    (hx : p.tables.exec = Jvm.exec) (hb : c.code = ga_b M) (hr : meth.sig.returnType = ga_r M) (hlk : meth.locks = false) :
    ga_E p l e R s m args below meth c G tc A ad0 n0 (vx_MQ below (ga_Qc G tc A ad0 n0 P) (ga_Xc G tc A ad0 n0 X) args s mc ms A) mc ms M P X := by
  refine ⟨fun v h ad H locs k n pc ls hP hPic hok hk hn hR => ?_, Or.inr ⟨_, _, rfl, fun E h ad H locs t hX hPic ht _ => ?_⟩⟩
  · refine W.widen hk hn (vx_ret ?_)
    obtain ⟨g1, g2, g3, g4, g5, g6, g7⟩ := hPic
    have hpost : ∀ t : State, t.heap = H → s.WarmedH t.vm → ga_Qc G tc A ad0 n0 P args s (.returned (v.map (ga_v ad))) t := fun t ht _ => ⟨⟨v, h, ad, rfl, hP, g1, g2, g3, g4, hok, by rw [ht]; exact g5, g6⟩, g7.F ht⟩
    rcases v with _ | x | x | x | x
    · exact W.vret hx hb (hr.trans hR.2) hpost g7.2.2 hR.1 hlk
    · obtain ⟨hR1, ty, hR2, hR3⟩ := hR
      exact W.zret (v := Int32.ofInt x) hx hb (hr.trans hR2) hR3 hpost g7.2.2 hR1 hlk
    · obtain ⟨hR1, ty, hR2, hR3⟩ := hR
      exact W.aret (v := ga_v ad (.inr (.inl x))) hx hb (hr.trans hR2) hR3 (by rcases x with _ | k9; exact Or.inl rfl; exact Or.inr ⟨_, rfl⟩) hpost g7.2.2 hR1 hlk
    · exact W.dret (v := x) hx hb (hr.trans hR.2) hpost g7.2.2 hR.1 hlk
    · exact hR.elim
  · obtain ⟨g1, g2, g3, g4, g5, g6, g7⟩ := hPic
    exact ⟨⟨h, ad, hX, g1, g2, g3, g4, by rw [ht]; exact g5, g6⟩, g7.F ht⟩
theorem ga_body {l : Launch} {t mc ms : Nat} {M : ga_M0} {as : List ga_V} {h : ga_H} {P : ga_Po} {X : ga_Px} {lv : List (Option ga_V)} {G : va_G} {tc : Nat → ClassId} {ad : Nat → Nat} {sz : Nat} (hl : l.stackTraces = false) (has : ∀ v ∈ as, ga_ok h.length v) (hsc : ga_sc M = none) (hn : (ga_lv0 as).length ≤ ga_n M) (hlv : ga_lv0 as ++ List.replicate (ga_n M - (ga_lv0 as).length) none = lv) (k : ga_W t mc ms 0 0 M P X 0 lv [] h)
    {p : Program} {e : Env} {s : State} {m : MethodId} {args : Array Value} {below : List Frame} {meth : Method} {c : Code} {s₁ : State} (B : BodyLoose p l (ga_y M) (headSpec (ga_ws M) (ga_rm t mc ms)) (ga_b M) (ga_n M) (ga_r M) e s m args below meth c s₁) (hml : c.maxLocals = ga_n M) (htb : c.exceptionTable.toList = tableOf (ga_hh M)) (hv : va_Pc (as.map (ga_v ad)) (ga_Pc G tc ad sz h) args s) :
    W p l e (ga_rm t mc ms) s m args below meth c s.heap [] 0 0 (vx_MQ below (ga_Qc G tc (va_A (ga_w tc ad h) sz) ad h.length P) (ga_Xc G tc (va_A (ga_w tc ad h) sz) ad h.length X) args s mc ms (va_A (ga_w tc ad h) sz)) (entryFrame m args (ga_n M)) := by
  obtain ⟨rfl, hsz, hlen, hoh, hP, hK, hD0, hZ, hStr⟩ := hv
  subst hsz
  have hts0 : ∀ w ∈ ga_ws M, w.before (as.map (ga_v ad)).toArray s = true := atoms_spec (ws := ga_ws M) B.pre
  have hls := lv_entry (as.map (ga_v ad)) (n := ga_n M) (by rw [ga_lv0_len]; exact hn)
  rw [lg_entry_eq]
  rw [← ga_l_args ad (ga_n M - (ga_lv0 as).length) as 0, hlv] at hls
  refine k p l e (ga_rm t mc ms) s m (as.map (ga_v ad)).toArray below meth c G tc (va_A (ga_w tc ad h) s.heap.size) ad ad h.length s.heap [] _ _ ⟨B.exec, B.bytes, hml, B.returns, findClass_of_methodNamed B.named, fun w hw => hts0 w (List.mem_cons_of_mem _ hw), hK, fun q hq => Or.inr hq, B.notSynchronized, fun hi => ?_, hl, htb, hZ, hStr, fun L xs hq => ?_, ⟨rfl, rfl, Nat.le_refl _, Nat.le_refl _⟩, ga_E_met B.exec B.bytes B.returns B.notSynchronized⟩ ⟨Nat.le_refl _, fun _ _ => rfl, hlen, hoh, hP, hD0.self, va_S.rf⟩ hls ?_ (fun v hv => by cases hv)
  · exact ((name_of_methodNamed B.named B.method).1).trans hi
  · rw [hsc] at hq; cases hq
  · intro v hv
    rw [← hlv] at hv
    rcases List.mem_append.mp hv with z | z
    · have key : ∀ (bs : List ga_V), some v ∈ ga_lv0 bs → v ∈ bs := by
        intro bs
        induction bs with
        | nil => intro q; cases q
        | cons w r ih =>
          intro q
          rw [ga_lv0] at q
          split at q
          · rcases List.mem_cons.mp q with q | q
            · cases q; exact List.mem_cons_self
            · rcases List.mem_cons.mp q with q | q
              · cases q
              · exact List.mem_cons_of_mem _ (ih q)
          · rcases List.mem_cons.mp q with q | q
            · cases q; exact List.mem_cons_self
            · exact List.mem_cons_of_mem _ (ih q)
      exact has v (key as z)
    · have := List.eq_of_mem_replicate z
      cases this
theorem ga_meth {t mc ms : Nat} {M : ga_M0} {as : List ga_V} {h : ga_H} {P : ga_Po} {X : ga_Px} (lv : List (Option ga_V)) (hsc : ga_sc M = none) (hhh : ga_hh M = []) (hy : plainName (ga_y M).cls = true) (hn : (ga_lv0 as).length ≤ ga_n M) (hlv : ga_lv0 as ++ List.replicate (ga_n M - (ga_lv0 as).length) none = lv) (k : ga_W t mc ms 0 0 M P X 0 lv [] h) : ga_Mt t mc ms M as h P X := by
  intro l G tc ad sz hl has
  refine vx_ofW (cc := ga_b M) (maxL := ga_n M) (ret := ga_r M) (ws' := ga_big) hy (by unfold ga_ws ga_head; rw [hhh]) (fun p e s m args below meth c s₁ B hml htab hv => ?_)
  exact ga_body hl has hsc hn hlv k B hml (by rw [hhh]; exact List.eq_nil_iff_forall_not_mem.mpr htab) hv
theorem ga_methH {t mc ms : Nat} {M : ga_M0} {as : List ga_V} {h : ga_H} {P : ga_Po} {X : ga_Px} (lv : List (Option ga_V)) (hsc : ga_sc M = none) (hhh : ga_head M = Cond.codeWith (ga_y M) (ga_b M) (ga_n M) (ga_r M) (ga_hh M)) (hy : plainName (ga_y M).cls = true) (hn : (ga_lv0 as).length ≤ ga_n M) (hlv : ga_lv0 as ++ List.replicate (ga_n M - (ga_lv0 as).length) none = lv) (k : ga_W t mc ms 0 0 M P X 0 lv [] h) : ga_Mt t mc ms M as h P X := by
  intro l G tc ad sz hl has
  refine vx_ofWH (cc := ga_b M) (maxL := ga_n M) (ret := ga_r M) (ws' := ga_big) (hh := ga_hh M) hy (by unfold ga_ws; rw [hhh]) (fun p e s m args below meth c s₁ B hml hv => ?_)
  refine ga_body hl has hsc hn hlv k B hml ?_ hv
  exact vx_table (x := ga_y M) B (atoms_spec (ws := ga_ws M) B.pre _ (by unfold ga_ws; rw [hhh]; exact List.mem_cons_self))
-- weaker ends
theorem ga_Mt.mono {t mc ms : Nat} {M : ga_M0} {as : List ga_V} {h : ga_H} {P P2 : ga_Po} {X X2 : ga_Px} (hM : ga_Mt t mc ms M as h P X) (hp : ∀ v h2, P v h2 → P2 v h2) (hx : ∀ E h2, X E h2 → X2 E h2) : ga_Mt t mc ms M as h P2 X2 := by
  intro l G tc ad sz hl has p e ha hc hk s m args below hf happ hpre hk2
  obtain ⟨n, o, h1, h2, h3, hQ⟩ := hM l G tc ad sz hl has p e ha hc hk s m args below hf happ hpre hk2
  refine ⟨n, o, h1, h2, h3, ?_⟩
  rcases hQ with ⟨⟨⟨v, hh, ad2, q1, q2, q3⟩, q4⟩, q5⟩ | ⟨q, q1, E, ce, L, ⟨⟨hh, ad2, q2, q3⟩, q4⟩, q5⟩
  · exact Or.inl ⟨⟨⟨v, hh, ad2, q1, hp _ _ q2, q3⟩, q4⟩, q5⟩
  · exact Or.inr ⟨q, q1, E, ce, L, ⟨⟨hh, ad2, hx _ _ q2, q3⟩, q4⟩, q5⟩
theorem ga_met {l : Launch} {y : MethodName} {ws : List Cond} {rm : Room} {Pc : Array Value → State → Prop} {Qc : Array Value → State → Outcome → State → Prop} {XC : String → State → State → Prop} {mc ms : Nat} {free : Addr → Prop} (hM : vx_Met l y ws rm Pc Qc XC mc ms free) (hx : ∀ E st t, ¬ XC E st t) : Met l y ws rm Pc Qc mc ms free := by
  intro p e ha hc hk s m args below hf happ hpre hk2
  obtain ⟨n, o, h1, h2, h3, hQ⟩ := hM p e ha hc hk s m args below hf happ hpre hk2
  refine ⟨n, o, h1, h2, h3, ?_⟩
  rcases hQ with hQ | ⟨q, q1, E, ce, L, hXC, -⟩
  · exact hQ
  · exact absurd hXC (hx _ _ _)
end
section
-- calls
/-- a method as the tables have it: its code, its class, its number of parameters -/
def ga_MF (M : ga_M0) (n : Nat) : Prop := ga_head M ∈ ga_big ∧ Cond.initialized (ga_y M).cls ∈ ga_big ∧ ((ga_y M).cls ≠ "java/lang/invoke/MethodHandle" ∧ (ga_y M).cls ≠ "java/lang/invoke/VarHandle") ∧ (parseMethodDescriptor (ga_y M).desc).map (fun d => d.parameters.length) = some n ∧ ga_n M ≤ 16
def ga_MV (M : ga_M0) : Prop := Cond.instanceMethod (ga_y M) ∈ ga_big ∧ Cond.selects (ga_y M).cls (ga_y M) (ga_y M) ∈ ga_big
def ga_MS (M : ga_M0) : Prop := Cond.static (ga_y M) ∈ ga_big
def ga_MI (M : ga_M0) : Prop := (ga_y M).name = "<init>" ∧ Cond.instanceMethod (ga_y M) ∈ ga_big ∧ ga_r M = none
def ga_cats (st : List ga_V) : Nat := (st.map (fun v => if ga_c2 v then 2 else 1)).sum
theorem ga_cats_eq (ad : Nat → Nat) (st : List ga_V) : ((st.map (ga_v ad)).map fun v => v.category).sum = ga_cats st := by
  unfold ga_cats
  rw [List.map_map]
  congr 1
  exact List.map_congr_left fun v _ => ga_cat ad v
theorem ga_ws_warm {args : Array Value} {s : State} {M : ga_M0} {n : Nat} (hF : ga_MF M n) (hts : ∀ w ∈ ga_big, w.before args s = true) : ∀ w ∈ ga_ws M, ∀ (a' : Array Value) (U : State), s.WarmedH U.vm → w.before a' U = true := by
  intro w hw
  rcases List.mem_cons.mp hw with z | z
  · rw [z]; exact ga_warm hts _ hF.1
  · exact ga_warm hts w z
section GaCalls
variable {p : Program} {l : Launch} {e : Env} {R : Room} {s : State} {m : MethodId} {args : Array Value} {below : List Frame} {meth : Method} {c : Code} {G : va_G} {tc : Nat → ClassId} {A : Nat → Prop} {ad0 ad : Nat → Nat} {n0 : Nat} {H : Heap} {locs : List Loc} {ls : Array Slot} {Q : State → Prop}
variable {t mc ms kc ks : Nat} {M : ga_M0} {P : ga_Po} {X : ga_Px} {pc : Nat} {lv : List (Option ga_V)} {st st2 : List ga_V} {h : ga_H}
variable {t' mc' ms' n : Nat} {M' : ga_M0} {as : List ga_V} {P' : ga_Po} {X' : ga_Px}
theorem ga_callB (hF : ga_MF M' n) (hhh : ga_hh M' = []) (hts : ∀ w ∈ ga_big, w.before args s = true) {own : String} {idx : Nat} (hl : Cond.methodLink own idx (ga_y M') ∈ ga_big) (ht : t' + 1 ≤ R.frames) (ht2 : 35 * (t' + 1) ≤ R.locals) :
    CallB R s args own idx (ga_y M') (ga_b M') (ga_n M') (ga_r M') (ga_ws M') (ga_rm t' mc' ms') mc' ms' n := by
  have hh : ga_head M' = Cond.code (ga_y M') (ga_b M') (ga_n M') (ga_r M') := by unfold ga_head; rw [hhh]
  have hw := ga_ws_warm hF hts
  obtain ⟨h1, h2, h3, h4, h5⟩ := hF
  rw [hh] at h1
  refine ⟨rfl, rfl, ht, ?_, hw, ?_, hts _ h1, hts _ h2, h3, fun sig hs => ?_, hts _ hl⟩
  · show 8 + (ga_n M' + 11) + 35 * t' ≤ R.locals
    omega
  · unfold ga_ws; rw [hh]; exact List.mem_cons_self
  · rw [hs] at h4
    exact (Option.some.inj h4).symm
theorem ga_free (hPD : va_D A (ga_w tc ad h)) (hPS : va_S A s.heap H locs) (hA : ∀ q, s.heap.size ≤ q → A q) : ∀ q, va_A (ga_w tc ad h) H.size q → A q := by
  rintro q (⟨k, e9, hk⟩ | hq)
  · exact hPD.2 k (q, e9) hk
  · exact hA q (Nat.le_trans hPS.1 hq)
theorem ga_pre (hC : ga_C p l e R s m args below meth c G tc A ad0 n0 Q t mc ms M P X) (hP : ga_Pic G tc A s.heap ad0 ad n0 h H locs) : ∀ U : State, U.heap = H → s.WarmedH U.vm → va_Pc (as.map (ga_v ad)) (ga_Pc G tc ad H.size h) (as.map (ga_v ad)).toArray U := by
  intro U hU hW
  have hK := hC.2.2.2.2.2.2.1
  have hA := hC.2.2.2.2.2.2.2.1
  have hZ := hC.2.2.2.2.2.2.2.2.2.2.2.2.1
  have hStr := hC.2.2.2.2.2.2.2.2.2.2.2.2.2.1
  obtain ⟨hn0, hag, hlen, hoh, hPP, hPD, hPS⟩ := hP
  refine ⟨rfl, by rw [hU], hlen, hoh, by rw [hU]; exact hPP, va_K.moved hW.alike hK, hPD.weaken (fun _ _ _ _ => trivial), ⟨?_, ?_⟩, ⟨fun w hw => ?_, fun w hw => va_Nc.moved hW.alike (hStr.2 w hw)⟩⟩
  · have := vx_Zq.moved hW.alike ((hZ.1.kept hPS.2.1).narrow (ga_free hPD hPS hA))
    rw [hU]; exact this
  · have := vx_Zq.moved hW.alike ((hZ.2.kept hPS.2.1).narrow (ga_free hPD hPS hA))
    rw [hU]; exact this
  · obtain ⟨sa, hs⟩ := hStr.1 w hw
    exact ⟨sa, vk_R.warm hW hs⟩
/-- behind a call -/
theorem ga_after (hC : ga_C p l e R s m args below meth c G tc A ad0 n0 Q t mc ms M P X) (hP : ga_Pic G tc A s.heap ad0 ad n0 h H locs) (hl : lv_has ls (ga_n M) (ga_l ad 0 lv)) (hol : ga_okl h.length lv) (hos2 : ga_oks h.length st2) {st0 : List Value} {a : Array Value}
    (hr : va_Run p l e R s m args below meth c H locs kc ks mc' ms' (F0 m pc ls st0) (st2.map (ga_v ad)) (ga_Qc G tc (va_A (ga_w tc ad h) H.size) ad h.length P' a) (va_A (ga_w tc ad h) H.size))
    (k : ∀ v h2, P' v h2 → ga_W t mc ms (kc + mc') (ks + ms') M P X (pc + 3) lv (v.toList ++ st2) h2) : W p l e R s m args below meth c H locs kc ks Q (F0 m pc ls st0) := by
  obtain ⟨hn0, hag, hlen, hoh, hPP, hPD, hPS⟩ := hP
  have hFc := ga_free hPD hPS hC.2.2.2.2.2.2.2.1
  intro T hT XX
  obtain ⟨v0, st₀, t9, T', L, h0, X9, hL, e1, e2, ⟨⟨v, h2, ad2, hv, hP9, hn2, hag2, hlen2, hoh2, hok2, hPP2, hPD2⟩, hF⟩, hgo⟩ := hr T hT XX
  have hv0 : v0 = v.map (ga_v ad2) := by injection hv
  subst hv0
  obtain ⟨k1, k2, k3⟩ := vx_keep h0 e1 hPS (fun q _ z => hFc q z) hFc hL hF
  have key := k v h2 hP9 p l e R s m args below meth c G tc A ad0 ad2 n0 T'.heap (locs ++ L) ls Q hC ⟨Nat.le_trans hn0 hn2, fun i hi => by rw [← hag i hi]; exact hag2 i (hi.elim (fun z => Or.inl (by omega)) Or.inr), hlen2, hoh2, by rw [e1]; exact hPP2, hPD2.weaken (fun _ q _ z => hFc q.1 z), k3⟩
    (ga_l_ag hl hag2 hol) (hol.mono hn2) (fun w hw => by
      rcases List.mem_append.mp hw with z | z
      · cases v with
        | none => cases z
        | some x => rw [List.mem_singleton.mp z]; exact hok2 x rfl
      · exact (hos2 w z).mono hn2)
  obtain ⟨t2, a1, b1⟩ := key T' rfl X9
  refine ⟨t2, hgo t2 ?_, b1⟩
  have ew : (v.map (ga_v ad2)).toList ++ st2.map (ga_v ad) = (v.toList ++ st2).map (ga_v ad2) := by
    rw [List.map_append, ga_map_ag hag2 hos2]
    cases v <;> rfl
  show Steps _ _ _ (T'.setTop { F0 m pc ls st0 with pc := pc + 3, stack := (v.map (ga_v ad2)).toList ++ st2.map (ga_v ad) }) t2
  rw [ew]
  exact a1
theorem ga_Xno {tc : Nat → ClassId} {A1 : Nat → Prop} {ad1 : Nat → Nat} {n1 : Nat} : ∀ E st t, ¬ ga_Xc G tc A1 ad1 n1 ga_nox E st t := by
  rintro E st t ⟨⟨h, ad, hX, -⟩, -⟩
  exact hX
theorem ga_oks.app {N : Nat} {st st2 : List ga_V} (h : ga_oks N (st ++ st2)) : ga_oks N st2 := fun v hv => h v (List.mem_append_right _ hv)
/-- a call of an instance method that returns -/
theorem ga_callV {q ci idx : Nat} {fs : List ga_V} (hM : ga_Mt t' mc' ms' M' (Vr q :: as) h P' ga_nox) (hF : ga_MF M' n) (hhh : ga_hh M' = []) (hV : ga_MV M') (hlk : Cond.methodLink (ga_y M).cls idx (ga_y M') ∈ ga_big) (hd : decode (ga_b M) pc = .ok (.invokevirtual idx, 3)) (hst : st = as.reverse ++ Vr q :: st2) (hln : as.length = n) (ht : t' + 1 ≤ t) (hq : h[q]? = some (.inl (ci, fs))) (hci : (vwCl[ci]?).map (fun z => z.1) = some (ga_y M').cls) (hcat : ga_cats st2 ≤ 8) (hkc : kc + mc' ≤ mc) (hks : ks + ms' ≤ ms)
    (k : ∀ v h2, P' v h2 → ga_W t mc ms (kc + mc') (ks + ms') M P X (pc + 3) lv (v.toList ++ st2) h2) : ga_W t mc ms kc ks M P X pc lv st h := by
  intro p l e R s m args below meth c G tc A ad0 ad n0 H locs ls Q hC hP hl hol hos
  subst hst
  have hRR := hC.2.2.2.2.2.2.2.2.2.2.2.2.2.2.2.1
  have hts := hC.2.2.2.2.2.1
  have hK := hC.2.2.2.2.2.2.1
  obtain ⟨hn0, hag, hlen, hoh, hPP, hPD, hPS⟩ := id hP
  obtain ⟨r9, hr9, hr8⟩ := Option.map_eq_some_iff.mp hci
  have hrecv := va_recv hK hPP hr9 (ga_w_at hq)
  rw [hr8] at hrecv
  have hM9 := ga_met (hM l G tc ad H.size hC.2.2.2.2.2.2.2.2.2.2.1 (fun v hv => by
    rcases List.mem_cons.mp hv with z | z
    · rw [z]; exact hos _ (List.mem_append_right _ List.mem_cons_self)
    · exact hos v (List.mem_append_left _ (List.mem_reverse.mpr z)))) ga_Xno
  refine ga_after hC hP hl hol (st2 := st2) (hos.app.tail) (va_runV (As := as.map (ga_v ad)) (b := ad q) (C := (ga_y M').cls) ⟨hC.1, hC.2.1, hC.2.2.1, hC.2.2.2.2.1, hts⟩ hM9 ⟨ga_callB hF hhh hts hlk (by omega) (by omega), hts _ hV.1, hts _ hV.2⟩ ⟨ga_Pc.blind, hrecv, fun U hU hW => ga_pre hC hP (as := Vr q :: as) U hU hW⟩ rfl (by rw [List.length_map]; exact hln) hl.1 ?_ (lv_room (by rw [ga_cats_eq]; exact hcat)) hd ⟨by rw [hRR.1]; exact hkc, by rw [hRR.2.1]; exact hks⟩) k
  show (as.reverse ++ Vr q :: st2).map (ga_v ad) = _
  rw [List.map_append, List.map_reverse]
  rfl
/-- a call of a static method that returns -/
theorem ga_callS {idx : Nat} (hM : ga_Mt t' mc' ms' M' as h P' ga_nox) (hF : ga_MF M' n) (hhh : ga_hh M' = []) (hV : ga_MS M') (hlk : Cond.methodLink (ga_y M).cls idx (ga_y M') ∈ ga_big) (hd : decode (ga_b M) pc = .ok (.invokestatic idx, 3)) (hst : st = as.reverse ++ st2) (hln : as.length = n) (ht : t' + 1 ≤ t) (hcat : ga_cats st2 ≤ 8) (hkc : kc + mc' ≤ mc) (hks : ks + ms' ≤ ms)
    (k : ∀ v h2, P' v h2 → ga_W t mc ms (kc + mc') (ks + ms') M P X (pc + 3) lv (v.toList ++ st2) h2) : ga_W t mc ms kc ks M P X pc lv st h := by
  intro p l e R s m args below meth c G tc A ad0 ad n0 H locs ls Q hC hP hl hol hos
  subst hst
  have hRR := hC.2.2.2.2.2.2.2.2.2.2.2.2.2.2.2.1
  have hts := hC.2.2.2.2.2.1
  obtain ⟨hn0, hag, hlen, hoh, hPP, hPD, hPS⟩ := id hP
  have hM9 := ga_met (hM l G tc ad H.size hC.2.2.2.2.2.2.2.2.2.2.1 (fun v hv => hos v (List.mem_append_left _ (List.mem_reverse.mpr hv)))) ga_Xno
  refine ga_after hC hP hl hol (st2 := st2) hos.app (va_runS (As := as.map (ga_v ad)) ⟨hC.1, hC.2.1, hC.2.2.1, hC.2.2.2.2.1, hts⟩ hM9 ⟨ga_callB hF hhh hts hlk (by omega) (by omega), hts _ hV⟩ ⟨ga_Pc.blind, fun U hU hW => ga_pre hC hP (as := as) U hU hW⟩ rfl (by rw [List.length_map]; exact hln) hl.1 ?_ (lv_room (by rw [ga_cats_eq]; exact hcat)) hd ⟨by rw [hRR.1]; exact hkc, by rw [hRR.2.1]; exact hks⟩) k
  show (as.reverse ++ st2).map (ga_v ad) = _
  rw [List.map_append, List.map_reverse]
/-- a constructor's call -/
theorem ga_callI {q idx : Nat} {host : String} (hM : ga_Mt t' mc' ms' M' (Vr q :: as) h P' ga_nox) (hF : ga_MF M' n) (hhh : ga_hh M' = []) (hV : ga_MI M') (hlk : Cond.methodLink (ga_y M).cls idx (ga_y M') ∈ ga_big ∨ Cond.methodLinkNest (ga_y M).cls idx (ga_y M') host ∈ ga_big) (hd : decode (ga_b M) pc = .ok (.invokespecial idx, 3)) (hst : st = as.reverse ++ Vr q :: st2) (hln : as.length = n) (ht : t' + 1 ≤ t) (hcat : ga_cats st2 ≤ 8) (hkc : kc + mc' ≤ mc) (hks : ks + ms' ≤ ms)
    (k : ∀ v h2, P' v h2 → ga_W t mc ms (kc + mc') (ks + ms') M P X (pc + 3) lv (v.toList ++ st2) h2) : ga_W t mc ms kc ks M P X pc lv st h := by
  intro p l e R s m args below meth c G tc A ad0 ad n0 H locs ls Q hC hP hl hol hos
  subst hst
  have hRR := hC.2.2.2.2.2.2.2.2.2.2.2.2.2.2.2.1
  have hts := hC.2.2.2.2.2.1
  obtain ⟨hn0, hag, hlen, hoh, hPP, hPD, hPS⟩ := id hP
  have hM9 := ga_met (hM l G tc ad H.size hC.2.2.2.2.2.2.2.2.2.2.1 (fun v hv => by
    rcases List.mem_cons.mp hv with z | z
    · rw [z]; exact hos _ (List.mem_append_right _ List.mem_cons_self)
    · exact hos v (List.mem_append_left _ (List.mem_reverse.mpr z)))) ga_Xno
  have est : (as.reverse ++ Vr q :: st2).map (ga_v ad) = (as.map (ga_v ad)).reverse ++ .ref (ad q) :: st2.map (ga_v ad) := by
    rw [List.map_append, List.map_reverse]
    rfl
  rcases hlk with hlk | hlk
  · have hB := ga_callB (mc' := mc') (ms' := ms') (R := R) (t' := t') hF hhh hts hlk (by omega) (by omega)
    rw [hV.2.2] at hB
    exact ga_after hC hP hl hol (st2 := st2) (hos.app.tail) (va_runI (As := as.map (ga_v ad)) (b := ad q) ⟨hC.1, hC.2.1, hC.2.2.1, hC.2.2.2.2.1, hts⟩ hM9 ⟨hB, hV.1, hts _ hV.2.1⟩ ⟨ga_Pc.blind, fun U hU hW => ga_pre hC hP (as := Vr q :: as) U hU hW⟩ rfl (by rw [List.length_map]; exact hln) hl.1 est (lv_room (by rw [ga_cats_eq]; exact hcat)) hd ⟨by rw [hRR.1]; exact hkc, by rw [hRR.2.1]; exact hks⟩) k
  · have hh : ga_head M' = Cond.code (ga_y M') (ga_b M') (ga_n M') (ga_r M') := by unfold ga_head; rw [hhh]
    have hw := ga_ws_warm hF hts
    obtain ⟨h1, h2, h3, h4, h5⟩ := id hF
    rw [hh] at h1
    have hB : va_CN R s args (ga_y M).cls idx (ga_y M') host (ga_b M') (ga_n M') (ga_r M') (ga_ws M') (ga_rm t' mc' ms') mc' ms' n := by
      refine ⟨⟨rfl, rfl, by show t' + 1 ≤ R.frames; omega, ?_, hw, ?_⟩, hts _ h1, hts _ h2, h3, fun sig hs => ?_, hts _ hlk⟩
      · show 8 + (ga_n M' + 11) + 35 * t' ≤ R.locals
        omega
      · unfold ga_ws; rw [hh]; exact List.mem_cons_self
      · rw [hs] at h4
        exact (Option.some.inj h4).symm
    rw [hV.2.2] at hB
    exact ga_after hC hP hl hol (st2 := st2) (hos.app.tail) (va_runIN (As := as.map (ga_v ad)) (b := ad q) ⟨hC.1, hC.2.1, hC.2.2.1, hC.2.2.2.2.1, hts⟩ hM9 ⟨hB, hV.1, hts _ hV.2.1⟩ ⟨ga_Pc.blind, fun U hU hW => ga_pre hC hP (as := Vr q :: as) U hU hW⟩ rfl (by rw [List.length_map]; exact hln) hl.1 est (lv_room (by rw [ga_cats_eq]; exact hcat)) hd ⟨by rw [hRR.1]; exact hkc, by rw [hRR.2.1]; exact hks⟩) k
/-- Object's constructor -/
theorem ga_objInit {q idx : Nat} (hw1 : Cond.methodLink (ga_y M).cls idx Lib.objectInit ∈ ga_big) (hw2 : Cond.instanceMethod Lib.objectInit ∈ ga_big) (hw3 : Cond.code Lib.objectInit ⟨#[0xb1]⟩ 1 none ∈ ga_big) (hd : decode (ga_b M) pc = .ok (.invokespecial idx, 3)) (ht : 1 ≤ t) (hcat : ga_cats st ≤ 8) (k : ga_W t mc ms kc ks M P X (pc + 3) lv st h) : ga_W t mc ms kc ks M P X pc lv (Vr q :: st) h := by
  intro p l e R s m args below meth c G tc A ad0 ad n0 H locs ls Q hC hP hl hol hos
  have hRR := hC.2.2.2.2.2.2.2.2.2.2.2.2.2.2.2.1
  have hts := hC.2.2.2.2.2.1
  refine W.objInit hC.1 hC.2.1 hC.2.2.2.2.1 (hts _ hw1) (hts _ hw2) (hts _ hw3) rfl (by rw [hC.2.2.1]; exact hl.1) (a := ad q) (rest := st.map (ga_v ad)) rfl hd (by omega) ?_ ?_
  · have := lv_room (m := m) (pc := pc) (ls := ls) (rest := []) (st := st.map (ga_v ad)) (by rw [ga_cats_eq]; exact hcat)
    have e9 : 2 * (F0 m pc ls ((Vr q :: st).map (ga_v ad))).monitorRoom + ((st.map (ga_v ad)).map fun v => v.category).sum ≤ 8 := this
    omega
  · exact k p l e R s m args below meth c G tc A ad0 ad n0 H locs ls Q hC hP hl hol hos.tail
end GaCalls
end
section
-- throws
def ga_TF (own : String) (ik ic : Nat) (E : String) (names : List String) : Prop :=
  Bundle.fit E = true ∧ (∀ n ∈ names, Bundle.fit n = true) ∧ Cond.classLink own ik E ∈ ga_big ∧ Cond.initialized E ∈ ga_big ∧ (∀ w ∈ vx_atS own ic E names, w ∈ ga_big) ∧ (∀ w ∈ Cond.classLink own ik E :: Cond.initialized E :: vx_atS own ic E names, vx_ot w = true) ∧ names.length = 2
/-- a throw's handler: which row of the table takes it -/
def ga_Hd (M : ga_M0) (pc : Nat) (E : String) (hp : Nat) : Prop :=
  ∃ (pre : List ExceptionTableEntry) (x : ExceptionTableEntry) (suf : List ExceptionTableEntry), tableOf (ga_hh M) = pre ++ x :: suf ∧ (∀ z ∈ pre, covers z pc = false ∨ (z.catchType ≠ 0 ∧ ∃ nm : String, Cond.classLink (ga_y M).cls z.catchType nm ∈ ga_big ∧ (E, nm) ∈ ga_ncp)) ∧ covers x pc = true ∧ x.catchType ≠ 0 ∧ Cond.classLink (ga_y M).cls x.catchType E ∈ ga_big ∧ Cond.castable E E ∈ ga_big ∧ x.handlerPc = hp
section GaThrows
variable {p : Program} {l : Launch} {e : Env} {R : Room} {s : State} {m : MethodId} {args : Array Value} {below : List Frame} {meth : Method} {c : Code} {G : va_G} {tc : Nat → ClassId} {A : Nat → Prop} {ad0 ad : Nat → Nat} {n0 : Nat} {H : Heap} {locs : List Loc} {ls : Array Slot} {Q : State → Prop}
variable {t mc ms kc ks : Nat} {M : ga_M0} {P : ga_Po} {X : ga_Px} {pc : Nat} {lv : List (Option ga_V)} {st st2 : List ga_V} {h : ga_H}
variable {t' mc' ms' n : Nat} {M' : ga_M0} {as : List ga_V} {P' : ga_Po} {X' : ga_Px}
theorem ga_throw {ik is ic : Nat} {E text : String} {names : List String} (hT : ga_TF (ga_y M).cls ik ic E names) (hstr : ((ga_y M).cls, is, text) ∈ ga_strs) (hhh : ga_hh M = [])
    (d0 : decode (ga_b M) pc = .ok (.new ik, 3)) (d3 : decode (ga_b M) (pc + 3) = .ok (.dup, 1)) (d4 : decode (ga_b M) (pc + 4) = .ok (.ldc is, 2)) (d6 : decode (ga_b M) (pc + 6) = .ok (.invokespecial ic, 3)) (d9 : decode (ga_b M) (pc + 9) = .ok (.athrow, 1))
    (ht : 6 ≤ t) (hcat : ga_cats st ≤ 8) (hkc : kc + 1 ≤ mc) (hks : ks + 6 ≤ ms) (hX : X E h) : ga_W t mc ms kc ks M P X pc lv st h := by
  intro p l e R s m args below meth c G tc A ad0 ad n0 H locs ls Q hC hP hl hol hos
  have hRR := hC.2.2.2.2.2.2.2.2.2.2.2.2.2.2.2.1
  have hts := hC.2.2.2.2.2.1
  have hlk := hC.2.2.2.2.2.2.2.2.1
  have hst := hC.2.2.2.2.2.2.2.2.2.2.1
  have htb := hC.2.2.2.2.2.2.2.2.2.2.2.1
  have hZ := hC.2.2.2.2.2.2.2.2.2.2.2.2.1
  have hStr := hC.2.2.2.2.2.2.2.2.2.2.2.2.2.1
  have hE := hC.2.2.2.2.2.2.2.2.2.2.2.2.2.2.2.2
  obtain ⟨hn0, hag, hlen, hoh, hPP, hPD, hPS⟩ := id hP
  obtain ⟨f1, f2, f3, f4, f5, f6, f7⟩ := hT
  obtain ⟨sa, hsa⟩ := hStr.1 _ hstr
  rcases hE.2 with hno | ⟨Qc, XC, hQ, hXC⟩
  · exact absurd hX (hno E h)
  · rw [hQ]
    refine vx_throwS (A := A) (names := names) hC.1 hC.2.1 hst hC.2.2.2.2.1 f1 f2 (hts _ f3) (hts _ f4) hsa (fun w hw => hts _ (f5 w hw)) f6 hZ.1 hZ.2 hPS (by rw [hC.2.2.1]; exact hl.1) d0 d3 d4 d6 d9 (by rw [htb, hhh]; intro x hx; cases hx) (by rw [f7]; omega) (by rw [f7, ga_cats_eq]; omega) (by rw [hRR.1]; exact hkc) (by rw [hRR.2.1]; exact hks) hlk (fun t9 hal hsz hke => ?_) hPS.2.2 hkc hks
    refine hXC E h ad t9.heap [] t9 hX ⟨hn0, hag, hlen, hoh, hPP.kept (fun k q hk => hke q.1 (hPP k q hk).lt), hPD, ⟨Nat.le_trans hPS.1 hsz, fun q h1 h2 => (hke q (Nat.lt_of_lt_of_le h1 hPS.1)).trans (hPS.2.1 q h1 h2), fun _ hz => by cases hz⟩⟩ rfl hal
/-- behind a call that may throw: both ends -/
theorem ga_afterX (hC : ga_C p l e R s m args below meth c G tc A ad0 n0 Q t mc ms M P X) (hP : ga_Pic G tc A s.heap ad0 ad n0 h H locs) (hl : lv_has ls (ga_n M) (ga_l ad 0 lv)) (hol : ga_okl h.length lv) (hos2 : ga_oks h.length st2) {st0 : List Value} {a : Array Value}
    (hr : vx_Run p l e R s m args below meth c H locs kc ks mc' ms' (F0 m pc ls st0) (st2.map (ga_v ad)) (ga_Qc G tc (va_A (ga_w tc ad h) H.size) ad h.length P' a) (ga_Xc G tc (va_A (ga_w tc ad h) H.size) ad h.length X') (va_A (ga_w tc ad h) H.size))
    (kx : ∀ E h2 ad2 H2 locs2 q ce, X' E h2 → ga_Pic G tc A s.heap ad0 ad2 n0 h2 H2 locs2 → ga_ag h.length ad ad2 → h.length ≤ h2.length → H2[q]? = some ce → ce.vm = .none → s.vm.findClass E = some ce.cls → vx_W p l e R s m args below meth c H2 locs2 (kc + mc') (ks + ms') Q (F0 m pc ls (st2.map (ga_v ad))) q)
    (k : ∀ v h2, P' v h2 → ga_W t mc ms (kc + mc') (ks + ms') M P X (pc + 3) lv (v.toList ++ st2) h2) : W p l e R s m args below meth c H locs kc ks Q (F0 m pc ls st0) := by
  obtain ⟨hn0, hag, hlen, hoh, hPP, hPD, hPS⟩ := hP
  have hFc := ga_free hPD hPS hC.2.2.2.2.2.2.2.1
  intro T hT XX
  rcases hr T hT XX with ⟨v0, st₀, t9, T', L, h0, X9, hL, e1, e2, ⟨⟨v, h2, ad2, hv, hP9, hn2, hag2, hlen2, hoh2, hok2, hPP2, hPD2⟩, hF⟩, hgo⟩ | ⟨q, st₀, t9, T', L, E, ce, h0, X9, hL, e1, e2, ⟨⟨h2, ad2, hX9, hn2, hag2, hlen2, hoh2, hPP2, hPD2⟩, hF⟩, hce, hcv, hcl, hgo⟩
  · have hv0 : v0 = v.map (ga_v ad2) := by injection hv
    subst hv0
    obtain ⟨k1, k2, k3⟩ := vx_keep h0 e1 hPS (fun q _ z => hFc q z) hFc hL hF
    have key := k v h2 hP9 p l e R s m args below meth c G tc A ad0 ad2 n0 T'.heap (locs ++ L) ls Q hC ⟨Nat.le_trans hn0 hn2, fun i hi => by rw [← hag i hi]; exact hag2 i (hi.elim (fun z => Or.inl (by omega)) Or.inr), hlen2, hoh2, by rw [e1]; exact hPP2, hPD2.weaken (fun _ q _ z => hFc q.1 z), k3⟩
      (ga_l_ag hl hag2 hol) (hol.mono hn2) (fun w hw => by
        rcases List.mem_append.mp hw with z | z
        · cases v with
          | none => cases z
          | some x => rw [List.mem_singleton.mp z]; exact hok2 x rfl
        · exact (hos2 w z).mono hn2)
    obtain ⟨t2, a1, b1⟩ := key T' rfl X9
    refine ⟨t2, hgo t2 ?_, b1⟩
    have ew : (v.map (ga_v ad2)).toList ++ st2.map (ga_v ad) = (v.toList ++ st2).map (ga_v ad2) := by
      rw [List.map_append, ga_map_ag hag2 hos2]
      cases v <;> rfl
    show Steps _ _ _ (T'.setTop { F0 m pc ls st0 with pc := pc + 3, stack := (v.map (ga_v ad2)).toList ++ st2.map (ga_v ad) }) t2
    rw [ew]
    exact a1
  · obtain ⟨k1, k2, k3⟩ := vx_keep h0 e1 hPS (fun q _ z => hFc q z) hFc hL hF
    have key := kx E h2 ad2 T'.heap (locs ++ L) q ce hX9 ⟨Nat.le_trans hn0 hn2, fun i hi => by rw [← hag i hi]; exact hag2 i (hi.elim (fun z => Or.inl (by omega)) Or.inr), hlen2, hoh2, by rw [e1]; exact hPP2, hPD2.weaken (fun _ q _ z => hFc q.1 z), k3⟩ hag2 hn2 (by rw [e1]; exact hce) hcv hcl
    obtain ⟨t2, a1, b1⟩ := key T' rfl X9
    exact ⟨t2, hgo.trans a1, b1⟩
theorem ga_recv {q ci : Nat} {fs : List ga_V} {C : String} (hK : va_K G vwCl (ga_tys tc) s) (hPP : va_P G vwCl (ga_w tc ad h) H) (hq : h[q]? = some (.inl (ci, fs))) (hci : (vwCl[ci]?).map (fun z => z.1) = some C) : ∃ cell : Cell, H[ad q]? = some cell ∧ cell.vm.isStatics = false ∧ s.vm.findClass C = some cell.cls := by
  obtain ⟨r9, hr9, hr8⟩ := Option.map_eq_some_iff.mp hci
  have hrecv := va_recv hK hPP hr9 (ga_w_at hq)
  rw [hr8] at hrecv
  exact hrecv
/-- a call of an instance method that returns or throws; what it throws goes on to the caller -/
theorem ga_callVX {q ci idx : Nat} {fs : List ga_V} (hM : ga_Mt t' mc' ms' M' (Vr q :: as) h P' X') (hF : ga_MF M' n) (hhh : ga_hh M' = []) (hV : ga_MV M') (hlk : Cond.methodLink (ga_y M).cls idx (ga_y M') ∈ ga_big) (hd : decode (ga_b M) pc = .ok (.invokevirtual idx, 3)) (hst : st = as.reverse ++ Vr q :: st2) (hln : as.length = n) (ht : t' + 1 ≤ t) (hq : h[q]? = some (.inl (ci, fs))) (hci : (vwCl[ci]?).map (fun z => z.1) = some (ga_y M').cls) (hcat : ga_cats st2 ≤ 8) (hkc : kc + mc' ≤ mc) (hks : ks + ms' ≤ ms) (hh0 : ga_hh M = [])
    (kx : ∀ E h2, X' E h2 → X E h2)
    (k : ∀ v h2, P' v h2 → ga_W t mc ms (kc + mc') (ks + ms') M P X (pc + 3) lv (v.toList ++ st2) h2) : ga_W t mc ms kc ks M P X pc lv st h := by
  intro p l e R s m args below meth c G tc A ad0 ad n0 H locs ls Q hC hP hl hol hos
  subst hst
  have hRR := hC.2.2.2.2.2.2.2.2.2.2.2.2.2.2.2.1
  have hts := hC.2.2.2.2.2.1
  have hK := hC.2.2.2.2.2.2.1
  have hlk9 := hC.2.2.2.2.2.2.2.2.1
  have htb := hC.2.2.2.2.2.2.2.2.2.2.2.1
  have hE := hC.2.2.2.2.2.2.2.2.2.2.2.2.2.2.2.2
  obtain ⟨hn0, hag, hlen, hoh, hPP, hPD, hPS⟩ := id hP
  have hM9 := hM l G tc ad H.size hC.2.2.2.2.2.2.2.2.2.2.1 (fun v hv => by
    rcases List.mem_cons.mp hv with z | z
    · rw [z]; exact hos _ (List.mem_append_right _ List.mem_cons_self)
    · exact hos v (List.mem_append_left _ (List.mem_reverse.mpr z)))
  refine ga_afterX hC hP hl hol (st2 := st2) (hos.app.tail) (vx_runV (As := as.map (ga_v ad)) (b := ad q) (C := (ga_y M').cls) ⟨hC.1, hC.2.1, hC.2.2.1, hC.2.2.2.2.1, hts⟩ hM9 ⟨ga_callB hF hhh hts hlk (by omega) (by omega), hts _ hV.1, hts _ hV.2⟩ ⟨ga_Pc.blind, ga_recv hK hPP hq hci, fun U hU hW => ga_pre hC hP (as := Vr q :: as) U hU hW⟩ rfl (by rw [List.length_map]; exact hln) hl.1 ?_ (lv_room (by rw [ga_cats_eq]; exact hcat)) hd ⟨by rw [hRR.1]; exact hkc, by rw [hRR.2.1]; exact hks⟩) ?_ k
  · show (as.reverse ++ Vr q :: st2).map (ga_v ad) = _
    rw [List.map_append, List.map_reverse]
    rfl
  · intro E h2 ad2 H2 locs2 q9 ce hX9 hP2 _ _ hce hcv hcl
    rcases hE.2 with hno | ⟨Qc, XC, hQ, hXC⟩
    · exact absurd (kx E h2 hX9) (hno E h2)
    · rw [hQ]
      exact vx_out (by rw [htb, hh0]; intro x hx; cases hx) hlk9 hce hcv hcl (fun t9 ht9 hal => hXC E h2 ad2 H2 locs2 t9 (kx E h2 hX9) hP2 ht9 hal) hP2.2.2.2.2.2.2.2.2 hkc hks
/-- .. what it throws is caught here, and laid into a local that is not read -/
theorem ga_callVH {q ci idx : Nat} {fs : List ga_V} (hM : ga_Mt t' mc' ms' M' (Vr q :: as) h P' X') (hF : ga_MF M' n) (hhh : ga_hh M' = []) (hV : ga_MV M') (hlk : Cond.methodLink (ga_y M).cls idx (ga_y M') ∈ ga_big) (hd : decode (ga_b M) pc = .ok (.invokevirtual idx, 3)) (hst : st = as.reverse ++ Vr q :: st2) (hln : as.length = n) (ht : t' + 1 ≤ t) (hq : h[q]? = some (.inl (ci, fs))) (hci : (vwCl[ci]?).map (fun z => z.1) = some (ga_y M').cls) (hcat : ga_cats st2 ≤ 8) (hkc : kc + mc' ≤ mc) (hks : ks + ms' ≤ ms)
    (kx : ∀ E h2, X' E h2 → ∃ (hp j len : Nat), ga_Hd M pc E hp ∧ ((len = 2 ∧ decode (ga_b M) hp = .ok (.astore j, 2)) ∨ (len = 1 ∧ ∃ j4 : Fin 4, (j4 : Nat) = j ∧ decode (ga_b M) hp = .ok (.astore_n j4, 1))) ∧ j < ga_n M ∧ ga_pc2 lv j = false ∧ ga_W t mc ms (kc + mc') (ks + ms') M P X (hp + len) (lv.set j none) [] h2)
    (k : ∀ v h2, P' v h2 → ga_W t mc ms (kc + mc') (ks + ms') M P X (pc + 3) lv (v.toList ++ st2) h2) : ga_W t mc ms kc ks M P X pc lv st h := by
  intro p l e R s m args below meth c G tc A ad0 ad n0 H locs ls Q hC hP hl hol hos
  subst hst
  have hRR := hC.2.2.2.2.2.2.2.2.2.2.2.2.2.2.2.1
  have hts := hC.2.2.2.2.2.1
  have hK := hC.2.2.2.2.2.2.1
  have htb := hC.2.2.2.2.2.2.2.2.2.2.2.1
  have hStr := hC.2.2.2.2.2.2.2.2.2.2.2.2.2.1
  obtain ⟨hn0, hag, hlen, hoh, hPP, hPD, hPS⟩ := id hP
  have hM9 := hM l G tc ad H.size hC.2.2.2.2.2.2.2.2.2.2.1 (fun v hv => by
    rcases List.mem_cons.mp hv with z | z
    · rw [z]; exact hos _ (List.mem_append_right _ List.mem_cons_self)
    · exact hos v (List.mem_append_left _ (List.mem_reverse.mpr z)))
  refine ga_afterX hC hP hl hol (st2 := st2) (hos.app.tail) (vx_runV (As := as.map (ga_v ad)) (b := ad q) (C := (ga_y M').cls) ⟨hC.1, hC.2.1, hC.2.2.1, hC.2.2.2.2.1, hts⟩ hM9 ⟨ga_callB hF hhh hts hlk (by omega) (by omega), hts _ hV.1, hts _ hV.2⟩ ⟨ga_Pc.blind, ga_recv hK hPP hq hci, fun U hU hW => ga_pre hC hP (as := Vr q :: as) U hU hW⟩ rfl (by rw [List.length_map]; exact hln) hl.1 ?_ (lv_room (by rw [ga_cats_eq]; exact hcat)) hd ⟨by rw [hRR.1]; exact hkc, by rw [hRR.2.1]; exact hks⟩) ?_ k
  · show (as.reverse ++ Vr q :: st2).map (ga_v ad) = _
    rw [List.map_append, List.map_reverse]
    rfl
  · intro E h2 ad2 H2 locs2 q9 ce hX9 hP2 hag2 hn2 hce hcv hcl
    obtain ⟨hp, j, len, ⟨pre, x, suf, g1, g2, g3, g4, g5, g6, g7⟩, hst9, hj, hpc2, hk9⟩ := kx E h2 hX9
    refine vx_catch hC.2.2.2.2.1 pre x suf (htb.trans g1) (fun z hz => ?_) g3 g4 (hts _ g5) (hts _ g6) hce hcv hcl ?_
    · rcases g2 z hz with q1 | ⟨q1, nm, q2, q3⟩
      · exact Or.inl q1
      · exact Or.inr ⟨q1, nm, hts _ q2, hStr.2 _ q3⟩
    · rw [g7]
      have hl2 := ga_l_ag hl hag2 hol
      have fin : ∀ ls' : Array Slot, lv_has ls' (ga_n M) ((j, Value.ref q9) :: (ga_l ad2 0 lv).filter (fun q => !(q.1 == j) && !(q.1 + 1 == j && q.2.category == 2))) → lv_has ls' (ga_n M) (ga_l ad2 0 (lv.set j none)) := by
        intro ls' hls
        refine ⟨hls.1, hls.2.1, fun w hw => ?_⟩
        obtain ⟨k9, v9, hk8, rfl⟩ := ga_l_mem.mp hw
        rw [Nat.zero_add]
        by_cases hkj : j = k9
        · subst hkj
          rw [List.getElem?_set] at hk8
          simp only [if_true] at hk8
          split at hk8 <;> cases hk8
        · rw [List.getElem?_set_ne hkj] at hk8
          refine hls.2.2 (k9, ga_v ad2 v9) (List.mem_cons_of_mem _ (List.mem_filter.mpr ⟨ga_l_mem.mpr ⟨k9, v9, hk8, by rw [Nat.zero_add]⟩, ?_⟩))
          have h1 : (k9 == j) = false := by simp; omega
          simp only [h1, Bool.not_false, Bool.true_and, Bool.not_eq_true', Bool.and_eq_false_iff]
          by_cases h2 : k9 + 1 = j
          · right
            subst h2
            rw [ga_cat]
            simp only [ga_pc2, hk8] at hpc2
            rw [hpc2]
            rfl
          · left
            simp; omega
      rcases hst9 with ⟨rfl, hd9⟩ | ⟨rfl, j4, hj4, hd9⟩
      · exact lv_astore hC.1 hC.2.1 hd9 hl2 hj rfl (fun ls' hls => hk9 p l e R s m args below meth c G tc A ad0 ad2 n0 H2 locs2 ls' Q hC hP2 (fin ls' hls) (ga_okl_clr (hol.mono hn2)) (fun v hv => by cases hv))
      · exact lv_astore_n hC.1 hC.2.1 hd9 hj4 hl2 hj rfl (fun ls' hls => hk9 p l e R s m args below meth c G tc A ad0 ad2 n0 H2 locs2 ls' Q hC hP2 (fin ls' hls) (ga_okl_clr (hol.mono hn2)) (fun v hv => by cases hv))
/-- a call of a static method with a table of its own -/
theorem ga_callSW {idx : Nat} (hM : ga_Mt t' mc' ms' M' as h P' ga_nox) (hF : ga_MF M' n) (hh : ga_head M' = Cond.codeWith (ga_y M') (ga_b M') (ga_n M') (ga_r M') (ga_hh M')) (hV : ga_MS M') (hlk : Cond.methodLink (ga_y M).cls idx (ga_y M') ∈ ga_big) (hd : decode (ga_b M) pc = .ok (.invokestatic idx, 3)) (hst : st = as.reverse ++ st2) (hln : as.length = n) (ht : t' + 1 ≤ t) (hcat : ga_cats st2 ≤ 8) (hkc : kc + mc' ≤ mc) (hks : ks + ms' ≤ ms)
    (k : ∀ v h2, P' v h2 → ga_W t mc ms (kc + mc') (ks + ms') M P X (pc + 3) lv (v.toList ++ st2) h2) : ga_W t mc ms kc ks M P X pc lv st h := by
  intro p l e R s m args below meth c G tc A ad0 ad n0 H locs ls Q hC hP hl hol hos
  subst hst
  have hRR := hC.2.2.2.2.2.2.2.2.2.2.2.2.2.2.2.1
  have hts := hC.2.2.2.2.2.1
  obtain ⟨hn0, hag, hlen, hoh, hPP, hPD, hPS⟩ := id hP
  have hM9 := ga_met (hM l G tc ad H.size hC.2.2.2.2.2.2.2.2.2.2.1 (fun v hv => hos v (List.mem_append_left _ (List.mem_reverse.mpr hv)))) ga_Xno
  have hw := ga_ws_warm hF hts
  obtain ⟨h1, h2, h3, h4, h5⟩ := id hF
  rw [hh] at h1
  have hB : vx_CSW R s args (ga_y M).cls idx (ga_y M') (ga_b M') (ga_n M') (ga_r M') (ga_hh M') (ga_ws M') (ga_rm t' mc' ms') mc' ms' n := by
    refine ⟨⟨rfl, rfl, by show t' + 1 ≤ R.frames; omega, ?_, hw, ?_⟩, hts _ h1, hts _ h2, h3, fun sig hs => ?_, hts _ hlk, hts _ hV⟩
    · show 8 + (ga_n M' + 11) + 35 * t' ≤ R.locals
      omega
    · unfold ga_ws; rw [hh]; exact List.mem_cons_self
    · rw [hs] at h4
      exact (Option.some.inj h4).symm
  refine ga_after hC hP hl hol (st2 := st2) hos.app (vx_runSW (As := as.map (ga_v ad)) ⟨hC.1, hC.2.1, hC.2.2.1, hC.2.2.2.2.1, hts⟩ hM9 hB ⟨ga_Pc.blind, fun U hU hW => ga_pre hC hP (as := as) U hU hW⟩ rfl (by rw [List.length_map]; exact hln) hl.1 ?_ (lv_room (by rw [ga_cats_eq]; exact hcat)) hd ⟨by rw [hRR.1]; exact hkc, by rw [hRR.2.1]; exact hks⟩) k
  show (as.reverse ++ st2).map (ga_v ad) = _
  rw [List.map_append, List.map_reverse]
end GaThrows
end
section
theorem ga_t1 {w : Cond} (i : Nat) (h : tables_1_1[i]? = some w) (hg : ga_good2 w = true) : w ∈ ga_big := by
  have h9 : w ∈ tables_1_1 := List.mem_of_getElem? h
  exact ga_mem (List.mem_append_right _ (show w ∈ tables_1 from List.mem_append_left _ h9)) hg
theorem ga_t2 {w : Cond} (i : Nat) (h : tables_1_2[i]? = some w) (hg : ga_good2 w = true) : w ∈ ga_big := by
  have h9 : w ∈ tables_1_2 := List.mem_of_getElem? h
  exact ga_mem (List.mem_append_right _ (show w ∈ tables_1 from List.mem_append_right _ (List.mem_append_left _ h9))) hg
theorem ga_t3 {w : Cond} (i : Nat) (h : tables_1_3[i]? = some w) (hg : ga_good2 w = true) : w ∈ ga_big := by
  have h9 : w ∈ tables_1_3 := List.mem_of_getElem? h
  exact ga_mem (List.mem_append_right _ (show w ∈ tables_1 from List.mem_append_right _ (List.mem_append_right _ (List.mem_append_left _ h9)))) hg
theorem ga_t4 {w : Cond} (i : Nat) (h : tables_1_4[i]? = some w) (hg : ga_good2 w = true) : w ∈ ga_big := by
  have h9 : w ∈ tables_1_4 := List.mem_of_getElem? h
  exact ga_mem (List.mem_append_right _ (show w ∈ tables_1 from List.mem_append_right _ (List.mem_append_right _ (List.mem_append_right _ (List.mem_append_left _ h9))))) hg
theorem ga_t5 {w : Cond} (i : Nat) (h : tables_1_5[i]? = some w) (hg : ga_good2 w = true) : w ∈ ga_big := by
  have h9 : w ∈ tables_1_5 := List.mem_of_getElem? h
  exact ga_mem (List.mem_append_right _ (show w ∈ tables_1 from List.mem_append_right _ (List.mem_append_right _ (List.mem_append_right _ (List.mem_append_right _ (List.mem_append_left _ h9)))))) hg
theorem ga_t6 {w : Cond} (i : Nat) (h : tables_1_6[i]? = some w) (hg : ga_good2 w = true) : w ∈ ga_big := by
  have h9 : w ∈ tables_1_6 := List.mem_of_getElem? h
  exact ga_mem (List.mem_append_right _ (show w ∈ tables_1 from List.mem_append_right _ (List.mem_append_right _ (List.mem_append_right _ (List.mem_append_right _ (List.mem_append_right _ h9)))))) hg
theorem ga_tp {w : Cond} (i : Nat) (h : (k2_sels lw_privs)[i]? = some w) (hg : ga_good2 w = true) : w ∈ ga_big := ga_mem (List.mem_append_left _ (List.mem_of_getElem? h)) hg
theorem uwX0 : ∀ w ∈ u_ws RX0 TX0 5, w ∈ ga_big := by
  intro w hw
  obtain ⟨k, hk, rfl⟩ := List.mem_map.mp hw
  have hk9 := List.mem_range.mp hk
  clear hk hw
  rcases Nat.lt_or_ge k 1 with q | q
  · obtain rfl : k = 0 := by omega
    exact (ga_t1 198 (by decide +kernel) rfl)
  rcases Nat.lt_or_ge k 2 with q | q
  · obtain rfl : k = 1 := by omega
    exact (ga_t1 200 (by decide +kernel) rfl)
  rcases Nat.lt_or_ge k 3 with q | q
  · obtain rfl : k = 2 := by omega
    exact (ga_t1 202 (by decide +kernel) rfl)
  rcases Nat.lt_or_ge k 4 with q | q
  · obtain rfl : k = 3 := by omega
    exact (ga_t1 204 (by decide +kernel) rfl)
  rcases Nat.lt_or_ge k 5 with q | q
  · obtain rfl : k = 4 := by omega
    exact (ga_t1 206 (by decide +kernel) rfl)
  omega
theorem uwX1 : ∀ w ∈ u_ws RX1 TX1 3, w ∈ ga_big := by
  intro w hw
  obtain ⟨k, hk, rfl⟩ := List.mem_map.mp hw
  have hk9 := List.mem_range.mp hk
  clear hk hw
  rcases Nat.lt_or_ge k 1 with q | q
  · obtain rfl : k = 0 := by omega
    exact (ga_t1 132 (by decide +kernel) rfl)
  rcases Nat.lt_or_ge k 2 with q | q
  · obtain rfl : k = 1 := by omega
    exact (ga_t1 134 (by decide +kernel) rfl)
  rcases Nat.lt_or_ge k 3 with q | q
  · obtain rfl : k = 2 := by omega
    exact (ga_t1 136 (by decide +kernel) rfl)
  omega
theorem uwX2 : ∀ w ∈ u_ws RX2 TX2 3, w ∈ ga_big := by
  intro w hw
  obtain ⟨k, hk, rfl⟩ := List.mem_map.mp hw
  have hk9 := List.mem_range.mp hk
  clear hk hw
  rcases Nat.lt_or_ge k 1 with q | q
  · obtain rfl : k = 0 := by omega
    exact (ga_t2 75 (by decide +kernel) rfl)
  rcases Nat.lt_or_ge k 2 with q | q
  · obtain rfl : k = 1 := by omega
    exact (ga_t2 77 (by decide +kernel) rfl)
  rcases Nat.lt_or_ge k 3 with q | q
  · obtain rfl : k = 2 := by omega
    exact (ga_t2 79 (by decide +kernel) rfl)
  omega
theorem uwX3 : ∀ w ∈ u_ws RX3 TX3 1, w ∈ ga_big := by
  intro w hw
  obtain ⟨k, hk, rfl⟩ := List.mem_map.mp hw
  have hk9 := List.mem_range.mp hk
  clear hk hw
  rcases Nat.lt_or_ge k 1 with q | q
  · obtain rfl : k = 0 := by omega
    exact (ga_t1 146 (by decide +kernel) rfl)
  omega
theorem uwX4 : ∀ w ∈ u_ws RX4 TX4 2, w ∈ ga_big := by
  intro w hw
  obtain ⟨k, hk, rfl⟩ := List.mem_map.mp hw
  have hk9 := List.mem_range.mp hk
  clear hk hw
  rcases Nat.lt_or_ge k 1 with q | q
  · obtain rfl : k = 0 := by omega
    exact (ga_t1 111 (by decide +kernel) rfl)
  rcases Nat.lt_or_ge k 2 with q | q
  · obtain rfl : k = 1 := by omega
    exact (ga_t1 113 (by decide +kernel) rfl)
  omega
theorem uwX5 : ∀ w ∈ u_ws RX5 TX5 5, w ∈ ga_big := by
  intro w hw
  obtain ⟨k, hk, rfl⟩ := List.mem_map.mp hw
  have hk9 := List.mem_range.mp hk
  clear hk hw
  rcases Nat.lt_or_ge k 1 with q | q
  · obtain rfl : k = 0 := by omega
    exact (ga_t2 53 (by decide +kernel) rfl)
  rcases Nat.lt_or_ge k 2 with q | q
  · obtain rfl : k = 1 := by omega
    exact (ga_t2 55 (by decide +kernel) rfl)
  rcases Nat.lt_or_ge k 3 with q | q
  · obtain rfl : k = 2 := by omega
    exact (ga_t2 57 (by decide +kernel) rfl)
  rcases Nat.lt_or_ge k 4 with q | q
  · obtain rfl : k = 3 := by omega
    exact (ga_t2 59 (by decide +kernel) rfl)
  rcases Nat.lt_or_ge k 5 with q | q
  · obtain rfl : k = 4 := by omega
    exact (ga_t2 61 (by decide +kernel) rfl)
  omega
theorem uwX6 : ∀ w ∈ u_ws RX6 TX6 4, w ∈ ga_big := by
  intro w hw
  obtain ⟨k, hk, rfl⟩ := List.mem_map.mp hw
  have hk9 := List.mem_range.mp hk
  clear hk hw
  rcases Nat.lt_or_ge k 1 with q | q
  · obtain rfl : k = 0 := by omega
    exact (ga_t1 229 (by decide +kernel) rfl)
  rcases Nat.lt_or_ge k 2 with q | q
  · obtain rfl : k = 1 := by omega
    exact (ga_t1 231 (by decide +kernel) rfl)
  rcases Nat.lt_or_ge k 3 with q | q
  · obtain rfl : k = 2 := by omega
    exact (ga_t1 233 (by decide +kernel) rfl)
  rcases Nat.lt_or_ge k 4 with q | q
  · obtain rfl : k = 3 := by omega
    exact (ga_t1 235 (by decide +kernel) rfl)
  omega
theorem uwX7 : ∀ w ∈ u_ws RX7 TX7 9, w ∈ ga_big := by
  intro w hw
  obtain ⟨k, hk, rfl⟩ := List.mem_map.mp hw
  have hk9 := List.mem_range.mp hk
  clear hk hw
  rcases Nat.lt_or_ge k 1 with q | q
  · obtain rfl : k = 0 := by omega
    exact (ga_t1 171 (by decide +kernel) rfl)
  rcases Nat.lt_or_ge k 2 with q | q
  · obtain rfl : k = 1 := by omega
    exact (ga_t1 173 (by decide +kernel) rfl)
  rcases Nat.lt_or_ge k 3 with q | q
  · obtain rfl : k = 2 := by omega
    exact (ga_t1 175 (by decide +kernel) rfl)
  rcases Nat.lt_or_ge k 4 with q | q
  · obtain rfl : k = 3 := by omega
    exact (ga_t1 177 (by decide +kernel) rfl)
  rcases Nat.lt_or_ge k 5 with q | q
  · obtain rfl : k = 4 := by omega
    exact (ga_t1 179 (by decide +kernel) rfl)
  rcases Nat.lt_or_ge k 6 with q | q
  · obtain rfl : k = 5 := by omega
    exact (ga_t1 181 (by decide +kernel) rfl)
  rcases Nat.lt_or_ge k 7 with q | q
  · obtain rfl : k = 6 := by omega
    exact (ga_t1 183 (by decide +kernel) rfl)
  rcases Nat.lt_or_ge k 8 with q | q
  · obtain rfl : k = 7 := by omega
    exact (ga_t1 185 (by decide +kernel) rfl)
  rcases Nat.lt_or_ge k 9 with q | q
  · obtain rfl : k = 8 := by omega
    exact (ga_t1 187 (by decide +kernel) rfl)
  omega
theorem uwX8 : ∀ w ∈ u_ws RX8 TX8 11, w ∈ ga_big := by
  intro w hw
  obtain ⟨k, hk, rfl⟩ := List.mem_map.mp hw
  have hk9 := List.mem_range.mp hk
  clear hk hw
  rcases Nat.lt_or_ge k 1 with q | q
  · obtain rfl : k = 0 := by omega
    exact (ga_t2 9 (by decide +kernel) rfl)
  rcases Nat.lt_or_ge k 2 with q | q
  · obtain rfl : k = 1 := by omega
    exact (ga_t2 11 (by decide +kernel) rfl)
  rcases Nat.lt_or_ge k 3 with q | q
  · obtain rfl : k = 2 := by omega
    exact (ga_t2 13 (by decide +kernel) rfl)
  rcases Nat.lt_or_ge k 4 with q | q
  · obtain rfl : k = 3 := by omega
    exact (ga_t2 15 (by decide +kernel) rfl)
  rcases Nat.lt_or_ge k 5 with q | q
  · obtain rfl : k = 4 := by omega
    exact (ga_t2 17 (by decide +kernel) rfl)
  rcases Nat.lt_or_ge k 6 with q | q
  · obtain rfl : k = 5 := by omega
    exact (ga_t2 19 (by decide +kernel) rfl)
  rcases Nat.lt_or_ge k 7 with q | q
  · obtain rfl : k = 6 := by omega
    exact (ga_t2 21 (by decide +kernel) rfl)
  rcases Nat.lt_or_ge k 8 with q | q
  · obtain rfl : k = 7 := by omega
    exact (ga_t2 23 (by decide +kernel) rfl)
  rcases Nat.lt_or_ge k 9 with q | q
  · obtain rfl : k = 8 := by omega
    exact (ga_t2 25 (by decide +kernel) rfl)
  rcases Nat.lt_or_ge k 10 with q | q
  · obtain rfl : k = 9 := by omega
    exact (ga_t2 27 (by decide +kernel) rfl)
  rcases Nat.lt_or_ge k 11 with q | q
  · obtain rfl : k = 10 := by omega
    exact (ga_t2 29 (by decide +kernel) rfl)
  omega
theorem uwX9 : ∀ w ∈ u_ws RX9 TX9 8, w ∈ ga_big := by
  intro w hw
  obtain ⟨k, hk, rfl⟩ := List.mem_map.mp hw
  have hk9 := List.mem_range.mp hk
  clear hk hw
  rcases Nat.lt_or_ge k 1 with q | q
  · obtain rfl : k = 0 := by omega
    exact (ga_t1 83 (by decide +kernel) rfl)
  rcases Nat.lt_or_ge k 2 with q | q
  · obtain rfl : k = 1 := by omega
    exact (ga_t1 85 (by decide +kernel) rfl)
  rcases Nat.lt_or_ge k 3 with q | q
  · obtain rfl : k = 2 := by omega
    exact (ga_t1 87 (by decide +kernel) rfl)
  rcases Nat.lt_or_ge k 4 with q | q
  · obtain rfl : k = 3 := by omega
    exact (ga_t1 89 (by decide +kernel) rfl)
  rcases Nat.lt_or_ge k 5 with q | q
  · obtain rfl : k = 4 := by omega
    exact (ga_t1 91 (by decide +kernel) rfl)
  rcases Nat.lt_or_ge k 6 with q | q
  · obtain rfl : k = 5 := by omega
    exact (ga_t1 93 (by decide +kernel) rfl)
  rcases Nat.lt_or_ge k 7 with q | q
  · obtain rfl : k = 6 := by omega
    exact (ga_t1 95 (by decide +kernel) rfl)
  rcases Nat.lt_or_ge k 8 with q | q
  · obtain rfl : k = 7 := by omega
    exact (ga_t1 97 (by decide +kernel) rfl)
  omega
theorem uwX10 : ∀ w ∈ u_ws RX10 TX10 8, w ∈ ga_big := by
  intro w hw
  obtain ⟨k, hk, rfl⟩ := List.mem_map.mp hw
  have hk9 := List.mem_range.mp hk
  clear hk hw
  rcases Nat.lt_or_ge k 1 with q | q
  · obtain rfl : k = 0 := by omega
    exact (ga_t2 90 (by decide +kernel) rfl)
  rcases Nat.lt_or_ge k 2 with q | q
  · obtain rfl : k = 1 := by omega
    exact (ga_t2 92 (by decide +kernel) rfl)
  rcases Nat.lt_or_ge k 3 with q | q
  · obtain rfl : k = 2 := by omega
    exact (ga_t2 94 (by decide +kernel) rfl)
  rcases Nat.lt_or_ge k 4 with q | q
  · obtain rfl : k = 3 := by omega
    exact (ga_t2 96 (by decide +kernel) rfl)
  rcases Nat.lt_or_ge k 5 with q | q
  · obtain rfl : k = 4 := by omega
    exact (ga_t2 98 (by decide +kernel) rfl)
  rcases Nat.lt_or_ge k 6 with q | q
  · obtain rfl : k = 5 := by omega
    exact (ga_t2 100 (by decide +kernel) rfl)
  rcases Nat.lt_or_ge k 7 with q | q
  · obtain rfl : k = 6 := by omega
    exact (ga_t2 102 (by decide +kernel) rfl)
  rcases Nat.lt_or_ge k 8 with q | q
  · obtain rfl : k = 7 := by omega
    exact (ga_t2 104 (by decide +kernel) rfl)
  omega
theorem uwX11 : ∀ w ∈ u_ws RX11 TX11 32, w ∈ ga_big := by
  intro w hw
  obtain ⟨k, hk, rfl⟩ := List.mem_map.mp hw
  have hk9 := List.mem_range.mp hk
  clear hk hw
  rcases Nat.lt_or_ge k 1 with q | q
  · obtain rfl : k = 0 := by omega
    exact (ga_t4 207 (by decide +kernel) rfl)
  rcases Nat.lt_or_ge k 2 with q | q
  · obtain rfl : k = 1 := by omega
    exact (ga_t4 209 (by decide +kernel) rfl)
  rcases Nat.lt_or_ge k 3 with q | q
  · obtain rfl : k = 2 := by omega
    exact (ga_t4 211 (by decide +kernel) rfl)
  rcases Nat.lt_or_ge k 4 with q | q
  · obtain rfl : k = 3 := by omega
    exact (ga_t4 213 (by decide +kernel) rfl)
  rcases Nat.lt_or_ge k 5 with q | q
  · obtain rfl : k = 4 := by omega
    exact (ga_t4 215 (by decide +kernel) rfl)
  rcases Nat.lt_or_ge k 6 with q | q
  · obtain rfl : k = 5 := by omega
    exact (ga_t4 217 (by decide +kernel) rfl)
  rcases Nat.lt_or_ge k 7 with q | q
  · obtain rfl : k = 6 := by omega
    exact (ga_t4 219 (by decide +kernel) rfl)
  rcases Nat.lt_or_ge k 8 with q | q
  · obtain rfl : k = 7 := by omega
    exact (ga_t4 221 (by decide +kernel) rfl)
  rcases Nat.lt_or_ge k 9 with q | q
  · obtain rfl : k = 8 := by omega
    exact (ga_t4 223 (by decide +kernel) rfl)
  rcases Nat.lt_or_ge k 10 with q | q
  · obtain rfl : k = 9 := by omega
    exact (ga_t4 225 (by decide +kernel) rfl)
  rcases Nat.lt_or_ge k 11 with q | q
  · obtain rfl : k = 10 := by omega
    exact (ga_t4 227 (by decide +kernel) rfl)
  rcases Nat.lt_or_ge k 12 with q | q
  · obtain rfl : k = 11 := by omega
    exact (ga_t4 229 (by decide +kernel) rfl)
  rcases Nat.lt_or_ge k 13 with q | q
  · obtain rfl : k = 12 := by omega
    exact (ga_t4 231 (by decide +kernel) rfl)
  rcases Nat.lt_or_ge k 14 with q | q
  · obtain rfl : k = 13 := by omega
    exact (ga_t4 233 (by decide +kernel) rfl)
  rcases Nat.lt_or_ge k 15 with q | q
  · obtain rfl : k = 14 := by omega
    exact (ga_t4 235 (by decide +kernel) rfl)
  rcases Nat.lt_or_ge k 16 with q | q
  · obtain rfl : k = 15 := by omega
    exact (ga_t4 237 (by decide +kernel) rfl)
  rcases Nat.lt_or_ge k 17 with q | q
  · obtain rfl : k = 16 := by omega
    exact (ga_t4 239 (by decide +kernel) rfl)
  rcases Nat.lt_or_ge k 18 with q | q
  · obtain rfl : k = 17 := by omega
    exact (ga_t5 1 (by decide +kernel) rfl)
  rcases Nat.lt_or_ge k 19 with q | q
  · obtain rfl : k = 18 := by omega
    exact (ga_t5 3 (by decide +kernel) rfl)
  rcases Nat.lt_or_ge k 20 with q | q
  · obtain rfl : k = 19 := by omega
    exact (ga_t5 5 (by decide +kernel) rfl)
  rcases Nat.lt_or_ge k 21 with q | q
  · obtain rfl : k = 20 := by omega
    exact (ga_t5 7 (by decide +kernel) rfl)
  rcases Nat.lt_or_ge k 22 with q | q
  · obtain rfl : k = 21 := by omega
    exact (ga_t5 9 (by decide +kernel) rfl)
  rcases Nat.lt_or_ge k 23 with q | q
  · obtain rfl : k = 22 := by omega
    exact (ga_t5 11 (by decide +kernel) rfl)
  rcases Nat.lt_or_ge k 24 with q | q
  · obtain rfl : k = 23 := by omega
    exact (ga_t5 13 (by decide +kernel) rfl)
  rcases Nat.lt_or_ge k 25 with q | q
  · obtain rfl : k = 24 := by omega
    exact (ga_t5 15 (by decide +kernel) rfl)
  rcases Nat.lt_or_ge k 26 with q | q
  · obtain rfl : k = 25 := by omega
    exact (ga_t5 17 (by decide +kernel) rfl)
  rcases Nat.lt_or_ge k 27 with q | q
  · obtain rfl : k = 26 := by omega
    exact (ga_t5 19 (by decide +kernel) rfl)
  rcases Nat.lt_or_ge k 28 with q | q
  · obtain rfl : k = 27 := by omega
    exact (ga_t5 21 (by decide +kernel) rfl)
  rcases Nat.lt_or_ge k 29 with q | q
  · obtain rfl : k = 28 := by omega
    exact (ga_t5 23 (by decide +kernel) rfl)
  rcases Nat.lt_or_ge k 30 with q | q
  · obtain rfl : k = 29 := by omega
    exact (ga_t5 25 (by decide +kernel) rfl)
  rcases Nat.lt_or_ge k 31 with q | q
  · obtain rfl : k = 30 := by omega
    exact (ga_t5 27 (by decide +kernel) rfl)
  rcases Nat.lt_or_ge k 32 with q | q
  · obtain rfl : k = 31 := by omega
    exact (ga_t5 29 (by decide +kernel) rfl)
  omega
abbrev mX0_init : ga_M0 := (yX0_init, cX0_init, 1, none, [], none)
theorem fX0_init : ga_MF mX0_init 0 := ⟨(ga_t1 153 (by decide +kernel) rfl), (ga_t1 7 (by decide +kernel) rfl), ⟨by decide +kernel, by decide +kernel⟩, by decide +kernel, by decide⟩
theorem kX0_init : ga_MI mX0_init := ⟨rfl, (ga_t1 152 (by decide +kernel) rfl), rfl⟩
abbrev mX0_divide : ga_M0 := (yX0_divide, cX0_divide, 3, none, [], none)
theorem fX0_divide : ga_MF mX0_divide 1 := ⟨(ga_t3 206 (by decide +kernel) rfl), (ga_t1 7 (by decide +kernel) rfl), ⟨by decide +kernel, by decide +kernel⟩, by decide +kernel, by decide⟩
theorem kX0_divide : ga_MV mX0_divide := ⟨(ga_t3 204 (by decide +kernel) rfl), (ga_t3 205 (by decide +kernel) rfl)⟩
abbrev mX0_classOf : ga_M0 := (yX0_classOf, cX0_classOf, 3, (some .int), [], none)
theorem fX0_classOf : ga_MF mX0_classOf 2 := ⟨(ga_t4 21 (by decide +kernel) rfl), (ga_t1 7 (by decide +kernel) rfl), ⟨by decide +kernel, by decide +kernel⟩, by decide +kernel, by decide⟩
theorem kX0_classOf : ga_MV mX0_classOf := ⟨(ga_t4 19 (by decide +kernel) rfl), (ga_t4 20 (by decide +kernel) rfl)⟩
abbrev mX0_alikeOnFirstSide : ga_M0 := (yX0_alikeOnFirstSide, cX0_alikeOnFirstSide, 4, (some .int), [], none)
theorem fX0_alikeOnFirstSide : ga_MF mX0_alikeOnFirstSide 1 := ⟨(ga_t4 92 (by decide +kernel) rfl), (ga_t1 7 (by decide +kernel) rfl), ⟨by decide +kernel, by decide +kernel⟩, by decide +kernel, by decide⟩
theorem kX0_alikeOnFirstSide : ga_MV mX0_alikeOnFirstSide := ⟨(ga_t4 90 (by decide +kernel) rfl), (ga_t4 91 (by decide +kernel) rfl)⟩
abbrev mX0_enterAll : ga_M0 := (yX0_enterAll, cX0_enterAll, 5, none, [], none)
theorem fX0_enterAll : ga_MF mX0_enterAll 1 := ⟨(ga_t3 210 (by decide +kernel) rfl), (ga_t1 7 (by decide +kernel) rfl), ⟨by decide +kernel, by decide +kernel⟩, by decide +kernel, by decide⟩
theorem kX0_enterAll : ga_MV mX0_enterAll := ⟨(ga_t3 209 (by decide +kernel) rfl), (ga_tp 9 (by decide +kernel) rfl)⟩
abbrev mX0_makeRound : ga_M0 := (yX0_makeRound, cX0_makeRound, 5, (some .boolean), [], none)
theorem fX0_makeRound : ga_MF mX0_makeRound 1 := ⟨(ga_t4 4 (by decide +kernel) rfl), (ga_t1 7 (by decide +kernel) rfl), ⟨by decide +kernel, by decide +kernel⟩, by decide +kernel, by decide⟩
theorem kX0_makeRound : ga_MV mX0_makeRound := ⟨(ga_t4 3 (by decide +kernel) rfl), (ga_tp 12 (by decide +kernel) rfl)⟩
abbrev mX0_addCodes : ga_M0 := (yX0_addCodes, cX0_addCodes, 10, none, [], none)
theorem fX0_addCodes : ga_MF mX0_addCodes 4 := ⟨(ga_t4 9 (by decide +kernel) rfl), (ga_t1 7 (by decide +kernel) rfl), ⟨by decide +kernel, by decide +kernel⟩, by decide +kernel, by decide⟩
theorem kX0_addCodes : ga_MV mX0_addCodes := ⟨(ga_t4 8 (by decide +kernel) rfl), (ga_tp 13 (by decide +kernel) rfl)⟩
abbrev mX0_countMembers : ga_M0 := (yX0_countMembers, cX0_countMembers, 5, none, [], none)
theorem fX0_countMembers : ga_MF mX0_countMembers 3 := ⟨(ga_t4 16 (by decide +kernel) rfl), (ga_t1 7 (by decide +kernel) rfl), ⟨by decide +kernel, by decide +kernel⟩, by decide +kernel, by decide⟩
theorem kX0_countMembers : ga_MV mX0_countMembers := ⟨(ga_t4 15 (by decide +kernel) rfl), (ga_tp 14 (by decide +kernel) rfl)⟩
abbrev mX1_init : ga_M0 := (yX1_init, cX1_init, 1, none, [], none)
theorem fX1_init : ga_MF mX1_init 0 := ⟨(ga_t1 33 (by decide +kernel) rfl), (ga_t1 2 (by decide +kernel) rfl), ⟨by decide +kernel, by decide +kernel⟩, by decide +kernel, by decide⟩
theorem kX1_init : ga_MI mX1_init := ⟨rfl, (ga_t1 32 (by decide +kernel) rfl), rfl⟩
abbrev mX1_sideOf : ga_M0 := (yX1_sideOf, cX1_sideOf, 2, (some (.object "GraphCompare$Side")), [], none)
theorem fX1_sideOf : ga_MF mX1_sideOf 1 := ⟨(ga_t3 13 (by decide +kernel) rfl), (ga_t1 2 (by decide +kernel) rfl), ⟨by decide +kernel, by decide +kernel⟩, by decide +kernel, by decide⟩
theorem kX1_sideOf : ga_MV mX1_sideOf := ⟨(ga_t3 11 (by decide +kernel) rfl), (ga_t3 12 (by decide +kernel) rfl)⟩
abbrev mX1_markUsedNets : ga_M0 := (yX1_markUsedNets, cX1_markUsedNets, 1, none, [], none)
theorem fX1_markUsedNets : ga_MF mX1_markUsedNets 0 := ⟨(ga_t2 122 (by decide +kernel) rfl), (ga_t1 2 (by decide +kernel) rfl), ⟨by decide +kernel, by decide +kernel⟩, by decide +kernel, by decide⟩
theorem kX1_markUsedNets : ga_MV mX1_markUsedNets := ⟨(ga_t2 120 (by decide +kernel) rfl), (ga_t2 121 (by decide +kernel) rfl)⟩
abbrev mX1_haveAsMuch : ga_M0 := (yX1_haveAsMuch, cX1_haveAsMuch, 1, (some .boolean), [], none)
theorem fX1_haveAsMuch : ga_MF mX1_haveAsMuch 0 := ⟨(ga_t4 25 (by decide +kernel) rfl), (ga_t1 2 (by decide +kernel) rfl), ⟨by decide +kernel, by decide +kernel⟩, by decide +kernel, by decide⟩
theorem kX1_haveAsMuch : ga_MV mX1_haveAsMuch := ⟨(ga_t4 23 (by decide +kernel) rfl), (ga_t4 24 (by decide +kernel) rfl)⟩
abbrev mX1_nextUnevenName : ga_M0 := (yX1_nextUnevenName, cX1_nextUnevenName, 6, (some .int), [], none)
theorem fX1_nextUnevenName : ga_MF mX1_nextUnevenName 1 := ⟨(ga_t4 34 (by decide +kernel) rfl), (ga_t1 2 (by decide +kernel) rfl), ⟨by decide +kernel, by decide +kernel⟩, by decide +kernel, by decide⟩
theorem kX1_nextUnevenName : ga_MV mX1_nextUnevenName := ⟨(ga_t4 32 (by decide +kernel) rfl), (ga_t4 33 (by decide +kernel) rfl)⟩
abbrev mX2_init : ga_M0 := (yX2_init, cX2_init, 1, none, [], none)
theorem fX2_init : ga_MF mX2_init 0 := ⟨(ga_t2 68 (by decide +kernel) rfl), (ga_t1 12 (by decide +kernel) rfl), ⟨by decide +kernel, by decide +kernel⟩, by decide +kernel, by decide⟩
theorem kX2_init : ga_MI mX2_init := ⟨rfl, (ga_t2 67 (by decide +kernel) rfl), rfl⟩
abbrev mX2_forget : ga_M0 := (yX2_forget, cX2_forget, 1, none, [], none)
theorem fX2_forget : ga_MF mX2_forget 0 := ⟨(ga_t3 202 (by decide +kernel) rfl), (ga_t1 12 (by decide +kernel) rfl), ⟨by decide +kernel, by decide +kernel⟩, by decide +kernel, by decide⟩
theorem kX2_forget : ga_MV mX2_forget := ⟨(ga_t3 200 (by decide +kernel) rfl), (ga_t3 201 (by decide +kernel) rfl)⟩
abbrev mX2_list : ga_M0 := (yX2_list, cX2_list, 3, none, [], none)
theorem fX2_list : ga_MF mX2_list 2 := ⟨(ga_t4 112 (by decide +kernel) rfl), (ga_t1 12 (by decide +kernel) rfl), ⟨by decide +kernel, by decide +kernel⟩, by decide +kernel, by decide⟩
theorem kX2_list : ga_MV mX2_list := ⟨(ga_t4 110 (by decide +kernel) rfl), (ga_t4 111 (by decide +kernel) rfl)⟩
abbrev mX2_listKinds : ga_M0 := (yX2_listKinds, cX2_listKinds, 5, none, [], none)
theorem fX2_listKinds : ga_MF mX2_listKinds 1 := ⟨(ga_t4 116 (by decide +kernel) rfl), (ga_t1 12 (by decide +kernel) rfl), ⟨by decide +kernel, by decide +kernel⟩, by decide +kernel, by decide⟩
theorem kX2_listKinds : ga_MV mX2_listKinds := ⟨(ga_t4 115 (by decide +kernel) rfl), (ga_tp 23 (by decide +kernel) rfl)⟩
abbrev mX2_listNets : ga_M0 := (yX2_listNets, cX2_listNets, 4, none, [], none)
theorem fX2_listNets : ga_MF mX2_listNets 1 := ⟨(ga_t4 128 (by decide +kernel) rfl), (ga_t1 12 (by decide +kernel) rfl), ⟨by decide +kernel, by decide +kernel⟩, by decide +kernel, by decide⟩
theorem kX2_listNets : ga_MV mX2_listNets := ⟨(ga_t4 127 (by decide +kernel) rfl), (ga_tp 25 (by decide +kernel) rfl)⟩
abbrev mX2_listNames : ga_M0 := (yX2_listNames, cX2_listNames, 6, none, [], none)
theorem fX2_listNames : ga_MF mX2_listNames 1 := ⟨(ga_t4 133 (by decide +kernel) rfl), (ga_t1 12 (by decide +kernel) rfl), ⟨by decide +kernel, by decide +kernel⟩, by decide +kernel, by decide⟩
theorem kX2_listNames : ga_MV mX2_listNames := ⟨(ga_t4 132 (by decide +kernel) rfl), (ga_tp 26 (by decide +kernel) rfl)⟩
abbrev mX2_listClasses : ga_M0 := (yX2_listClasses, cX2_listClasses, 6, none, [], none)
theorem fX2_listClasses : ga_MF mX2_listClasses 2 := ⟨(ga_t4 139 (by decide +kernel) rfl), (ga_t1 12 (by decide +kernel) rfl), ⟨by decide +kernel, by decide +kernel⟩, by decide +kernel, by decide⟩
theorem kX2_listClasses : ga_MV mX2_listClasses := ⟨(ga_t4 138 (by decide +kernel) rfl), (ga_tp 27 (by decide +kernel) rfl)⟩
abbrev mX2_listClass : ga_M0 := (yX2_listClass, cX2_listClass, 6, none, [], none)
theorem fX2_listClass : ga_MF mX2_listClass 3 := ⟨(ga_t4 145 (by decide +kernel) rfl), (ga_t1 12 (by decide +kernel) rfl), ⟨by decide +kernel, by decide +kernel⟩, by decide +kernel, by decide⟩
theorem kX2_listClass : ga_MV mX2_listClass := ⟨(ga_t4 144 (by decide +kernel) rfl), (ga_tp 28 (by decide +kernel) rfl)⟩
abbrev mX2_add : ga_M0 := (yX2_add, cX2_add, 6, none, [], none)
theorem fX2_add : ga_MF mX2_add 4 := ⟨(ga_t4 124 (by decide +kernel) rfl), (ga_t1 12 (by decide +kernel) rfl), ⟨by decide +kernel, by decide +kernel⟩, by decide +kernel, by decide⟩
theorem kX2_add : ga_MV mX2_add := ⟨(ga_t4 123 (by decide +kernel) rfl), (ga_tp 24 (by decide +kernel) rfl)⟩
abbrev mX3_init : ga_M0 := (yX3_init, cX3_init, 1, none, [], none)
theorem fX3_init : ga_MF mX3_init 0 := ⟨(ga_t1 143 (by decide +kernel) rfl), (ga_t1 6 (by decide +kernel) rfl), ⟨by decide +kernel, by decide +kernel⟩, by decide +kernel, by decide⟩
theorem kX3_init : ga_MI mX3_init := ⟨rfl, (ga_t1 142 (by decide +kernel) rfl), rfl⟩
abbrev mX3_joinAll : ga_M0 := (yX3_joinAll, cX3_joinAll, 5, none, [], none)
theorem fX3_joinAll : ga_MF mX3_joinAll 3 := ⟨(ga_t3 146 (by decide +kernel) rfl), (ga_t1 6 (by decide +kernel) rfl), ⟨by decide +kernel, by decide +kernel⟩, by decide +kernel, by decide⟩
theorem kX3_joinAll : ga_MV mX3_joinAll := ⟨(ga_t3 144 (by decide +kernel) rfl), (ga_t3 145 (by decide +kernel) rfl)⟩
abbrev mX3_joinFirstPair : ga_M0 := (yX3_joinFirstPair, cX3_joinFirstPair, 6, (some .boolean), [], none)
theorem fX3_joinFirstPair : ga_MF mX3_joinFirstPair 3 := ⟨(ga_t3 150 (by decide +kernel) rfl), (ga_t1 6 (by decide +kernel) rfl), ⟨by decide +kernel, by decide +kernel⟩, by decide +kernel, by decide⟩
theorem kX3_joinFirstPair : ga_MV mX3_joinFirstPair := ⟨(ga_t3 149 (by decide +kernel) rfl), (ga_tp 4 (by decide +kernel) rfl)⟩
abbrev mX3_countPins : ga_M0 := (yX3_countPins, cX3_countPins, 5, none, [], none)
theorem fX3_countPins : ga_MF mX3_countPins 1 := ⟨(ga_t3 154 (by decide +kernel) rfl), (ga_t1 6 (by decide +kernel) rfl), ⟨by decide +kernel, by decide +kernel⟩, by decide +kernel, by decide⟩
theorem kX3_countPins : ga_MV mX3_countPins := ⟨(ga_t3 153 (by decide +kernel) rfl), (ga_tp 5 (by decide +kernel) rfl)⟩
abbrev mX3_areOfOneKind : ga_M0 := (yX3_areOfOneKind, cX3_areOfOneKind, 3, (some .boolean), [], none)
theorem fX3_areOfOneKind : ga_MF mX3_areOfOneKind 3 := ⟨(ga_t3 159 (by decide +kernel) rfl), (ga_t1 6 (by decide +kernel) rfl), ⟨by decide +kernel, by decide +kernel⟩, by decide +kernel, by decide⟩
theorem kX3_areOfOneKind : ga_MS mX3_areOfOneKind := (ga_t3 158 (by decide +kernel) rfl)
abbrev mX3_joinPair : ga_M0 := (yX3_joinPair, cX3_joinPair, 6, (some .boolean), [], none)
theorem fX3_joinPair : ga_MF mX3_joinPair 5 := ⟨(ga_t3 163 (by decide +kernel) rfl), (ga_t1 6 (by decide +kernel) rfl), ⟨by decide +kernel, by decide +kernel⟩, by decide +kernel, by decide⟩
theorem kX3_joinPair : ga_MV mX3_joinPair := ⟨(ga_t3 162 (by decide +kernel) rfl), (ga_tp 6 (by decide +kernel) rfl)⟩
abbrev mX3_joinParallel : ga_M0 := (yX3_joinParallel, cX3_joinParallel, 7, (some .boolean), [], none)
theorem fX3_joinParallel : ga_MF mX3_joinParallel 4 := ⟨(ga_t3 166 (by decide +kernel) rfl), (ga_t1 6 (by decide +kernel) rfl), ⟨by decide +kernel, by decide +kernel⟩, by decide +kernel, by decide⟩
theorem kX3_joinParallel : ga_MS mX3_joinParallel := (ga_t3 165 (by decide +kernel) rfl)
abbrev mX3_joinSeries : ga_M0 := (yX3_joinSeries, cX3_joinSeries, 8, (some .boolean), [], none)
theorem fX3_joinSeries : ga_MF mX3_joinSeries 4 := ⟨(ga_t3 172 (by decide +kernel) rfl), (ga_t1 6 (by decide +kernel) rfl), ⟨by decide +kernel, by decide +kernel⟩, by decide +kernel, by decide⟩
theorem kX3_joinSeries : ga_MV mX3_joinSeries := ⟨(ga_t3 171 (by decide +kernel) rfl), (ga_tp 7 (by decide +kernel) rfl)⟩
abbrev mX3_hasTwoEnds : ga_M0 := (yX3_hasTwoEnds, cX3_hasTwoEnds, 4, (some .boolean), [], none)
theorem fX3_hasTwoEnds : ga_MF mX3_hasTwoEnds 3 := ⟨(ga_t3 175 (by decide +kernel) rfl), (ga_t1 6 (by decide +kernel) rfl), ⟨by decide +kernel, by decide +kernel⟩, by decide +kernel, by decide⟩
theorem kX3_hasTwoEnds : ga_MS mX3_hasTwoEnds := (ga_t3 174 (by decide +kernel) rfl)
abbrev mX3_netBetween : ga_M0 := (yX3_netBetween, cX3_netBetween, 8, (some .int), [], none)
theorem fX3_netBetween : ga_MF mX3_netBetween 3 := ⟨(ga_t3 179 (by decide +kernel) rfl), (ga_t1 6 (by decide +kernel) rfl), ⟨by decide +kernel, by decide +kernel⟩, by decide +kernel, by decide⟩
theorem kX3_netBetween : ga_MV mX3_netBetween := ⟨(ga_t3 178 (by decide +kernel) rfl), (ga_tp 8 (by decide +kernel) rfl)⟩
abbrev mX3_sizeInSeries : ga_M0 := (yX3_sizeInSeries, cX3_sizeInSeries, 4, (some .double), [], none)
theorem fX3_sizeInSeries : ga_MF mX3_sizeInSeries 2 := ⟨(ga_t3 184 (by decide +kernel) rfl), (ga_t1 6 (by decide +kernel) rfl), ⟨by decide +kernel, by decide +kernel⟩, by decide +kernel, by decide⟩
theorem kX3_sizeInSeries : ga_MS mX3_sizeInSeries := (ga_t3 183 (by decide +kernel) rfl)
abbrev mX4_init : ga_M0 := (yX4_init, cX4_init, 2, none, [], none)
theorem fX4_init : ga_MF mX4_init 0 := ⟨(ga_t1 107 (by decide +kernel) rfl), (ga_t1 5 (by decide +kernel) rfl), ⟨by decide +kernel, by decide +kernel⟩, by decide +kernel, by decide⟩
theorem kX4_init : ga_MI mX4_init := ⟨rfl, (ga_t1 106 (by decide +kernel) rfl), rfl⟩
abbrev mX4_groupOf : ga_M0 := (yX4_groupOf, cX4_groupOf, 3, (some .int), [], none)
theorem fX4_groupOf : ga_MF mX4_groupOf 2 := ⟨(ga_t2 160 (by decide +kernel) rfl), (ga_t1 5 (by decide +kernel) rfl), ⟨by decide +kernel, by decide +kernel⟩, by decide +kernel, by decide⟩
theorem kX4_groupOf : ga_MV mX4_groupOf := ⟨(ga_t2 158 (by decide +kernel) rfl), (ga_t2 159 (by decide +kernel) rfl)⟩
abbrev mX4_uniteGroups : ga_M0 := (yX4_uniteGroups, cX4_uniteGroups, 8, (some .boolean), [], none)
theorem fX4_uniteGroups : ga_MF mX4_uniteGroups 3 := ⟨(ga_t3 103 (by decide +kernel) rfl), (ga_t1 5 (by decide +kernel) rfl), ⟨by decide +kernel, by decide +kernel⟩, by decide +kernel, by decide⟩
theorem kX4_uniteGroups : ga_MV mX4_uniteGroups := ⟨(ga_t3 101 (by decide +kernel) rfl), (ga_t3 102 (by decide +kernel) rfl)⟩
abbrev mX4_setShare : ga_M0 := (yX4_setShare, cX4_setShare, 5, (some .boolean), [], none)
theorem fX4_setShare : ga_MF mX4_setShare 2 := ⟨(ga_t3 118 (by decide +kernel) rfl), (ga_t1 5 (by decide +kernel) rfl), ⟨by decide +kernel, by decide +kernel⟩, by decide +kernel, by decide⟩
theorem kX4_setShare : ga_MV mX4_setShare := ⟨(ga_t3 116 (by decide +kernel) rfl), (ga_t3 117 (by decide +kernel) rfl)⟩
abbrev mX4_sizesAgree : ga_M0 := (yX4_sizesAgree, cX4_sizesAgree, 10, (some .boolean), [], none)
theorem fX4_sizesAgree : ga_MF mX4_sizesAgree 3 := ⟨(ga_t2 156 (by decide +kernel) rfl), (ga_t1 5 (by decide +kernel) rfl), ⟨by decide +kernel, by decide +kernel⟩, by decide +kernel, by decide⟩
theorem kX4_sizesAgree : ga_MV mX4_sizesAgree := ⟨(ga_t2 154 (by decide +kernel) rfl), (ga_t2 155 (by decide +kernel) rfl)⟩
abbrev mX4_pinsOn : ga_M0 := (yX4_pinsOn, cX4_pinsOn, 7, (some .int), [], none)
theorem fX4_pinsOn : ga_MF mX4_pinsOn 4 := ⟨(ga_t2 165 (by decide +kernel) rfl), (ga_t1 5 (by decide +kernel) rfl), ⟨by decide +kernel, by decide +kernel⟩, by decide +kernel, by decide⟩
theorem kX4_pinsOn : ga_MV mX4_pinsOn := ⟨(ga_t2 163 (by decide +kernel) rfl), (ga_t2 164 (by decide +kernel) rfl)⟩
abbrev mX5_init : ga_M0 := (yX5_init, cX5_init, 1, none, [], none)
theorem fX5_init : ga_MF mX5_init 0 := ⟨(ga_t2 36 (by decide +kernel) rfl), (ga_t1 11 (by decide +kernel) rfl), ⟨by decide +kernel, by decide +kernel⟩, by decide +kernel, by decide⟩
theorem kX5_init : ga_MI mX5_init := ⟨rfl, (ga_t2 35 (by decide +kernel) rfl), rfl⟩
abbrev mX5_forget : ga_M0 := (yX5_forget, cX5_forget, 1, none, [], none)
theorem fX5_forget : ga_MF mX5_forget 0 := ⟨(ga_t2 41 (by decide +kernel) rfl), (ga_t1 11 (by decide +kernel) rfl), ⟨by decide +kernel, by decide +kernel⟩, by decide +kernel, by decide⟩
theorem kX5_forget : ga_MV mX5_forget := ⟨(ga_t2 39 (by decide +kernel) rfl), (ga_t2 40 (by decide +kernel) rfl)⟩
abbrev mX5_pairDevices : ga_M0 := (yX5_pairDevices, cX5_pairDevices, 3, none, [], none)
theorem fX5_pairDevices : ga_MF mX5_pairDevices 2 := ⟨(ga_t4 100 (by decide +kernel) rfl), (ga_t1 11 (by decide +kernel) rfl), ⟨by decide +kernel, by decide +kernel⟩, by decide +kernel, by decide⟩
theorem kX5_pairDevices : ga_MV mX5_pairDevices := ⟨(ga_t4 98 (by decide +kernel) rfl), (ga_t4 99 (by decide +kernel) rfl)⟩
abbrev mX5_pairNets : ga_M0 := (yX5_pairNets, cX5_pairNets, 3, none, [], none)
theorem fX5_pairNets : ga_MF mX5_pairNets 2 := ⟨(ga_t4 108 (by decide +kernel) rfl), (ga_t1 11 (by decide +kernel) rfl), ⟨by decide +kernel, by decide +kernel⟩, by decide +kernel, by decide⟩
theorem kX5_pairNets : ga_MV mX5_pairNets := ⟨(ga_t4 106 (by decide +kernel) rfl), (ga_t4 107 (by decide +kernel) rfl)⟩
abbrev mX5_isMatchNow : ga_M0 := (yX5_isMatchNow, cX5_isMatchNow, 2, (some .boolean), [], none)
theorem fX5_isMatchNow : ga_MF mX5_isMatchNow 1 := ⟨(ga_t2 138 (by decide +kernel) rfl), (ga_t1 11 (by decide +kernel) rfl), ⟨by decide +kernel, by decide +kernel⟩, by decide +kernel, by decide⟩
theorem kX5_isMatchNow : ga_MV mX5_isMatchNow := ⟨(ga_t2 136 (by decide +kernel) rfl), (ga_t2 137 (by decide +kernel) rfl)⟩
abbrev mX5_pairsPresent : ga_M0 := (yX5_pairsPresent, cX5_pairsPresent, 5, (some .boolean), [], none)
theorem fX5_pairsPresent : ga_MF mX5_pairsPresent 3 := ⟨(ga_t2 141 (by decide +kernel) rfl), (ga_t1 11 (by decide +kernel) rfl), ⟨by decide +kernel, by decide +kernel⟩, by decide +kernel, by decide⟩
theorem kX5_pairsPresent : ga_MS mX5_pairsPresent := (ga_t2 140 (by decide +kernel) rfl)
abbrev mX5_pairsUsed : ga_M0 := (yX5_pairsUsed, cX5_pairsUsed, 5, (some .boolean), [], none)
theorem fX5_pairsUsed : ga_MF mX5_pairsUsed 3 := ⟨(ga_t2 144 (by decide +kernel) rfl), (ga_t1 11 (by decide +kernel) rfl), ⟨by decide +kernel, by decide +kernel⟩, by decide +kernel, by decide⟩
theorem kX5_pairsUsed : ga_MS mX5_pairsUsed := (ga_t2 143 (by decide +kernel) rfl)
abbrev mX5_allPairsAgree : ga_M0 := (yX5_allPairsAgree, cX5_allPairsAgree, 3, (some .boolean), [], none)
theorem fX5_allPairsAgree : ga_MF mX5_allPairsAgree 1 := ⟨(ga_t2 148 (by decide +kernel) rfl), (ga_t1 11 (by decide +kernel) rfl), ⟨by decide +kernel, by decide +kernel⟩, by decide +kernel, by decide⟩
theorem kX5_allPairsAgree : ga_MV mX5_allPairsAgree := ⟨(ga_t2 147 (by decide +kernel) rfl), (ga_tp 0 (by decide +kernel) rfl)⟩
abbrev mX5_pairAgrees : ga_M0 := (yX5_pairAgrees, cX5_pairAgrees, 11, (some .boolean), [], none)
theorem fX5_pairAgrees : ga_MF mX5_pairAgrees 2 := ⟨(ga_t2 152 (by decide +kernel) rfl), (ga_t1 11 (by decide +kernel) rfl), ⟨by decide +kernel, by decide +kernel⟩, by decide +kernel, by decide⟩
theorem kX5_pairAgrees : ga_MV mX5_pairAgrees := ⟨(ga_t2 151 (by decide +kernel) rfl), (ga_tp 1 (by decide +kernel) rfl)⟩
abbrev mX6_init : ga_M0 := (yX6_init, cX6_init, 1, none, [], none)
theorem fX6_init : ga_MF mX6_init 0 := ⟨(ga_t1 219 (by decide +kernel) rfl), (ga_t1 10 (by decide +kernel) rfl), ⟨by decide +kernel, by decide +kernel⟩, by decide +kernel, by decide⟩
theorem kX6_init : ga_MI mX6_init := ⟨rfl, (ga_t1 218 (by decide +kernel) rfl), rfl⟩
abbrev mX6_lookAt : ga_M0 := (yX6_lookAt, cX6_lookAt, 7, none, [], none)
theorem fX6_lookAt : ga_MF mX6_lookAt 3 := ⟨(ga_t4 70 (by decide +kernel) rfl), (ga_t1 10 (by decide +kernel) rfl), ⟨by decide +kernel, by decide +kernel⟩, by decide +kernel, by decide⟩
theorem kX6_lookAt : ga_MV mX6_lookAt := ⟨(ga_t4 68 (by decide +kernel) rfl), (ga_t4 69 (by decide +kernel) rfl)⟩
abbrev mX6_placeOf : ga_M0 := (yX6_placeOf, cX6_placeOf, 3, (some .int), [], none)
theorem fX6_placeOf : ga_MF mX6_placeOf 1 := ⟨(ga_t4 76 (by decide +kernel) rfl), (ga_t1 10 (by decide +kernel) rfl), ⟨by decide +kernel, by decide +kernel⟩, by decide +kernel, by decide⟩
theorem kX6_placeOf : ga_MV mX6_placeOf := ⟨(ga_t4 75 (by decide +kernel) rfl), (ga_tp 19 (by decide +kernel) rfl)⟩
abbrev mX6_placeWith : ga_M0 := (yX6_placeWith, cX6_placeWith, 4, (some .int), [], none)
theorem fX6_placeWith : ga_MF mX6_placeWith 2 := ⟨(ga_t4 84 (by decide +kernel) rfl), (ga_t1 10 (by decide +kernel) rfl), ⟨by decide +kernel, by decide +kernel⟩, by decide +kernel, by decide⟩
theorem kX6_placeWith : ga_MV mX6_placeWith := ⟨(ga_t4 82 (by decide +kernel) rfl), (ga_t4 83 (by decide +kernel) rfl)⟩
abbrev mX7_init : ga_M0 := (yX7_init, cX7_init, 3, none, [], none)
theorem fX7_init : ga_MF mX7_init 2 := ⟨(ga_t1 159 (by decide +kernel) rfl), (ga_t1 8 (by decide +kernel) rfl), ⟨by decide +kernel, by decide +kernel⟩, by decide +kernel, by decide⟩
theorem kX7_init : ga_MI mX7_init := ⟨rfl, (ga_t1 158 (by decide +kernel) rfl), rfl⟩
abbrev mX7_empty : ga_M0 := (yX7_empty, cX7_empty, 1, none, [], none)
theorem fX7_empty : ga_MF mX7_empty 0 := ⟨(ga_t3 214 (by decide +kernel) rfl), (ga_t1 8 (by decide +kernel) rfl), ⟨by decide +kernel, by decide +kernel⟩, by decide +kernel, by decide⟩
theorem kX7_empty : ga_MV mX7_empty := ⟨(ga_t3 212 (by decide +kernel) rfl), (ga_t3 213 (by decide +kernel) rfl)⟩
abbrev mX7_forgetCodes : ga_M0 := (yX7_forgetCodes, cX7_forgetCodes, 1, none, [], none)
theorem fX7_forgetCodes : ga_MF mX7_forgetCodes 0 := ⟨(ga_t3 219 (by decide +kernel) rfl), (ga_t1 8 (by decide +kernel) rfl), ⟨by decide +kernel, by decide +kernel⟩, by decide +kernel, by decide⟩
theorem kX7_forgetCodes : ga_MV mX7_forgetCodes := ⟨(ga_t3 217 (by decide +kernel) rfl), (ga_t3 218 (by decide +kernel) rfl)⟩
abbrev mX7_enter : ga_M0 := (yX7_enter, cX7_enter, 3, none, [], none)
theorem fX7_enter : ga_MF mX7_enter 2 := ⟨(ga_t3 224 (by decide +kernel) rfl), (ga_t1 8 (by decide +kernel) rfl), ⟨by decide +kernel, by decide +kernel⟩, by decide +kernel, by decide⟩
theorem kX7_enter : ga_MV mX7_enter := ⟨(ga_t3 222 (by decide +kernel) rfl), (ga_t3 223 (by decide +kernel) rfl)⟩
abbrev mX7_addCode : ga_M0 := (yX7_addCode, cX7_addCode, 5, none, [], none)
theorem fX7_addCode : ga_MF mX7_addCode 2 := ⟨(ga_t3 228 (by decide +kernel) rfl), (ga_t1 8 (by decide +kernel) rfl), ⟨by decide +kernel, by decide +kernel⟩, by decide +kernel, by decide⟩
theorem kX7_addCode : ga_MV mX7_addCode := ⟨(ga_t3 226 (by decide +kernel) rfl), (ga_t3 227 (by decide +kernel) rfl)⟩
abbrev mX7_split : ga_M0 := (yX7_split, cX7_split, 5, (some .boolean), [], none)
theorem fX7_split : ga_MF mX7_split 0 := ⟨(ga_t3 232 (by decide +kernel) rfl), (ga_t1 8 (by decide +kernel) rfl), ⟨by decide +kernel, by decide +kernel⟩, by decide +kernel, by decide⟩
theorem kX7_split : ga_MV mX7_split := ⟨(ga_t3 230 (by decide +kernel) rfl), (ga_t3 231 (by decide +kernel) rfl)⟩
abbrev mX7_partLike : ga_M0 := (yX7_partLike, cX7_partLike, 5, (some .int), [], none)
theorem fX7_partLike : ga_MF mX7_partLike 2 := ⟨(ga_t3 236 (by decide +kernel) rfl), (ga_t1 8 (by decide +kernel) rfl), ⟨by decide +kernel, by decide +kernel⟩, by decide +kernel, by decide⟩
theorem kX7_partLike : ga_MV mX7_partLike := ⟨(ga_t3 235 (by decide +kernel) rfl), (ga_tp 10 (by decide +kernel) rfl)⟩
abbrev mX7_haveSameCodes : ga_M0 := (yX7_haveSameCodes, cX7_haveSameCodes, 4, (some .boolean), [], none)
theorem fX7_haveSameCodes : ga_MF mX7_haveSameCodes 2 := ⟨(ga_t4 0 (by decide +kernel) rfl), (ga_t1 8 (by decide +kernel) rfl), ⟨by decide +kernel, by decide +kernel⟩, by decide +kernel, by decide⟩
theorem kX7_haveSameCodes : ga_MV mX7_haveSameCodes := ⟨(ga_t3 239 (by decide +kernel) rfl), (ga_tp 11 (by decide +kernel) rfl)⟩
abbrev mX8_init : ga_M0 := (yX8_init, cX8_init, 1, none, [], none)
theorem fX8_init : ga_MF mX8_init 0 := ⟨(ga_t1 213 (by decide +kernel) rfl), (ga_t1 9 (by decide +kernel) rfl), ⟨by decide +kernel, by decide +kernel⟩, by decide +kernel, by decide⟩
theorem kX8_init : ga_MI mX8_init := ⟨rfl, (ga_t1 212 (by decide +kernel) rfl), rfl⟩
abbrev mX8_find : ga_M0 := (yX8_find, cX8_find, 8, (some .int), [], none)
theorem fX8_find : ga_MF mX8_find 3 := ⟨(ga_t4 42 (by decide +kernel) rfl), (ga_t1 9 (by decide +kernel) rfl), ⟨by decide +kernel, by decide +kernel⟩, by decide +kernel, by decide⟩
theorem kX8_find : ga_MV mX8_find := ⟨(ga_t4 40 (by decide +kernel) rfl), (ga_t4 41 (by decide +kernel) rfl)⟩
abbrev mX8_keep : ga_M0 := (yX8_keep, cX8_keep, 4, none, [], none)
theorem fX8_keep : ga_MF mX8_keep 2 := ⟨(ga_t4 96 (by decide +kernel) rfl), (ga_t1 9 (by decide +kernel) rfl), ⟨by decide +kernel, by decide +kernel⟩, by decide +kernel, by decide⟩
theorem kX8_keep : ga_MV mX8_keep := ⟨(ga_t4 94 (by decide +kernel) rfl), (ga_t4 95 (by decide +kernel) rfl)⟩
abbrev mX8_keepNet : ga_M0 := (yX8_keepNet, cX8_keepNet, 6, none, [], none)
theorem fX8_keepNet : ga_MF mX8_keepNet 3 := ⟨(ga_t4 104 (by decide +kernel) rfl), (ga_t1 9 (by decide +kernel) rfl), ⟨by decide +kernel, by decide +kernel⟩, by decide +kernel, by decide⟩
theorem kX8_keepNet : ga_MV mX8_keepNet := ⟨(ga_t4 103 (by decide +kernel) rfl), (ga_tp 22 (by decide +kernel) rfl)⟩
abbrev mX8_begin : ga_M0 := (yX8_begin, cX8_begin, 3, none, [], none)
theorem fX8_begin : ga_MF mX8_begin 1 := ⟨(ga_t4 46 (by decide +kernel) rfl), (ga_t1 9 (by decide +kernel) rfl), ⟨by decide +kernel, by decide +kernel⟩, by decide +kernel, by decide⟩
theorem kX8_begin : ga_MV mX8_begin := ⟨(ga_t4 45 (by decide +kernel) rfl), (ga_tp 15 (by decide +kernel) rfl)⟩
abbrev mX8_sortByPorts : ga_M0 := (yX8_sortByPorts, cX8_sortByPorts, 4, none, [], none)
theorem fX8_sortByPorts : ga_MF mX8_sortByPorts 3 := ⟨(ga_t4 50 (by decide +kernel) rfl), (ga_t1 9 (by decide +kernel) rfl), ⟨by decide +kernel, by decide +kernel⟩, by decide +kernel, by decide⟩
theorem kX8_sortByPorts : ga_MS mX8_sortByPorts := (ga_t4 49 (by decide +kernel) rfl)
abbrev mX8_nextCandidate : ga_M0 := (yX8_nextCandidate, cX8_nextCandidate, 7, (some .int), [], none)
theorem fX8_nextCandidate : ga_MF mX8_nextCandidate 3 := ⟨(ga_t4 56 (by decide +kernel) rfl), (ga_t1 9 (by decide +kernel) rfl), ⟨by decide +kernel, by decide +kernel⟩, by decide +kernel, by decide⟩
theorem kX8_nextCandidate : ga_MV mX8_nextCandidate := ⟨(ga_t4 55 (by decide +kernel) rfl), (ga_tp 16 (by decide +kernel) rfl)⟩
abbrev mX8_pairUp : ga_M0 := (yX8_pairUp, cX8_pairUp, 8, (some .boolean), [], none)
theorem fX8_pairUp : ga_MF mX8_pairUp 3 := ⟨(ga_t4 65 (by decide +kernel) rfl), (ga_t1 9 (by decide +kernel) rfl), ⟨by decide +kernel, by decide +kernel⟩, by decide +kernel, by decide⟩
theorem kX8_pairUp : ga_MV mX8_pairUp := ⟨(ga_t4 64 (by decide +kernel) rfl), (ga_tp 18 (by decide +kernel) rfl)⟩
abbrev mX8_findMates : ga_M0 := (yX8_findMates, cX8_findMates, 4, (some .boolean), [], none)
theorem fX8_findMates : ga_MF mX8_findMates 0 := ⟨(ga_t4 80 (by decide +kernel) rfl), (ga_t1 9 (by decide +kernel) rfl), ⟨by decide +kernel, by decide +kernel⟩, by decide +kernel, by decide⟩
theorem kX8_findMates : ga_MV mX8_findMates := ⟨(ga_t4 79 (by decide +kernel) rfl), (ga_tp 20 (by decide +kernel) rfl)⟩
abbrev mX8_changeSorts : ga_M0 := (yX8_changeSorts, cX8_changeSorts, 8, none, [], none)
theorem fX8_changeSorts : ga_MF mX8_changeSorts 1 := ⟨(ga_t4 88 (by decide +kernel) rfl), (ga_t1 9 (by decide +kernel) rfl), ⟨by decide +kernel, by decide +kernel⟩, by decide +kernel, by decide⟩
theorem kX8_changeSorts : ga_MV mX8_changeSorts := ⟨(ga_t4 87 (by decide +kernel) rfl), (ga_tp 21 (by decide +kernel) rfl)⟩
abbrev mX8_undo : ga_M0 := (yX8_undo, cX8_undo, 4, none, [], none)
theorem fX8_undo : ga_MF mX8_undo 1 := ⟨(ga_t4 61 (by decide +kernel) rfl), (ga_t1 9 (by decide +kernel) rfl), ⟨by decide +kernel, by decide +kernel⟩, by decide +kernel, by decide⟩
theorem kX8_undo : ga_MV mX8_undo := ⟨(ga_t4 60 (by decide +kernel) rfl), (ga_tp 17 (by decide +kernel) rfl)⟩
abbrev mX9_init : ga_M0 := (yX9_init, cX9_init, 1, none, [], none)
theorem fX9_init : ga_MF mX9_init 0 := ⟨(ga_t1 39 (by decide +kernel) rfl), (ga_t1 3 (by decide +kernel) rfl), ⟨by decide +kernel, by decide +kernel⟩, by decide +kernel, by decide⟩
theorem kX9_init : ga_MI mX9_init := ⟨rfl, (ga_t1 38 (by decide +kernel) rfl), rfl⟩
abbrev mX9_addNet : ga_M0 := (yX9_addNet, cX9_addNet, 1, (some .int), [], none)
theorem fX9_addNet : ga_MF mX9_addNet 0 := ⟨(ga_t3 49 (by decide +kernel) rfl), (ga_t1 3 (by decide +kernel) rfl), ⟨by decide +kernel, by decide +kernel⟩, by decide +kernel, by decide⟩
theorem kX9_addNet : ga_MV mX9_addNet := ⟨(ga_t3 47 (by decide +kernel) rfl), (ga_t3 48 (by decide +kernel) rfl)⟩
abbrev mX9_addDevice : ga_M0 := (yX9_addDevice, cX9_addDevice, 4, (some .int), [], none)
theorem fX9_addDevice : ga_MF mX9_addDevice 2 := ⟨(ga_t3 67 (by decide +kernel) rfl), (ga_t1 3 (by decide +kernel) rfl), ⟨by decide +kernel, by decide +kernel⟩, by decide +kernel, by decide⟩
theorem kX9_addDevice : ga_MV mX9_addDevice := ⟨(ga_t3 65 (by decide +kernel) rfl), (ga_t3 66 (by decide +kernel) rfl)⟩
abbrev mX9_isNet : ga_M0 := (yX9_isNet, cX9_isNet, 2, (some .boolean), [], none)
theorem fX9_isNet : ga_MF mX9_isNet 1 := ⟨(ga_t3 87 (by decide +kernel) rfl), (ga_t1 3 (by decide +kernel) rfl), ⟨by decide +kernel, by decide +kernel⟩, by decide +kernel, by decide⟩
theorem kX9_isNet : ga_MV mX9_isNet := ⟨(ga_t3 85 (by decide +kernel) rfl), (ga_t3 86 (by decide +kernel) rfl)⟩
abbrev mX9_isDevice : ga_M0 := (yX9_isDevice, cX9_isDevice, 2, (some .boolean), [], none)
theorem fX9_isDevice : ga_MF mX9_isDevice 1 := ⟨(ga_t3 78 (by decide +kernel) rfl), (ga_t1 3 (by decide +kernel) rfl), ⟨by decide +kernel, by decide +kernel⟩, by decide +kernel, by decide⟩
theorem kX9_isDevice : ga_MV mX9_isDevice := ⟨(ga_t3 76 (by decide +kernel) rfl), (ga_t3 77 (by decide +kernel) rfl)⟩
abbrev mX9_netOf : ga_M0 := (yX9_netOf, cX9_netOf, 3, (some .int), [], none)
theorem fX9_netOf : ga_MF mX9_netOf 2 := ⟨(ga_t2 134 (by decide +kernel) rfl), (ga_t1 3 (by decide +kernel) rfl), ⟨by decide +kernel, by decide +kernel⟩, by decide +kernel, by decide⟩
theorem kX9_netOf : ga_MV mX9_netOf := ⟨(ga_t2 132 (by decide +kernel) rfl), (ga_t2 133 (by decide +kernel) rfl)⟩
abbrev mX9_connect : ga_M0 := (yX9_connect, cX9_connect, 5, (some .boolean), [], none)
theorem fX9_connect : ga_MF mX9_connect 3 := ⟨(ga_t3 92 (by decide +kernel) rfl), (ga_t1 3 (by decide +kernel) rfl), ⟨by decide +kernel, by decide +kernel⟩, by decide +kernel, by decide⟩
theorem kX9_connect : ga_MV mX9_connect := ⟨(ga_t3 90 (by decide +kernel) rfl), (ga_t3 91 (by decide +kernel) rfl)⟩
abbrev mX9_isPort : ga_M0 := (yX9_isPort, cX9_isPort, 2, (some .boolean), [], none)
theorem fX9_isPort : ga_MF mX9_isPort 1 := ⟨(ga_t2 130 (by decide +kernel) rfl), (ga_t1 3 (by decide +kernel) rfl), ⟨by decide +kernel, by decide +kernel⟩, by decide +kernel, by decide⟩
theorem kX9_isPort : ga_MV mX9_isPort := ⟨(ga_t2 128 (by decide +kernel) rfl), (ga_t2 129 (by decide +kernel) rfl)⟩
abbrev mX9_makePort : ga_M0 := (yX9_makePort, cX9_makePort, 4, (some .boolean), [], none)
theorem fX9_makePort : ga_MF mX9_makePort 2 := ⟨(ga_t3 134 (by decide +kernel) rfl), (ga_t1 3 (by decide +kernel) rfl), ⟨by decide +kernel, by decide +kernel⟩, by decide +kernel, by decide⟩
theorem kX9_makePort : ga_MV mX9_makePort := ⟨(ga_t3 132 (by decide +kernel) rfl), (ga_t3 133 (by decide +kernel) rfl)⟩
abbrev mX9_portNamed : ga_M0 := (yX9_portNamed, cX9_portNamed, 3, (some .int), [], none)
theorem fX9_portNamed : ga_MF mX9_portNamed 1 := ⟨(ga_t3 129 (by decide +kernel) rfl), (ga_t1 3 (by decide +kernel) rfl), ⟨by decide +kernel, by decide +kernel⟩, by decide +kernel, by decide⟩
theorem kX9_portNamed : ga_MV mX9_portNamed := ⟨(ga_t3 127 (by decide +kernel) rfl), (ga_t3 128 (by decide +kernel) rfl)⟩
abbrev mX9_presentCount : ga_M0 := (yX9_presentCount, cX9_presentCount, 3, (some .int), [], none)
theorem fX9_presentCount : ga_MF mX9_presentCount 0 := ⟨(ga_t3 188 (by decide +kernel) rfl), (ga_t1 3 (by decide +kernel) rfl), ⟨by decide +kernel, by decide +kernel⟩, by decide +kernel, by decide⟩
theorem kX9_presentCount : ga_MV mX9_presentCount := ⟨(ga_t3 186 (by decide +kernel) rfl), (ga_t3 187 (by decide +kernel) rfl)⟩
abbrev mX9_presentOfKind : ga_M0 := (yX9_presentOfKind, cX9_presentOfKind, 4, (some .int), [], none)
theorem fX9_presentOfKind : ga_MF mX9_presentOfKind 1 := ⟨(ga_t4 120 (by decide +kernel) rfl), (ga_t1 3 (by decide +kernel) rfl), ⟨by decide +kernel, by decide +kernel⟩, by decide +kernel, by decide⟩
theorem kX9_presentOfKind : ga_MV mX9_presentOfKind := ⟨(ga_t4 118 (by decide +kernel) rfl), (ga_t4 119 (by decide +kernel) rfl)⟩
abbrev mX9_markUsedNets : ga_M0 := (yX9_markUsedNets, cX9_markUsedNets, 4, none, [], none)
theorem fX9_markUsedNets : ga_MF mX9_markUsedNets 0 := ⟨(ga_t2 126 (by decide +kernel) rfl), (ga_t1 3 (by decide +kernel) rfl), ⟨by decide +kernel, by decide +kernel⟩, by decide +kernel, by decide⟩
theorem kX9_markUsedNets : ga_MV mX9_markUsedNets := ⟨(ga_t2 124 (by decide +kernel) rfl), (ga_t2 125 (by decide +kernel) rfl)⟩
abbrev mX9_usedCount : ga_M0 := (yX9_usedCount, cX9_usedCount, 3, (some .int), [], none)
theorem fX9_usedCount : ga_MF mX9_usedCount 0 := ⟨(ga_t4 30 (by decide +kernel) rfl), (ga_t1 3 (by decide +kernel) rfl), ⟨by decide +kernel, by decide +kernel⟩, by decide +kernel, by decide⟩
theorem kX9_usedCount : ga_MV mX9_usedCount := ⟨(ga_t4 28 (by decide +kernel) rfl), (ga_t4 29 (by decide +kernel) rfl)⟩
abbrev mX9_nextPortName : ga_M0 := (yX9_nextPortName, cX9_nextPortName, 5, (some .int), [], none)
theorem fX9_nextPortName : ga_MF mX9_nextPortName 1 := ⟨(ga_t4 38 (by decide +kernel) rfl), (ga_t1 3 (by decide +kernel) rfl), ⟨by decide +kernel, by decide +kernel⟩, by decide +kernel, by decide⟩
theorem kX9_nextPortName : ga_MV mX9_nextPortName := ⟨(ga_t4 36 (by decide +kernel) rfl), (ga_t4 37 (by decide +kernel) rfl)⟩
abbrev mX10_init : ga_M0 := (yX10_init, cX10_init, 1, none, [], none)
theorem fX10_init : ga_MF mX10_init 0 := ⟨(ga_t1 25 (by decide +kernel) rfl), (ga_t1 1 (by decide +kernel) rfl), ⟨by decide +kernel, by decide +kernel⟩, by decide +kernel, by decide⟩
theorem kX10_init : ga_MI mX10_init := ⟨rfl, (ga_t1 24 (by decide +kernel) rfl), rfl⟩
abbrev mX10_net : ga_M0 := (yX10_net, cX10_net, 4, (some .int), [], none)
theorem fX10_net : ga_MF mX10_net 2 := ⟨(ga_t2 177 (by decide +kernel) rfl), (ga_t1 1 (by decide +kernel) rfl), ⟨by decide +kernel, by decide +kernel⟩, by decide +kernel, by decide⟩
theorem kX10_net : ga_MV mX10_net := ⟨(ga_t2 175 (by decide +kernel) rfl), (ga_t2 176 (by decide +kernel) rfl)⟩
abbrev mX10_device : ga_M0 := (yX10_device, cX10_device, 6, (some .int), [], none)
theorem fX10_device : ga_MF mX10_device 3 := ⟨(ga_t3 56 (by decide +kernel) rfl), (ga_t1 1 (by decide +kernel) rfl), ⟨by decide +kernel, by decide +kernel⟩, by decide +kernel, by decide⟩
theorem kX10_device : ga_MV mX10_device := ⟨(ga_t3 54 (by decide +kernel) rfl), (ga_t3 55 (by decide +kernel) rfl)⟩
abbrev mX10_pin : ga_M0 := (yX10_pin, cX10_pin, 6, (some .boolean), [], none)
theorem fX10_pin : ga_MF mX10_pin 4 := ⟨(ga_t3 74 (by decide +kernel) rfl), (ga_t1 1 (by decide +kernel) rfl), ⟨by decide +kernel, by decide +kernel⟩, by decide +kernel, by decide⟩
theorem kX10_pin : ga_MV mX10_pin := ⟨(ga_t3 72 (by decide +kernel) rfl), (ga_t3 73 (by decide +kernel) rfl)⟩
abbrev mX10_swap : ga_M0 := (yX10_swap, cX10_swap, 4, (some .boolean), [], none)
theorem fX10_swap : ga_MF mX10_swap 3 := ⟨(ga_t3 99 (by decide +kernel) rfl), (ga_t1 1 (by decide +kernel) rfl), ⟨by decide +kernel, by decide +kernel⟩, by decide +kernel, by decide⟩
theorem kX10_swap : ga_MV mX10_swap := ⟨(ga_t3 97 (by decide +kernel) rfl), (ga_t3 98 (by decide +kernel) rfl)⟩
abbrev mX10_share : ga_M0 := (yX10_share, cX10_share, 4, (some .boolean), [], none)
theorem fX10_share : ga_MF mX10_share 2 := ⟨(ga_t3 113 (by decide +kernel) rfl), (ga_t1 1 (by decide +kernel) rfl), ⟨by decide +kernel, by decide +kernel⟩, by decide +kernel, by decide⟩
theorem kX10_share : ga_MV mX10_share := ⟨(ga_t3 111 (by decide +kernel) rfl), (ga_t3 112 (by decide +kernel) rfl)⟩
abbrev mX10_port : ga_M0 := (yX10_port, cX10_port, 6, (some .boolean), [], none)
theorem fX10_port : ga_MF mX10_port 3 := ⟨(ga_t3 125 (by decide +kernel) rfl), (ga_t1 1 (by decide +kernel) rfl), ⟨by decide +kernel, by decide +kernel⟩, by decide +kernel, by decide⟩
theorem kX10_port : ga_MV mX10_port := ⟨(ga_t3 123 (by decide +kernel) rfl), (ga_t3 124 (by decide +kernel) rfl)⟩
abbrev mX10_join : ga_M0 := (yX10_join, cX10_join, 4, (some .int), [], none)
theorem fX10_join : ga_MF mX10_join 2 := ⟨(ga_t3 141 (by decide +kernel) rfl), (ga_t1 1 (by decide +kernel) rfl), ⟨by decide +kernel, by decide +kernel⟩, by decide +kernel, by decide⟩
theorem kX10_join : ga_MV mX10_join := ⟨(ga_t3 139 (by decide +kernel) rfl), (ga_t3 140 (by decide +kernel) rfl)⟩
abbrev mX10_run : ga_M0 := (yX10_run, cX10_run, 4, (some .int), [], none)
theorem fX10_run : ga_MF mX10_run 1 := ⟨(ga_t3 195 (by decide +kernel) rfl), (ga_t1 1 (by decide +kernel) rfl), ⟨by decide +kernel, by decide +kernel⟩, by decide +kernel, by decide⟩
theorem kX10_run : ga_MV mX10_run := ⟨(ga_t3 193 (by decide +kernel) rfl), (ga_t3 194 (by decide +kernel) rfl)⟩
abbrev mX10_match : ga_M0 := (yX10_match, cX10_match, 4, (some .int), [], none)
theorem fX10_match : ga_MF mX10_match 2 := ⟨(ga_t4 152 (by decide +kernel) rfl), (ga_t1 1 (by decide +kernel) rfl), ⟨by decide +kernel, by decide +kernel⟩, by decide +kernel, by decide⟩
theorem kX10_match : ga_MV mX10_match := ⟨(ga_t4 150 (by decide +kernel) rfl), (ga_t4 151 (by decide +kernel) rfl)⟩
abbrev mX10_netMatch : ga_M0 := (yX10_netMatch, cX10_netMatch, 2, (some .int), [], none)
theorem fX10_netMatch : ga_MF mX10_netMatch 1 := ⟨(ga_t4 159 (by decide +kernel) rfl), (ga_t1 1 (by decide +kernel) rfl), ⟨by decide +kernel, by decide +kernel⟩, by decide +kernel, by decide⟩
theorem kX10_netMatch : ga_MV mX10_netMatch := ⟨(ga_t4 157 (by decide +kernel) rfl), (ga_t4 158 (by decide +kernel) rfl)⟩
abbrev mX10_differs : ga_M0 := (yX10_differs, cX10_differs, 3, (some .int), [], none)
theorem fX10_differs : ga_MF mX10_differs 2 := ⟨(ga_t4 166 (by decide +kernel) rfl), (ga_t1 1 (by decide +kernel) rfl), ⟨by decide +kernel, by decide +kernel⟩, by decide +kernel, by decide⟩
theorem kX10_differs : ga_MV mX10_differs := ⟨(ga_t4 164 (by decide +kernel) rfl), (ga_t4 165 (by decide +kernel) rfl)⟩
abbrev mX10_rounds : ga_M0 := (yX10_rounds, cX10_rounds, 1, (some .int), [], none)
theorem fX10_rounds : ga_MF mX10_rounds 0 := ⟨(ga_t2 110 (by decide +kernel) rfl), (ga_t1 1 (by decide +kernel) rfl), ⟨by decide +kernel, by decide +kernel⟩, by decide +kernel, by decide⟩
theorem kX10_rounds : ga_MV mX10_rounds := ⟨(ga_t2 108 (by decide +kernel) rfl), (ga_t2 109 (by decide +kernel) rfl)⟩
abbrev mX10_tried : ga_M0 := (yX10_tried, cX10_tried, 1, (some .int), [], none)
theorem fX10_tried : ga_MF mX10_tried 0 := ⟨(ga_t2 114 (by decide +kernel) rfl), (ga_t1 1 (by decide +kernel) rfl), ⟨by decide +kernel, by decide +kernel⟩, by decide +kernel, by decide⟩
theorem kX10_tried : ga_MV mX10_tried := ⟨(ga_t2 112 (by decide +kernel) rfl), (ga_t2 113 (by decide +kernel) rfl)⟩
abbrev mX10_tested : ga_M0 := (yX10_tested, cX10_tested, 1, (some .boolean), [], none)
theorem fX10_tested : ga_MF mX10_tested 0 := ⟨(ga_t2 118 (by decide +kernel) rfl), (ga_t1 1 (by decide +kernel) rfl), ⟨by decide +kernel, by decide +kernel⟩, by decide +kernel, by decide⟩
theorem kX10_tested : ga_MV mX10_tested := ⟨(ga_t2 116 (by decide +kernel) rfl), (ga_t2 117 (by decide +kernel) rfl)⟩
abbrev mX10_sideAt : ga_M0 := (yX10_sideAt, cX10_sideAt, 2, (some (.object "GraphCompare$Side")), [], none)
theorem fX10_sideAt : ga_MF mX10_sideAt 1 := ⟨(ga_t2 181 (by decide +kernel) rfl), (ga_t1 1 (by decide +kernel) rfl), ⟨by decide +kernel, by decide +kernel⟩, by decide +kernel, by decide⟩
theorem kX10_sideAt : ga_MV mX10_sideAt := ⟨(ga_t2 180 (by decide +kernel) rfl), (ga_tp 2 (by decide +kernel) rfl)⟩
abbrev mX10_isKind : ga_M0 := (yX10_isKind, cX10_isKind, 1, (some .boolean), [], none)
theorem fX10_isKind : ga_MF mX10_isKind 1 := ⟨(ga_t3 59 (by decide +kernel) rfl), (ga_t1 1 (by decide +kernel) rfl), ⟨by decide +kernel, by decide +kernel⟩, by decide +kernel, by decide⟩
theorem kX10_isKind : ga_MS mX10_isKind := (ga_t3 58 (by decide +kernel) rfl)
abbrev mX10_isPin : ga_M0 := (yX10_isPin, cX10_isPin, 1, (some .boolean), [], none)
theorem fX10_isPin : ga_MF mX10_isPin 1 := ⟨(ga_t3 82 (by decide +kernel) rfl), (ga_t1 1 (by decide +kernel) rfl), ⟨by decide +kernel, by decide +kernel⟩, by decide +kernel, by decide⟩
theorem kX10_isPin : ga_MS mX10_isPin := (ga_t3 81 (by decide +kernel) rfl)
abbrev mX11_init : ga_M0 := (yX11_init, cX11_init, 2, none, [], none)
theorem fX11_init : ga_MF mX11_init 0 := ⟨(ga_t4 173 (by decide +kernel) rfl), (ga_t1 13 (by decide +kernel) rfl), ⟨by decide +kernel, by decide +kernel⟩, by decide +kernel, by decide⟩
theorem kX11_init : ga_MI mX11_init := ⟨rfl, (ga_t4 172 (by decide +kernel) rfl), rfl⟩
abbrev mX11_thrown : ga_M0 := (yX11_thrown, cX11_thrown, 1, (some .int), [], none)
theorem fX11_thrown : ga_MF mX11_thrown 0 := ⟨(ga_t5 35 (by decide +kernel) rfl), (ga_t1 13 (by decide +kernel) rfl), ⟨by decide +kernel, by decide +kernel⟩, by decide +kernel, by decide⟩
theorem kX11_thrown : ga_MV mX11_thrown := ⟨(ga_t5 33 (by decide +kernel) rfl), (ga_t5 34 (by decide +kernel) rfl)⟩
abbrev mX11_isSide : ga_M0 := (yX11_isSide, cX11_isSide, 1, (some .boolean), [], none)
theorem fX11_isSide : ga_MF mX11_isSide 1 := ⟨(ga_t5 42 (by decide +kernel) rfl), (ga_t1 13 (by decide +kernel) rfl), ⟨by decide +kernel, by decide +kernel⟩, by decide +kernel, by decide⟩
theorem kX11_isSide : ga_MS mX11_isSide := (ga_t5 41 (by decide +kernel) rfl)
abbrev mX11_isNet : ga_M0 := (yX11_isNet, cX11_isNet, 3, (some .boolean), [], none)
theorem fX11_isNet : ga_MF mX11_isNet 2 := ⟨(ga_t5 65 (by decide +kernel) rfl), (ga_t1 13 (by decide +kernel) rfl), ⟨by decide +kernel, by decide +kernel⟩, by decide +kernel, by decide⟩
theorem kX11_isNet : ga_MV mX11_isNet := ⟨(ga_t5 64 (by decide +kernel) rfl), (ga_tp 30 (by decide +kernel) rfl)⟩
abbrev mX11_isDevice : ga_M0 := (yX11_isDevice, cX11_isDevice, 3, (some .boolean), [], none)
theorem fX11_isDevice : ga_MF mX11_isDevice 2 := ⟨(ga_t5 58 (by decide +kernel) rfl), (ga_t1 13 (by decide +kernel) rfl), ⟨by decide +kernel, by decide +kernel⟩, by decide +kernel, by decide⟩
theorem kX11_isDevice : ga_MV mX11_isDevice := ⟨(ga_t5 57 (by decide +kernel) rfl), (ga_tp 29 (by decide +kernel) rfl)⟩
abbrev mX11_isKind : ga_M0 := (yX11_isKind, cX11_isKind, 1, (some .boolean), [], none)
theorem fX11_isKind : ga_MF mX11_isKind 1 := ⟨(ga_t5 49 (by decide +kernel) rfl), (ga_t1 13 (by decide +kernel) rfl), ⟨by decide +kernel, by decide +kernel⟩, by decide +kernel, by decide⟩
theorem kX11_isKind : ga_MS mX11_isKind := (ga_t5 48 (by decide +kernel) rfl)
abbrev mX11_isPin : ga_M0 := (yX11_isPin, cX11_isPin, 1, (some .boolean), [], none)
theorem fX11_isPin : ga_MF mX11_isPin 1 := ⟨(ga_t5 61 (by decide +kernel) rfl), (ga_t1 13 (by decide +kernel) rfl), ⟨by decide +kernel, by decide +kernel⟩, by decide +kernel, by decide⟩
theorem kX11_isPin : ga_MS mX11_isPin := (ga_t5 60 (by decide +kernel) rfl)
abbrev mX11_net : ga_M0 := (yX11_net, cX11_net, 3, (some .int), [], none)
theorem fX11_net : ga_MF mX11_net 2 := ⟨(ga_t5 39 (by decide +kernel) rfl), (ga_t1 13 (by decide +kernel) rfl), ⟨by decide +kernel, by decide +kernel⟩, by decide +kernel, by decide⟩
theorem kX11_net : ga_MV mX11_net := ⟨(ga_t5 37 (by decide +kernel) rfl), (ga_t5 38 (by decide +kernel) rfl)⟩
abbrev mX11_device : ga_M0 := (yX11_device, cX11_device, 7, (some .int), [], none)
theorem fX11_device : ga_MF mX11_device 3 := ⟨(ga_t5 46 (by decide +kernel) rfl), (ga_t1 13 (by decide +kernel) rfl), ⟨by decide +kernel, by decide +kernel⟩, by decide +kernel, by decide⟩
theorem kX11_device : ga_MV mX11_device := ⟨(ga_t5 44 (by decide +kernel) rfl), (ga_t5 45 (by decide +kernel) rfl)⟩
abbrev mX11_pin : ga_M0 := (yX11_pin, cX11_pin, 7, (some .boolean), [], none)
theorem fX11_pin : ga_MF mX11_pin 4 := ⟨(ga_t5 54 (by decide +kernel) rfl), (ga_t1 13 (by decide +kernel) rfl), ⟨by decide +kernel, by decide +kernel⟩, by decide +kernel, by decide⟩
theorem kX11_pin : ga_MV mX11_pin := ⟨(ga_t5 52 (by decide +kernel) rfl), (ga_t5 53 (by decide +kernel) rfl)⟩
abbrev mX11_swap : ga_M0 := (yX11_swap, cX11_swap, 7, (some .boolean), [], none)
theorem fX11_swap : ga_MF mX11_swap 3 := ⟨(ga_t5 69 (by decide +kernel) rfl), (ga_t1 13 (by decide +kernel) rfl), ⟨by decide +kernel, by decide +kernel⟩, by decide +kernel, by decide⟩
theorem kX11_swap : ga_MV mX11_swap := ⟨(ga_t5 67 (by decide +kernel) rfl), (ga_t5 68 (by decide +kernel) rfl)⟩
abbrev mX11_share : ga_M0 := (yX11_share, cX11_share, 4, (some .boolean), [], none)
theorem fX11_share : ga_MF mX11_share 2 := ⟨(ga_t5 73 (by decide +kernel) rfl), (ga_t1 13 (by decide +kernel) rfl), ⟨by decide +kernel, by decide +kernel⟩, by decide +kernel, by decide⟩
theorem kX11_share : ga_MV mX11_share := ⟨(ga_t5 71 (by decide +kernel) rfl), (ga_t5 72 (by decide +kernel) rfl)⟩
abbrev mX11_port : ga_M0 := (yX11_port, cX11_port, 5, (some .boolean), [], none)
theorem fX11_port : ga_MF mX11_port 3 := ⟨(ga_t5 77 (by decide +kernel) rfl), (ga_t1 13 (by decide +kernel) rfl), ⟨by decide +kernel, by decide +kernel⟩, by decide +kernel, by decide⟩
theorem kX11_port : ga_MV mX11_port := ⟨(ga_t5 75 (by decide +kernel) rfl), (ga_t5 76 (by decide +kernel) rfl)⟩
abbrev mX11_group : ga_M0 := (yX11_group, cX11_group, 3, (some .int), [], none)
theorem fX11_group : ga_MF mX11_group 2 := ⟨(ga_t5 93 (by decide +kernel) rfl), (ga_t1 13 (by decide +kernel) rfl), ⟨by decide +kernel, by decide +kernel⟩, by decide +kernel, by decide⟩
theorem kX11_group : ga_MV mX11_group := ⟨(ga_t5 92 (by decide +kernel) rfl), (ga_tp 33 (by decide +kernel) rfl)⟩
abbrev mX11_pinsOn : ga_M0 := (yX11_pinsOn, cX11_pinsOn, 6, (some .int), [], none)
theorem fX11_pinsOn : ga_MF mX11_pinsOn 3 := ⟨(ga_t5 97 (by decide +kernel) rfl), (ga_t1 13 (by decide +kernel) rfl), ⟨by decide +kernel, by decide +kernel⟩, by decide +kernel, by decide⟩
theorem kX11_pinsOn : ga_MV mX11_pinsOn := ⟨(ga_t5 96 (by decide +kernel) rfl), (ga_tp 34 (by decide +kernel) rfl)⟩
abbrev mX11_isParallel : ga_M0 := (yX11_isParallel, cX11_isParallel, 7, (some .boolean), [], none)
theorem fX11_isParallel : ga_MF mX11_isParallel 2 := ⟨(ga_t5 89 (by decide +kernel) rfl), (ga_t1 13 (by decide +kernel) rfl), ⟨by decide +kernel, by decide +kernel⟩, by decide +kernel, by decide⟩
theorem kX11_isParallel : ga_MV mX11_isParallel := ⟨(ga_t5 88 (by decide +kernel) rfl), (ga_tp 32 (by decide +kernel) rfl)⟩
abbrev mX11_all : ga_M0 := (yX11_all, cX11_all, 6, (some .int), [], none)
theorem fX11_all : ga_MF mX11_all 2 := ⟨(ga_t5 109 (by decide +kernel) rfl), (ga_t1 13 (by decide +kernel) rfl), ⟨by decide +kernel, by decide +kernel⟩, by decide +kernel, by decide⟩
theorem kX11_all : ga_MV mX11_all := ⟨(ga_t5 108 (by decide +kernel) rfl), (ga_tp 37 (by decide +kernel) rfl)⟩
abbrev mX11_isChain : ga_M0 := (yX11_isChain, cX11_isChain, 3, (some .boolean), [], none)
theorem fX11_isChain : ga_MF mX11_isChain 1 := ⟨(ga_t5 105 (by decide +kernel) rfl), (ga_t1 13 (by decide +kernel) rfl), ⟨by decide +kernel, by decide +kernel⟩, by decide +kernel, by decide⟩
theorem kX11_isChain : ga_MV mX11_isChain := ⟨(ga_t5 104 (by decide +kernel) rfl), (ga_tp 36 (by decide +kernel) rfl)⟩
abbrev mX11_common : ga_M0 := (yX11_common, cX11_common, 7, (some .int), [], none)
theorem fX11_common : ga_MF mX11_common 3 := ⟨(ga_t5 101 (by decide +kernel) rfl), (ga_t1 13 (by decide +kernel) rfl), ⟨by decide +kernel, by decide +kernel⟩, by decide +kernel, by decide⟩
theorem kX11_common : ga_MV mX11_common := ⟨(ga_t5 100 (by decide +kernel) rfl), (ga_tp 35 (by decide +kernel) rfl)⟩
abbrev mX11_isJoined : ga_M0 := (yX11_isJoined, cX11_isJoined, 10, (some .boolean), [], none)
theorem fX11_isJoined : ga_MF mX11_isJoined 2 := ⟨(ga_t5 85 (by decide +kernel) rfl), (ga_t1 13 (by decide +kernel) rfl), ⟨by decide +kernel, by decide +kernel⟩, by decide +kernel, by decide⟩
theorem kX11_isJoined : ga_MV mX11_isJoined := ⟨(ga_t5 84 (by decide +kernel) rfl), (ga_tp 31 (by decide +kernel) rfl)⟩
abbrev mX11_live : ga_M0 := (yX11_live, cX11_live, 4, (some .int), [], none)
theorem fX11_live : ga_MF mX11_live 1 := ⟨(ga_t5 113 (by decide +kernel) rfl), (ga_t1 13 (by decide +kernel) rfl), ⟨by decide +kernel, by decide +kernel⟩, by decide +kernel, by decide⟩
theorem kX11_live : ga_MV mX11_live := ⟨(ga_t5 112 (by decide +kernel) rfl), (ga_tp 38 (by decide +kernel) rfl)⟩
abbrev mX11_join : ga_M0 := (yX11_join, cX11_join, 3, (some .int), [], none)
theorem fX11_join : ga_MF mX11_join 2 := ⟨(ga_t5 81 (by decide +kernel) rfl), (ga_t1 13 (by decide +kernel) rfl), ⟨by decide +kernel, by decide +kernel⟩, by decide +kernel, by decide⟩
theorem kX11_join : ga_MV mX11_join := ⟨(ga_t5 79 (by decide +kernel) rfl), (ga_t5 80 (by decide +kernel) rfl)⟩
abbrev mX11_isUsed : ga_M0 := (yX11_isUsed, cX11_isUsed, 3, (some .boolean), [], none)
theorem fX11_isUsed : ga_MF mX11_isUsed 2 := ⟨(ga_t5 138 (by decide +kernel) rfl), (ga_t1 13 (by decide +kernel) rfl), ⟨by decide +kernel, by decide +kernel⟩, by decide +kernel, by decide⟩
theorem kX11_isUsed : ga_MV mX11_isUsed := ⟨(ga_t5 137 (by decide +kernel) rfl), (ga_tp 43 (by decide +kernel) rfl)⟩
abbrev mX11_pinsOnClass : ga_M0 := (yX11_pinsOnClass, cX11_pinsOnClass, 8, (some .int), [], none)
theorem fX11_pinsOnClass : ga_MF mX11_pinsOnClass 3 := ⟨(ga_t5 154 (by decide +kernel) rfl), (ga_t1 13 (by decide +kernel) rfl), ⟨by decide +kernel, by decide +kernel⟩, by decide +kernel, by decide⟩
theorem kX11_pinsOnClass : ga_MV mX11_pinsOnClass := ⟨(ga_t5 153 (by decide +kernel) rfl), (ga_tp 47 (by decide +kernel) rfl)⟩
abbrev mX11_isLikeDevice : ga_M0 := (yX11_isLikeDevice, cX11_isLikeDevice, 8, (some .boolean), [], none)
theorem fX11_isLikeDevice : ga_MF mX11_isLikeDevice 2 := ⟨(ga_t5 150 (by decide +kernel) rfl), (ga_t1 13 (by decide +kernel) rfl), ⟨by decide +kernel, by decide +kernel⟩, by decide +kernel, by decide⟩
theorem kX11_isLikeDevice : ga_MV mX11_isLikeDevice := ⟨(ga_t5 149 (by decide +kernel) rfl), (ga_tp 46 (by decide +kernel) rfl)⟩
abbrev mX11_pinsOfClass : ga_M0 := (yX11_pinsOfClass, cX11_pinsOfClass, 7, (some .int), [], none)
theorem fX11_pinsOfClass : ga_MF mX11_pinsOfClass 3 := ⟨(ga_t5 162 (by decide +kernel) rfl), (ga_t1 13 (by decide +kernel) rfl), ⟨by decide +kernel, by decide +kernel⟩, by decide +kernel, by decide⟩
theorem kX11_pinsOfClass : ga_MV mX11_pinsOfClass := ⟨(ga_t5 161 (by decide +kernel) rfl), (ga_tp 49 (by decide +kernel) rfl)⟩
abbrev mX11_isLikeNet : ga_M0 := (yX11_isLikeNet, cX11_isLikeNet, 7, (some .boolean), [], none)
theorem fX11_isLikeNet : ga_MF mX11_isLikeNet 2 := ⟨(ga_t5 158 (by decide +kernel) rfl), (ga_t1 13 (by decide +kernel) rfl), ⟨by decide +kernel, by decide +kernel⟩, by decide +kernel, by decide⟩
theorem kX11_isLikeNet : ga_MV mX11_isLikeNet := ⟨(ga_t5 157 (by decide +kernel) rfl), (ga_tp 48 (by decide +kernel) rfl)⟩
abbrev mX11_isLive : ga_M0 := (yX11_isLive, cX11_isLive, 2, (some .boolean), [], none)
theorem fX11_isLive : ga_MF mX11_isLive 1 := ⟨(ga_t5 130 (by decide +kernel) rfl), (ga_t1 13 (by decide +kernel) rfl), ⟨by decide +kernel, by decide +kernel⟩, by decide +kernel, by decide⟩
theorem kX11_isLive : ga_MV mX11_isLive := ⟨(ga_t5 129 (by decide +kernel) rfl), (ga_tp 41 (by decide +kernel) rfl)⟩
abbrev mX11_isUsedAt : ga_M0 := (yX11_isUsedAt, cX11_isUsedAt, 2, (some .boolean), [], none)
theorem fX11_isUsedAt : ga_MF mX11_isUsedAt 1 := ⟨(ga_t5 134 (by decide +kernel) rfl), (ga_t1 13 (by decide +kernel) rfl), ⟨by decide +kernel, by decide +kernel⟩, by decide +kernel, by decide⟩
theorem kX11_isUsedAt : ga_MV mX11_isUsedAt := ⟨(ga_t5 133 (by decide +kernel) rfl), (ga_tp 42 (by decide +kernel) rfl)⟩
abbrev mX11_round : ga_M0 := (yX11_round, cX11_round, 5, (some .int), [], none)
theorem fX11_round : ga_MF mX11_round 0 := ⟨(ga_t5 146 (by decide +kernel) rfl), (ga_t1 13 (by decide +kernel) rfl), ⟨by decide +kernel, by decide +kernel⟩, by decide +kernel, by decide⟩
theorem kX11_round : ga_MV mX11_round := ⟨(ga_t5 145 (by decide +kernel) rfl), (ga_tp 45 (by decide +kernel) rfl)⟩
abbrev mX11_take : ga_M0 := (yX11_take, cX11_take, 2, none, [], none)
theorem fX11_take : ga_MF mX11_take 0 := ⟨(ga_t5 142 (by decide +kernel) rfl), (ga_t1 13 (by decide +kernel) rfl), ⟨by decide +kernel, by decide +kernel⟩, by decide +kernel, by decide⟩
theorem kX11_take : ga_MV mX11_take := ⟨(ga_t5 141 (by decide +kernel) rfl), (ga_tp 44 (by decide +kernel) rfl)⟩
abbrev mX11_begin : ga_M0 := (yX11_begin, cX11_begin, 5, (some .int), [], none)
theorem fX11_begin : ga_MF mX11_begin 0 := ⟨(ga_t5 126 (by decide +kernel) rfl), (ga_t1 13 (by decide +kernel) rfl), ⟨by decide +kernel, by decide +kernel⟩, by decide +kernel, by decide⟩
theorem kX11_begin : ga_MV mX11_begin := ⟨(ga_t5 125 (by decide +kernel) rfl), (ga_tp 40 (by decide +kernel) rfl)⟩
abbrev mX11_refine : ga_M0 := (yX11_refine, cX11_refine, 6, none, [], none)
theorem fX11_refine : ga_MF mX11_refine 0 := ⟨(ga_t5 122 (by decide +kernel) rfl), (ga_t1 13 (by decide +kernel) rfl), ⟨by decide +kernel, by decide +kernel⟩, by decide +kernel, by decide⟩
theorem kX11_refine : ga_MV mX11_refine := ⟨(ga_t5 121 (by decide +kernel) rfl), (ga_tp 39 (by decide +kernel) rfl)⟩
abbrev mX11_isAgreed : ga_M0 := (yX11_isAgreed, cX11_isAgreed, 11, (some .boolean), [], none)
theorem fX11_isAgreed : ga_MF mX11_isAgreed 2 := ⟨(ga_t5 194 (by decide +kernel) rfl), (ga_t1 13 (by decide +kernel) rfl), ⟨by decide +kernel, by decide +kernel⟩, by decide +kernel, by decide⟩
theorem kX11_isAgreed : ga_MV mX11_isAgreed := ⟨(ga_t5 193 (by decide +kernel) rfl), (ga_tp 57 (by decide +kernel) rfl)⟩
abbrev mX11_isSameNet : ga_M0 := (yX11_isSameNet, cX11_isSameNet, 6, (some .boolean), [], none)
theorem fX11_isSameNet : ga_MF mX11_isSameNet 3 := ⟨(ga_t6 18 (by decide +kernel) rfl), (ga_t1 13 (by decide +kernel) rfl), ⟨by decide +kernel, by decide +kernel⟩, by decide +kernel, by decide⟩
theorem kX11_isSameNet : ga_MV mX11_isSameNet := ⟨(ga_t6 17 (by decide +kernel) rfl), (ga_tp 67 (by decide +kernel) rfl)⟩
abbrev mX11_sortFirst : ga_M0 := (yX11_sortFirst, cX11_sortFirst, 3, none, [], none)
theorem fX11_sortFirst : ga_MF mX11_sortFirst 0 := ⟨(ga_t5 182 (by decide +kernel) rfl), (ga_t1 13 (by decide +kernel) rfl), ⟨by decide +kernel, by decide +kernel⟩, by decide +kernel, by decide⟩
theorem kX11_sortFirst : ga_MV mX11_sortFirst := ⟨(ga_t5 181 (by decide +kernel) rfl), (ga_tp 54 (by decide +kernel) rfl)⟩
abbrev mX11_touch : ga_M0 := (yX11_touch, cX11_touch, 5, (some .int), [], none)
theorem fX11_touch : ga_MF mX11_touch 2 := ⟨(ga_t5 202 (by decide +kernel) rfl), (ga_t1 13 (by decide +kernel) rfl), ⟨by decide +kernel, by decide +kernel⟩, by decide +kernel, by decide⟩
theorem kX11_touch : ga_MV mX11_touch := ⟨(ga_t5 201 (by decide +kernel) rfl), (ga_tp 59 (by decide +kernel) rfl)⟩
abbrev mX11_isSorted : ga_M0 := (yX11_isSorted, cX11_isSorted, 8, (some .boolean), [], none)
theorem fX11_isSorted : ga_MF mX11_isSorted 3 := ⟨(ga_t5 198 (by decide +kernel) rfl), (ga_t1 13 (by decide +kernel) rfl), ⟨by decide +kernel, by decide +kernel⟩, by decide +kernel, by decide⟩
theorem kX11_isSorted : ga_MV mX11_isSorted := ⟨(ga_t5 197 (by decide +kernel) rfl), (ga_tp 58 (by decide +kernel) rfl)⟩
abbrev mX11_pairNets : ga_M0 := (yX11_pairNets, cX11_pairNets, 4, none, [], none)
theorem fX11_pairNets : ga_MF mX11_pairNets 1 := ⟨(ga_t5 206 (by decide +kernel) rfl), (ga_t1 13 (by decide +kernel) rfl), ⟨by decide +kernel, by decide +kernel⟩, by decide +kernel, by decide⟩
theorem kX11_pairNets : ga_MV mX11_pairNets := ⟨(ga_t5 205 (by decide +kernel) rfl), (ga_tp 60 (by decide +kernel) rfl)⟩
abbrev mX11_isFree : ga_M0 := (yX11_isFree, cX11_isFree, 4, (some .boolean), [], none)
theorem fX11_isFree : ga_MF mX11_isFree 2 := ⟨(ga_t5 190 (by decide +kernel) rfl), (ga_t1 13 (by decide +kernel) rfl), ⟨by decide +kernel, by decide +kernel⟩, by decide +kernel, by decide⟩
theorem kX11_isFree : ga_MV mX11_isFree := ⟨(ga_t5 189 (by decide +kernel) rfl), (ga_tp 56 (by decide +kernel) rfl)⟩
abbrev mX11_isChoice : ga_M0 := (yX11_isChoice, cX11_isChoice, 4, (some .boolean), [], none)
theorem fX11_isChoice : ga_MF mX11_isChoice 1 := ⟨(ga_t5 186 (by decide +kernel) rfl), (ga_t1 13 (by decide +kernel) rfl), ⟨by decide +kernel, by decide +kernel⟩, by decide +kernel, by decide⟩
theorem kX11_isChoice : ga_MV mX11_isChoice := ⟨(ga_t5 185 (by decide +kernel) rfl), (ga_tp 55 (by decide +kernel) rfl)⟩
abbrev mX11_isNamed : ga_M0 := (yX11_isNamed, cX11_isNamed, 4, (some .boolean), [], none)
theorem fX11_isNamed : ga_MF mX11_isNamed 0 := ⟨(ga_t5 174 (by decide +kernel) rfl), (ga_t1 13 (by decide +kernel) rfl), ⟨by decide +kernel, by decide +kernel⟩, by decide +kernel, by decide⟩
theorem kX11_isNamed : ga_MV mX11_isNamed := ⟨(ga_t5 173 (by decide +kernel) rfl), (ga_tp 52 (by decide +kernel) rfl)⟩
abbrev mX11_isMatched : ga_M0 := (yX11_isMatched, cX11_isMatched, 2, (some .boolean), [], none)
theorem fX11_isMatched : ga_MF mX11_isMatched 0 := ⟨(ga_t5 166 (by decide +kernel) rfl), (ga_t1 13 (by decide +kernel) rfl), ⟨by decide +kernel, by decide +kernel⟩, by decide +kernel, by decide⟩
theorem kX11_isMatched : ga_MV mX11_isMatched := ⟨(ga_t5 165 (by decide +kernel) rfl), (ga_tp 50 (by decide +kernel) rfl)⟩
abbrev mX11_used : ga_M0 := (yX11_used, cX11_used, 4, (some .int), [], none)
theorem fX11_used : ga_MF mX11_used 1 := ⟨(ga_t5 170 (by decide +kernel) rfl), (ga_t1 13 (by decide +kernel) rfl), ⟨by decide +kernel, by decide +kernel⟩, by decide +kernel, by decide⟩
theorem kX11_used : ga_MV mX11_used := ⟨(ga_t5 169 (by decide +kernel) rfl), (ga_tp 51 (by decide +kernel) rfl)⟩
abbrev mX11_keep : ga_M0 := (yX11_keep, cX11_keep, 2, none, [], none)
theorem fX11_keep : ga_MF mX11_keep 0 := ⟨(ga_t5 210 (by decide +kernel) rfl), (ga_t1 13 (by decide +kernel) rfl), ⟨by decide +kernel, by decide +kernel⟩, by decide +kernel, by decide⟩
theorem kX11_keep : ga_MV mX11_keep := ⟨(ga_t5 209 (by decide +kernel) rfl), (ga_tp 61 (by decide +kernel) rfl)⟩
abbrev mX11_differ : ga_M0 := (yX11_differ, cX11_differ, 6, none, [], none)
theorem fX11_differ : ga_MF mX11_differ 4 := ⟨(ga_t5 222 (by decide +kernel) rfl), (ga_t1 13 (by decide +kernel) rfl), ⟨by decide +kernel, by decide +kernel⟩, by decide +kernel, by decide⟩
theorem kX11_differ : ga_MV mX11_differ := ⟨(ga_t5 221 (by decide +kernel) rfl), (ga_tp 64 (by decide +kernel) rfl)⟩
abbrev mX11_ofKind : ga_M0 := (yX11_ofKind, cX11_ofKind, 5, (some .int), [], none)
theorem fX11_ofKind : ga_MF mX11_ofKind 2 := ⟨(ga_t5 218 (by decide +kernel) rfl), (ga_t1 13 (by decide +kernel) rfl), ⟨by decide +kernel, by decide +kernel⟩, by decide +kernel, by decide⟩
theorem kX11_ofKind : ga_MV mX11_ofKind := ⟨(ga_t5 217 (by decide +kernel) rfl), (ga_tp 63 (by decide +kernel) rfl)⟩
abbrev mX11_hasName : ga_M0 := (yX11_hasName, cX11_hasName, 5, (some .boolean), [], none)
theorem fX11_hasName : ga_MF mX11_hasName 2 := ⟨(ga_t5 178 (by decide +kernel) rfl), (ga_t1 13 (by decide +kernel) rfl), ⟨by decide +kernel, by decide +kernel⟩, by decide +kernel, by decide⟩
theorem kX11_hasName : ga_MV mX11_hasName := ⟨(ga_t5 177 (by decide +kernel) rfl), (ga_tp 53 (by decide +kernel) rfl)⟩
abbrev mX11_differNames : ga_M0 := (yX11_differNames, cX11_differNames, 6, none, [], none)
theorem fX11_differNames : ga_MF mX11_differNames 0 := ⟨(ga_t5 226 (by decide +kernel) rfl), (ga_t1 13 (by decide +kernel) rfl), ⟨by decide +kernel, by decide +kernel⟩, by decide +kernel, by decide⟩
theorem kX11_differNames : ga_MV mX11_differNames := ⟨(ga_t5 225 (by decide +kernel) rfl), (ga_tp 65 (by decide +kernel) rfl)⟩
abbrev mX11_ofClass : ga_M0 := (yX11_ofClass, cX11_ofClass, 5, (some .int), [], none)
theorem fX11_ofClass : ga_MF mX11_ofClass 2 := ⟨(ga_t5 230 (by decide +kernel) rfl), (ga_t1 13 (by decide +kernel) rfl), ⟨by decide +kernel, by decide +kernel⟩, by decide +kernel, by decide⟩
theorem kX11_ofClass : ga_MV mX11_ofClass := ⟨(ga_t5 229 (by decide +kernel) rfl), (ga_tp 66 (by decide +kernel) rfl)⟩
abbrev mX11_explain : ga_M0 := (yX11_explain, cX11_explain, 2, none, [], none)
theorem fX11_explain : ga_MF mX11_explain 0 := ⟨(ga_t5 214 (by decide +kernel) rfl), (ga_t1 13 (by decide +kernel) rfl), ⟨by decide +kernel, by decide +kernel⟩, by decide +kernel, by decide⟩
theorem kX11_explain : ga_MV mX11_explain := ⟨(ga_t5 213 (by decide +kernel) rfl), (ga_tp 62 (by decide +kernel) rfl)⟩
abbrev mX11_run : ga_M0 := (yX11_run, cX11_run, 6, (some .int), [], none)
theorem fX11_run : ga_MF mX11_run 1 := ⟨(ga_t5 117 (by decide +kernel) rfl), (ga_t1 13 (by decide +kernel) rfl), ⟨by decide +kernel, by decide +kernel⟩, by decide +kernel, by decide⟩
theorem kX11_run : ga_MV mX11_run := ⟨(ga_t5 115 (by decide +kernel) rfl), (ga_t5 116 (by decide +kernel) rfl)⟩
abbrev mX11_match : ga_M0 := (yX11_match, cX11_match, 3, (some .int), [], none)
theorem fX11_match : ga_MF mX11_match 2 := ⟨(ga_t5 234 (by decide +kernel) rfl), (ga_t1 13 (by decide +kernel) rfl), ⟨by decide +kernel, by decide +kernel⟩, by decide +kernel, by decide⟩
theorem kX11_match : ga_MV mX11_match := ⟨(ga_t5 232 (by decide +kernel) rfl), (ga_t5 233 (by decide +kernel) rfl)⟩
abbrev mX11_netMatch : ga_M0 := (yX11_netMatch, cX11_netMatch, 2, (some .int), [], none)
theorem fX11_netMatch : ga_MF mX11_netMatch 1 := ⟨(ga_t5 238 (by decide +kernel) rfl), (ga_t1 13 (by decide +kernel) rfl), ⟨by decide +kernel, by decide +kernel⟩, by decide +kernel, by decide⟩
theorem kX11_netMatch : ga_MV mX11_netMatch := ⟨(ga_t5 236 (by decide +kernel) rfl), (ga_t5 237 (by decide +kernel) rfl)⟩
abbrev mX11_differs : ga_M0 := (yX11_differs, cX11_differs, 3, (some .int), [], none)
theorem fX11_differs : ga_MF mX11_differs 2 := ⟨(ga_t6 2 (by decide +kernel) rfl), (ga_t1 13 (by decide +kernel) rfl), ⟨by decide +kernel, by decide +kernel⟩, by decide +kernel, by decide⟩
theorem kX11_differs : ga_MV mX11_differs := ⟨(ga_t6 0 (by decide +kernel) rfl), (ga_t6 1 (by decide +kernel) rfl)⟩
abbrev mX11_rounds : ga_M0 := (yX11_rounds, cX11_rounds, 1, (some .int), [], none)
theorem fX11_rounds : ga_MF mX11_rounds 0 := ⟨(ga_t6 6 (by decide +kernel) rfl), (ga_t1 13 (by decide +kernel) rfl), ⟨by decide +kernel, by decide +kernel⟩, by decide +kernel, by decide⟩
theorem kX11_rounds : ga_MV mX11_rounds := ⟨(ga_t6 4 (by decide +kernel) rfl), (ga_t6 5 (by decide +kernel) rfl)⟩
abbrev mX11_tried : ga_M0 := (yX11_tried, cX11_tried, 1, (some .int), [], none)
theorem fX11_tried : ga_MF mX11_tried 0 := ⟨(ga_t6 10 (by decide +kernel) rfl), (ga_t1 13 (by decide +kernel) rfl), ⟨by decide +kernel, by decide +kernel⟩, by decide +kernel, by decide⟩
theorem kX11_tried : ga_MV mX11_tried := ⟨(ga_t6 8 (by decide +kernel) rfl), (ga_t6 9 (by decide +kernel) rfl)⟩
abbrev mX11_tested : ga_M0 := (yX11_tested, cX11_tested, 4, (some .boolean), [], none)
theorem fX11_tested : ga_MF mX11_tested 0 := ⟨(ga_t6 14 (by decide +kernel) rfl), (ga_t1 13 (by decide +kernel) rfl), ⟨by decide +kernel, by decide +kernel⟩, by decide +kernel, by decide⟩
theorem kX11_tested : ga_MV mX11_tested := ⟨(ga_t6 12 (by decide +kernel) rfl), (ga_t6 13 (by decide +kernel) rfl)⟩
abbrev mJ9_min_7cf53 : ga_M0 := (yJ9_min_7cf53, cJ9_min_7cf53, 2, (some .int), [], none)
theorem fJ9_min_7cf53 : ga_MF mJ9_min_7cf53 2 := ⟨(ga_t3 106 (by decide +kernel) rfl), (ga_t1 20 (by decide +kernel) rfl), ⟨by decide +kernel, by decide +kernel⟩, by decide +kernel, by decide⟩
theorem kJ9_min_7cf53 : ga_MS mJ9_min_7cf53 := (ga_t3 105 (by decide +kernel) rfl)
abbrev mJ7_fill_53178 : ga_M0 := (yJ7_fill_53178, cJ7_fill_53178, 4, none, [], none)
theorem fJ7_fill_53178 : ga_MF mJ7_fill_53178 2 := ⟨(ga_t1 43 (by decide +kernel) rfl), (ga_t1 4 (by decide +kernel) rfl), ⟨by decide +kernel, by decide +kernel⟩, by decide +kernel, by decide⟩
theorem kJ7_fill_53178 : ga_MS mJ7_fill_53178 := (ga_t1 42 (by decide +kernel) rfl)
abbrev mL_net : ga_M0 := (yL_net, cL_net, 5, (some .int), [(0, 10, 13, 13), (0, 10, 17, 15), (0, 10, 21, 17)], none)
theorem fL_net : ga_MF mL_net 4 := ⟨(ga_t2 170 (by decide +kernel) rfl), (ga_t1 0 (by decide +kernel) rfl), ⟨by decide +kernel, by decide +kernel⟩, by decide +kernel, by decide⟩
theorem kL_net : ga_MS mL_net := (ga_t2 169 (by decide +kernel) rfl)
abbrev mL_device : ga_M0 := (yL_device, cL_device, 7, (some .int), [(0, 12, 15, 13), (0, 12, 19, 15), (0, 12, 23, 17)], none)
theorem fL_device : ga_MF mL_device 5 := ⟨(ga_t3 52 (by decide +kernel) rfl), (ga_t1 0 (by decide +kernel) rfl), ⟨by decide +kernel, by decide +kernel⟩, by decide +kernel, by decide⟩
theorem kL_device : ga_MS mL_device := (ga_t3 51 (by decide +kernel) rfl)
abbrev mL_pin : ga_M0 := (yL_pin, cL_pin, 7, (some .int), [(0, 21, 24, 13)], none)
theorem fL_pin : ga_MF mL_pin 6 := ⟨(ga_t3 70 (by decide +kernel) rfl), (ga_t1 0 (by decide +kernel) rfl), ⟨by decide +kernel, by decide +kernel⟩, by decide +kernel, by decide⟩
theorem kL_pin : ga_MS mL_pin := (ga_t3 69 (by decide +kernel) rfl)
abbrev mL_swap : ga_M0 := (yL_swap, cL_swap, 6, (some .int), [(0, 19, 22, 13)], none)
theorem fL_swap : ga_MF mL_swap 5 := ⟨(ga_t3 95 (by decide +kernel) rfl), (ga_t1 0 (by decide +kernel) rfl), ⟨by decide +kernel, by decide +kernel⟩, by decide +kernel, by decide⟩
theorem kL_swap : ga_MS mL_swap := (ga_t3 94 (by decide +kernel) rfl)
abbrev mL_share : ga_M0 := (yL_share, cL_share, 6, (some .int), [(0, 18, 21, 13), (0, 18, 25, 17)], none)
theorem fL_share : ga_MF mL_share 4 := ⟨(ga_t3 109 (by decide +kernel) rfl), (ga_t1 0 (by decide +kernel) rfl), ⟨by decide +kernel, by decide +kernel⟩, by decide +kernel, by decide⟩
theorem kL_share : ga_MS mL_share := (ga_t3 108 (by decide +kernel) rfl)
abbrev mL_port : ga_M0 := (yL_port, cL_port, 6, (some .int), [(0, 19, 22, 13), (0, 19, 26, 17)], none)
theorem fL_port : ga_MF mL_port 5 := ⟨(ga_t3 121 (by decide +kernel) rfl), (ga_t1 0 (by decide +kernel) rfl), ⟨by decide +kernel, by decide +kernel⟩, by decide +kernel, by decide⟩
theorem kL_port : ga_MS mL_port := (ga_t3 120 (by decide +kernel) rfl)
abbrev mL_join : ga_M0 := (yL_join, cL_join, 5, (some .int), [(0, 10, 13, 13), (0, 10, 17, 17)], none)
theorem fL_join : ga_MF mL_join 4 := ⟨(ga_t3 137 (by decide +kernel) rfl), (ga_t1 0 (by decide +kernel) rfl), ⟨by decide +kernel, by decide +kernel⟩, by decide +kernel, by decide⟩
theorem kL_join : ga_MS mL_join := (ga_t3 136 (by decide +kernel) rfl)
abbrev mL_run : ga_M0 := (yL_run, cL_run, 5, (some .int), [(0, 9, 12, 17)], none)
theorem fL_run : ga_MF mL_run 3 := ⟨(ga_t3 191 (by decide +kernel) rfl), (ga_t1 0 (by decide +kernel) rfl), ⟨by decide +kernel, by decide +kernel⟩, by decide +kernel, by decide⟩
theorem kL_run : ga_MS mL_run := (ga_t3 190 (by decide +kernel) rfl)
abbrev mL_match : ga_M0 := (yL_match, cL_match, 5, (some .int), [(0, 10, 13, 13)], none)
theorem fL_match : ga_MF mL_match 4 := ⟨(ga_t4 148 (by decide +kernel) rfl), (ga_t1 0 (by decide +kernel) rfl), ⟨by decide +kernel, by decide +kernel⟩, by decide +kernel, by decide⟩
theorem kL_match : ga_MS mL_match := (ga_t4 147 (by decide +kernel) rfl)
abbrev mL_netMatch : ga_M0 := (yL_netMatch, cL_netMatch, 4, (some .int), [(0, 9, 12, 13)], none)
theorem fL_netMatch : ga_MF mL_netMatch 3 := ⟨(ga_t4 155 (by decide +kernel) rfl), (ga_t1 0 (by decide +kernel) rfl), ⟨by decide +kernel, by decide +kernel⟩, by decide +kernel, by decide⟩
theorem kL_netMatch : ga_MS mL_netMatch := (ga_t4 154 (by decide +kernel) rfl)
abbrev mL_differs : ga_M0 := (yL_differs, cL_differs, 5, (some .int), [(0, 10, 13, 13)], none)
theorem fL_differs : ga_MF mL_differs 4 := ⟨(ga_t4 162 (by decide +kernel) rfl), (ga_t1 0 (by decide +kernel) rfl), ⟨by decide +kernel, by decide +kernel⟩, by decide +kernel, by decide⟩
theorem kL_differs : ga_MS mL_differs := (ga_t4 161 (by decide +kernel) rfl)
theorem nsL_8 : ga_NS RL 8 10 8 [Vn, Vn, Vn, Vn, Vn, Vn, Vi 0, Vi 0] := ⟨RX10, TX10, tyX10, rfl, uwX10, tyX10_ok, (ga_t1 21 (by decide +kernel) rfl), (ga_t1 22 (by decide +kernel) rfl), (ga_t1 1 (by decide +kernel) rfl), (by intro v hv; simp only [List.mem_cons, List.not_mem_nil, or_false] at hv; rcases hv with rfl | rfl | rfl | rfl | rfl | rfl | rfl | rfl <;> first | exact ga_in0 | exact ga_inL0 | trivial), fun ad j hj => by
  rcases Nat.lt_or_ge j 1 with q | q
  · obtain rfl : j = 0 := by omega
    rfl
  rcases Nat.lt_or_ge j 2 with q | q
  · obtain rfl : j = 1 := by omega
    rfl
  rcases Nat.lt_or_ge j 3 with q | q
  · obtain rfl : j = 2 := by omega
    rfl
  rcases Nat.lt_or_ge j 4 with q | q
  · obtain rfl : j = 3 := by omega
    rfl
  rcases Nat.lt_or_ge j 5 with q | q
  · obtain rfl : j = 4 := by omega
    rfl
  rcases Nat.lt_or_ge j 6 with q | q
  · obtain rfl : j = 5 := by omega
    rfl
  rcases Nat.lt_or_ge j 7 with q | q
  · obtain rfl : j = 6 := by omega
    rfl
  rcases Nat.lt_or_ge j 8 with q | q
  · obtain rfl : j = 7 := by omega
    rfl
  omega⟩
theorem lkL_55 : Cond.methodLink RL 55 yX10_init ∈ ga_big := (ga_t1 23 (by decide +kernel) rfl)
theorem lkX10_1 : Cond.methodLink RX10 1 Lib.objectInit ∈ ga_big := (ga_t1 26 (by decide +kernel) rfl)
theorem nsX10_7 : ga_NS RX10 7 1 3 [Vn, Vn, Vn] := ⟨RX1, TX1, tyX1, rfl, uwX1, tyX1_ok, (ga_t1 29 (by decide +kernel) rfl), (ga_t1 30 (by decide +kernel) rfl), (ga_t1 2 (by decide +kernel) rfl), (by intro v hv; simp only [List.mem_cons, List.not_mem_nil, or_false] at hv; rcases hv with rfl | rfl | rfl <;> first | exact ga_in0 | exact ga_inL0 | trivial), fun ad j hj => by
  rcases Nat.lt_or_ge j 1 with q | q
  · obtain rfl : j = 0 := by omega
    rfl
  rcases Nat.lt_or_ge j 2 with q | q
  · obtain rfl : j = 1 := by omega
    rfl
  rcases Nat.lt_or_ge j 3 with q | q
  · obtain rfl : j = 2 := by omega
    rfl
  omega⟩
theorem lkX10_9 : Cond.methodLinkNest RX10 9 yX1_init "GraphCompare" ∈ ga_big := (ga_t1 31 (by decide +kernel) rfl)
theorem lkX1_3 : Cond.methodLink RX1 3 Lib.objectInit ∈ ga_big := (ga_t1 34 (by decide +kernel) rfl)
theorem nsX1_9 : ga_NS RX1 9 9 8 [Vi 0, Vn, Vn, Vi 0, Vn, Vn, Vn, Vn] := ⟨RX9, TX9, tyX9, rfl, uwX9, tyX9_ok, (ga_t1 35 (by decide +kernel) rfl), (ga_t1 36 (by decide +kernel) rfl), (ga_t1 3 (by decide +kernel) rfl), (by intro v hv; simp only [List.mem_cons, List.not_mem_nil, or_false] at hv; rcases hv with rfl | rfl | rfl | rfl | rfl | rfl | rfl | rfl <;> first | exact ga_in0 | exact ga_inL0 | trivial), fun ad j hj => by
  rcases Nat.lt_or_ge j 1 with q | q
  · obtain rfl : j = 0 := by omega
    rfl
  rcases Nat.lt_or_ge j 2 with q | q
  · obtain rfl : j = 1 := by omega
    rfl
  rcases Nat.lt_or_ge j 3 with q | q
  · obtain rfl : j = 2 := by omega
    rfl
  rcases Nat.lt_or_ge j 4 with q | q
  · obtain rfl : j = 3 := by omega
    rfl
  rcases Nat.lt_or_ge j 5 with q | q
  · obtain rfl : j = 4 := by omega
    rfl
  rcases Nat.lt_or_ge j 6 with q | q
  · obtain rfl : j = 5 := by omega
    rfl
  rcases Nat.lt_or_ge j 7 with q | q
  · obtain rfl : j = 6 := by omega
    rfl
  rcases Nat.lt_or_ge j 8 with q | q
  · obtain rfl : j = 7 := by omega
    rfl
  omega⟩
theorem lkX1_11 : Cond.methodLink RX1 11 yX9_init ∈ ga_big := (ga_t1 37 (by decide +kernel) rfl)
theorem lkX9_3 : Cond.methodLink RX9 3 Lib.objectInit ∈ ga_big := (ga_t1 40 (by decide +kernel) rfl)
theorem lkX9_39 : Cond.methodLink RX9 39 yJ7_fill_53178 ∈ ga_big := (ga_t1 41 (by decide +kernel) rfl)
theorem grX9_9 : ga_FR RX9 9 9 0 .int := ⟨RX9, TX9, 8, "", rfl, by decide, uwX9, Or.inl (ga_t1 44 (by decide +kernel) rfl), rfl⟩
theorem gfX9_9 : ga_FS RX9 9 9 0 false .int := ⟨RX9, TX9, 8, tyX9, "", rfl, by decide, uwX9, tyX9_ok, nmX9, Or.inl (ga_t1 44 (by decide +kernel) rfl), rfl, rfl, (fun z => by cases z)⟩
theorem grX10_62 : ga_FR RX10 62 9 0 .int := ⟨RX9, TX9, 8, "GraphCompare", rfl, by decide, uwX9, Or.inr (ga_t1 45 (by decide +kernel) rfl), rfl⟩
theorem gfX10_62 : ga_FS RX10 62 9 0 false .int := ⟨RX9, TX9, 8, tyX9, "GraphCompare", rfl, by decide, uwX9, tyX9_ok, nmX9, Or.inr (ga_t1 45 (by decide +kernel) rfl), rfl, rfl, (fun z => by cases z)⟩
theorem grX8_83 : ga_FR RX8 83 9 0 .int := ⟨RX9, TX9, 8, "GraphCompare", rfl, by decide, uwX9, Or.inr (ga_t1 46 (by decide +kernel) rfl), rfl⟩
theorem gfX8_83 : ga_FS RX8 83 9 0 false .int := ⟨RX9, TX9, 8, tyX9, "GraphCompare", rfl, by decide, uwX9, tyX9_ok, nmX9, Or.inr (ga_t1 46 (by decide +kernel) rfl), rfl, rfl, (fun z => by cases z)⟩
theorem grX0_83 : ga_FR RX0 83 9 0 .int := ⟨RX9, TX9, 8, "GraphCompare", rfl, by decide, uwX9, Or.inr (ga_t1 47 (by decide +kernel) rfl), rfl⟩
theorem gfX0_83 : ga_FS RX0 83 9 0 false .int := ⟨RX9, TX9, 8, tyX9, "GraphCompare", rfl, by decide, uwX9, tyX9_ok, nmX9, Or.inr (ga_t1 47 (by decide +kernel) rfl), rfl, rfl, (fun z => by cases z)⟩
theorem grX5_67 : ga_FR RX5 67 9 0 .int := ⟨RX9, TX9, 8, "GraphCompare", rfl, by decide, uwX9, Or.inr (ga_t1 48 (by decide +kernel) rfl), rfl⟩
theorem gfX5_67 : ga_FS RX5 67 9 0 false .int := ⟨RX9, TX9, 8, tyX9, "GraphCompare", rfl, by decide, uwX9, tyX9_ok, nmX9, Or.inr (ga_t1 48 (by decide +kernel) rfl), rfl, rfl, (fun z => by cases z)⟩
theorem grX9_15 : ga_FR RX9 15 9 1 (.array .int) := ⟨RX9, TX9, 8, "", rfl, by decide, uwX9, Or.inl (ga_t1 49 (by decide +kernel) rfl), rfl⟩
theorem gfX9_15 : ga_FS RX9 15 9 1 true (.array .int) := ⟨RX9, TX9, 8, tyX9, "", rfl, by decide, uwX9, tyX9_ok, nmX9, Or.inl (ga_t1 49 (by decide +kernel) rfl), rfl, rfl, (fun z => ⟨rfl, (ga_t1 49 (by decide +kernel) rfl)⟩)⟩
theorem grX0_89 : ga_FR RX0 89 9 1 (.array .int) := ⟨RX9, TX9, 8, "GraphCompare", rfl, by decide, uwX9, Or.inr (ga_t1 50 (by decide +kernel) rfl), rfl⟩
theorem grX8_125 : ga_FR RX8 125 9 1 (.array .int) := ⟨RX9, TX9, 8, "GraphCompare", rfl, by decide, uwX9, Or.inr (ga_t1 51 (by decide +kernel) rfl), rfl⟩
theorem grX5_73 : ga_FR RX5 73 9 1 (.array .int) := ⟨RX9, TX9, 8, "GraphCompare", rfl, by decide, uwX9, Or.inr (ga_t1 52 (by decide +kernel) rfl), rfl⟩
theorem grX9_19 : ga_FR RX9 19 9 2 (.array .boolean) := ⟨RX9, TX9, 8, "", rfl, by decide, uwX9, Or.inl (ga_t1 53 (by decide +kernel) rfl), rfl⟩
theorem gfX9_19 : ga_FS RX9 19 9 2 true (.array .boolean) := ⟨RX9, TX9, 8, tyX9, "", rfl, by decide, uwX9, tyX9_ok, nmX9, Or.inl (ga_t1 53 (by decide +kernel) rfl), rfl, rfl, (fun z => ⟨rfl, (ga_t1 53 (by decide +kernel) rfl)⟩)⟩
theorem grX8_88 : ga_FR RX8 88 9 2 (.array .boolean) := ⟨RX9, TX9, 8, "GraphCompare", rfl, by decide, uwX9, Or.inr (ga_t1 54 (by decide +kernel) rfl), rfl⟩
theorem grX0_86 : ga_FR RX0 86 9 2 (.array .boolean) := ⟨RX9, TX9, 8, "GraphCompare", rfl, by decide, uwX9, Or.inr (ga_t1 55 (by decide +kernel) rfl), rfl⟩
theorem grX5_70 : ga_FR RX5 70 9 2 (.array .boolean) := ⟨RX9, TX9, 8, "GraphCompare", rfl, by decide, uwX9, Or.inr (ga_t1 56 (by decide +kernel) rfl), rfl⟩
theorem grX9_23 : ga_FR RX9 23 9 3 .int := ⟨RX9, TX9, 8, "", rfl, by decide, uwX9, Or.inl (ga_t1 57 (by decide +kernel) rfl), rfl⟩
theorem gfX9_23 : ga_FS RX9 23 9 3 false .int := ⟨RX9, TX9, 8, tyX9, "", rfl, by decide, uwX9, tyX9_ok, nmX9, Or.inl (ga_t1 57 (by decide +kernel) rfl), rfl, rfl, (fun z => by cases z)⟩
theorem grX3_23 : ga_FR RX3 23 9 3 .int := ⟨RX9, TX9, 8, "GraphCompare", rfl, by decide, uwX9, Or.inr (ga_t1 58 (by decide +kernel) rfl), rfl⟩
theorem gfX3_23 : ga_FS RX3 23 9 3 false .int := ⟨RX9, TX9, 8, tyX9, "GraphCompare", rfl, by decide, uwX9, tyX9_ok, nmX9, Or.inr (ga_t1 58 (by decide +kernel) rfl), rfl, rfl, (fun z => by cases z)⟩
theorem grX10_92 : ga_FR RX10 92 9 3 .int := ⟨RX9, TX9, 8, "GraphCompare", rfl, by decide, uwX9, Or.inr (ga_t1 59 (by decide +kernel) rfl), rfl⟩
theorem gfX10_92 : ga_FS RX10 92 9 3 false .int := ⟨RX9, TX9, 8, tyX9, "GraphCompare", rfl, by decide, uwX9, tyX9_ok, nmX9, Or.inr (ga_t1 59 (by decide +kernel) rfl), rfl, rfl, (fun z => by cases z)⟩
theorem grX0_58 : ga_FR RX0 58 9 3 .int := ⟨RX9, TX9, 8, "GraphCompare", rfl, by decide, uwX9, Or.inr (ga_t1 60 (by decide +kernel) rfl), rfl⟩
theorem gfX0_58 : ga_FS RX0 58 9 3 false .int := ⟨RX9, TX9, 8, tyX9, "GraphCompare", rfl, by decide, uwX9, tyX9_ok, nmX9, Or.inr (ga_t1 60 (by decide +kernel) rfl), rfl, rfl, (fun z => by cases z)⟩
theorem grX8_113 : ga_FR RX8 113 9 3 .int := ⟨RX9, TX9, 8, "GraphCompare", rfl, by decide, uwX9, Or.inr (ga_t1 61 (by decide +kernel) rfl), rfl⟩
theorem gfX8_113 : ga_FS RX8 113 9 3 false .int := ⟨RX9, TX9, 8, tyX9, "GraphCompare", rfl, by decide, uwX9, tyX9_ok, nmX9, Or.inr (ga_t1 61 (by decide +kernel) rfl), rfl, rfl, (fun z => by cases z)⟩
theorem grX5_57 : ga_FR RX5 57 9 3 .int := ⟨RX9, TX9, 8, "GraphCompare", rfl, by decide, uwX9, Or.inr (ga_t1 62 (by decide +kernel) rfl), rfl⟩
theorem gfX5_57 : ga_FS RX5 57 9 3 false .int := ⟨RX9, TX9, 8, tyX9, "GraphCompare", rfl, by decide, uwX9, tyX9_ok, nmX9, Or.inr (ga_t1 62 (by decide +kernel) rfl), rfl, rfl, (fun z => by cases z)⟩
theorem grX2_70 : ga_FR RX2 70 9 3 .int := ⟨RX9, TX9, 8, "GraphCompare", rfl, by decide, uwX9, Or.inr (ga_t1 63 (by decide +kernel) rfl), rfl⟩
theorem gfX2_70 : ga_FS RX2 70 9 3 false .int := ⟨RX9, TX9, 8, tyX9, "GraphCompare", rfl, by decide, uwX9, tyX9_ok, nmX9, Or.inr (ga_t1 63 (by decide +kernel) rfl), rfl, rfl, (fun z => by cases z)⟩
theorem grX9_26 : ga_FR RX9 26 9 4 (.array .int) := ⟨RX9, TX9, 8, "", rfl, by decide, uwX9, Or.inl (ga_t1 64 (by decide +kernel) rfl), rfl⟩
theorem gfX9_26 : ga_FS RX9 26 9 4 true (.array .int) := ⟨RX9, TX9, 8, tyX9, "", rfl, by decide, uwX9, tyX9_ok, nmX9, Or.inl (ga_t1 64 (by decide +kernel) rfl), rfl, rfl, (fun z => ⟨rfl, (ga_t1 64 (by decide +kernel) rfl)⟩)⟩
theorem grX6_31 : ga_FR RX6 31 9 4 (.array .int) := ⟨RX9, TX9, 8, "GraphCompare", rfl, by decide, uwX9, Or.inr (ga_t1 65 (by decide +kernel) rfl), rfl⟩
theorem grX3_51 : ga_FR RX3 51 9 4 (.array .int) := ⟨RX9, TX9, 8, "GraphCompare", rfl, by decide, uwX9, Or.inr (ga_t1 66 (by decide +kernel) rfl), rfl⟩
theorem grX0_77 : ga_FR RX0 77 9 4 (.array .int) := ⟨RX9, TX9, 8, "GraphCompare", rfl, by decide, uwX9, Or.inr (ga_t1 67 (by decide +kernel) rfl), rfl⟩
theorem grX4_33 : ga_FR RX4 33 9 4 (.array .int) := ⟨RX9, TX9, 8, "GraphCompare", rfl, by decide, uwX9, Or.inr (ga_t1 68 (by decide +kernel) rfl), rfl⟩
theorem grX8_142 : ga_FR RX8 142 9 4 (.array .int) := ⟨RX9, TX9, 8, "GraphCompare", rfl, by decide, uwX9, Or.inr (ga_t1 69 (by decide +kernel) rfl), rfl⟩
theorem grX5_80 : ga_FR RX5 80 9 4 (.array .int) := ⟨RX9, TX9, 8, "GraphCompare", rfl, by decide, uwX9, Or.inr (ga_t1 70 (by decide +kernel) rfl), rfl⟩
theorem grX9_29 : ga_FR RX9 29 9 5 (.array .double) := ⟨RX9, TX9, 8, "", rfl, by decide, uwX9, Or.inl (ga_t1 71 (by decide +kernel) rfl), rfl⟩
theorem gfX9_29 : ga_FS RX9 29 9 5 true (.array .double) := ⟨RX9, TX9, 8, tyX9, "", rfl, by decide, uwX9, tyX9_ok, nmX9, Or.inl (ga_t1 71 (by decide +kernel) rfl), rfl, rfl, (fun z => ⟨rfl, (ga_t1 71 (by decide +kernel) rfl)⟩)⟩
theorem grX3_70 : ga_FR RX3 70 9 5 (.array .double) := ⟨RX9, TX9, 8, "GraphCompare", rfl, by decide, uwX9, Or.inr (ga_t1 72 (by decide +kernel) rfl), rfl⟩
theorem grX8_138 : ga_FR RX8 138 9 5 (.array .double) := ⟨RX9, TX9, 8, "GraphCompare", rfl, by decide, uwX9, Or.inr (ga_t1 73 (by decide +kernel) rfl), rfl⟩
theorem grX5_87 : ga_FR RX5 87 9 5 (.array .double) := ⟨RX9, TX9, 8, "GraphCompare", rfl, by decide, uwX9, Or.inr (ga_t1 74 (by decide +kernel) rfl), rfl⟩
theorem grX9_33 : ga_FR RX9 33 9 6 (.array .boolean) := ⟨RX9, TX9, 8, "", rfl, by decide, uwX9, Or.inl (ga_t1 75 (by decide +kernel) rfl), rfl⟩
theorem gfX9_33 : ga_FS RX9 33 9 6 true (.array .boolean) := ⟨RX9, TX9, 8, tyX9, "", rfl, by decide, uwX9, tyX9_ok, nmX9, Or.inl (ga_t1 75 (by decide +kernel) rfl), rfl, rfl, (fun z => ⟨rfl, (ga_t1 75 (by decide +kernel) rfl)⟩)⟩
theorem grX0_63 : ga_FR RX0 63 9 6 (.array .boolean) := ⟨RX9, TX9, 8, "GraphCompare", rfl, by decide, uwX9, Or.inr (ga_t1 76 (by decide +kernel) rfl), rfl⟩
theorem grX10_108 : ga_FR RX10 108 9 6 (.array .boolean) := ⟨RX9, TX9, 8, "GraphCompare", rfl, by decide, uwX9, Or.inr (ga_t1 77 (by decide +kernel) rfl), rfl⟩
theorem grX3_43 : ga_FR RX3 43 9 6 (.array .boolean) := ⟨RX9, TX9, 8, "GraphCompare", rfl, by decide, uwX9, Or.inr (ga_t1 78 (by decide +kernel) rfl), rfl⟩
theorem grX8_114 : ga_FR RX8 114 9 6 (.array .boolean) := ⟨RX9, TX9, 8, "GraphCompare", rfl, by decide, uwX9, Or.inr (ga_t1 79 (by decide +kernel) rfl), rfl⟩
theorem grX5_63 : ga_FR RX5 63 9 6 (.array .boolean) := ⟨RX9, TX9, 8, "GraphCompare", rfl, by decide, uwX9, Or.inr (ga_t1 80 (by decide +kernel) rfl), rfl⟩
theorem grX2_73 : ga_FR RX2 73 9 6 (.array .boolean) := ⟨RX9, TX9, 8, "GraphCompare", rfl, by decide, uwX9, Or.inr (ga_t1 81 (by decide +kernel) rfl), rfl⟩
theorem grX9_36 : ga_FR RX9 36 9 7 (.array .int) := ⟨RX9, TX9, 8, "", rfl, by decide, uwX9, Or.inl (ga_t1 82 (by decide +kernel) rfl), rfl⟩
theorem gfX9_36 : ga_FS RX9 36 9 7 true (.array .int) := ⟨RX9, TX9, 8, tyX9, "", rfl, by decide, uwX9, tyX9_ok, nmX9, Or.inl (ga_t1 82 (by decide +kernel) rfl), rfl, rfl, (fun z => ⟨rfl, (ga_t1 82 (by decide +kernel) rfl)⟩)⟩
theorem nsX1_21 : ga_NS RX1 21 4 2 [Vn, Vn] := ⟨RX4, TX4, tyX4, rfl, uwX4, tyX4_ok, (ga_t1 103 (by decide +kernel) rfl), (ga_t1 104 (by decide +kernel) rfl), (ga_t1 5 (by decide +kernel) rfl), (by intro v hv; simp only [List.mem_cons, List.not_mem_nil, or_false] at hv; rcases hv with rfl | rfl <;> first | exact ga_in0 | exact ga_inL0 | trivial), fun ad j hj => by
  rcases Nat.lt_or_ge j 1 with q | q
  · obtain rfl : j = 0 := by omega
    rfl
  rcases Nat.lt_or_ge j 2 with q | q
  · obtain rfl : j = 1 := by omega
    rfl
  omega⟩
theorem lkX1_23 : Cond.methodLink RX1 23 yX4_init ∈ ga_big := (ga_t1 105 (by decide +kernel) rfl)
theorem lkX4_3 : Cond.methodLink RX4 3 Lib.objectInit ∈ ga_big := (ga_t1 108 (by decide +kernel) rfl)
theorem grX4_9 : ga_FR RX4 9 4 0 (.array .int) := ⟨RX4, TX4, 2, "", rfl, by decide, uwX4, Or.inl (ga_t1 109 (by decide +kernel) rfl), rfl⟩
theorem gfX4_9 : ga_FS RX4 9 4 0 true (.array .int) := ⟨RX4, TX4, 2, tyX4, "", rfl, by decide, uwX4, tyX4_ok, nmX4, Or.inl (ga_t1 109 (by decide +kernel) rfl), rfl, rfl, (fun z => ⟨rfl, (ga_t1 109 (by decide +kernel) rfl)⟩)⟩
theorem grX4_15 : ga_FR RX4 15 4 1 (.array .double) := ⟨RX4, TX4, 2, "", rfl, by decide, uwX4, Or.inl (ga_t1 110 (by decide +kernel) rfl), rfl⟩
theorem gfX4_15 : ga_FS RX4 15 4 1 true (.array .double) := ⟨RX4, TX4, 2, tyX4, "", rfl, by decide, uwX4, tyX4_ok, nmX4, Or.inl (ga_t1 110 (by decide +kernel) rfl), rfl, rfl, (fun z => ⟨rfl, (ga_t1 110 (by decide +kernel) rfl)⟩)⟩
theorem grX1_12 : ga_FR RX1 12 1 0 (.object "GraphCompare$Side") := ⟨RX1, TX1, 3, "", rfl, by decide, uwX1, Or.inl (ga_t1 116 (by decide +kernel) rfl), rfl⟩
theorem gfX1_12 : ga_FS RX1 12 1 0 true (.object "GraphCompare$Side") := ⟨RX1, TX1, 3, tyX1, "", rfl, by decide, uwX1, tyX1_ok, nmX1, Or.inl (ga_t1 116 (by decide +kernel) rfl), rfl, rfl, (fun z => ⟨rfl, (ga_t1 116 (by decide +kernel) rfl)⟩)⟩
theorem grX0_42 : ga_FR RX0 42 1 0 (.object "GraphCompare$Side") := ⟨RX1, TX1, 3, "GraphCompare", rfl, by decide, uwX1, Or.inr (ga_t1 117 (by decide +kernel) rfl), rfl⟩
theorem grX8_77 : ga_FR RX8 77 1 0 (.object "GraphCompare$Side") := ⟨RX1, TX1, 3, "GraphCompare", rfl, by decide, uwX1, Or.inr (ga_t1 118 (by decide +kernel) rfl), rfl⟩
theorem grX2_41 : ga_FR RX2 41 1 0 (.object "GraphCompare$Side") := ⟨RX1, TX1, 3, "GraphCompare", rfl, by decide, uwX1, Or.inr (ga_t1 119 (by decide +kernel) rfl), rfl⟩
theorem grX5_37 : ga_FR RX5 37 1 0 (.object "GraphCompare$Side") := ⟨RX1, TX1, 3, "GraphCompare", rfl, by decide, uwX1, Or.inr (ga_t1 120 (by decide +kernel) rfl), rfl⟩
theorem grX10_188 : ga_FR RX10 188 1 0 (.object "GraphCompare$Side") := ⟨RX1, TX1, 3, "GraphCompare", rfl, by decide, uwX1, Or.inr (ga_t1 121 (by decide +kernel) rfl), rfl⟩
theorem grX1_18 : ga_FR RX1 18 1 1 (.object "GraphCompare$Side") := ⟨RX1, TX1, 3, "", rfl, by decide, uwX1, Or.inl (ga_t1 122 (by decide +kernel) rfl), rfl⟩
theorem gfX1_18 : ga_FS RX1 18 1 1 true (.object "GraphCompare$Side") := ⟨RX1, TX1, 3, tyX1, "", rfl, by decide, uwX1, tyX1_ok, nmX1, Or.inl (ga_t1 122 (by decide +kernel) rfl), rfl, rfl, (fun z => ⟨rfl, (ga_t1 122 (by decide +kernel) rfl)⟩)⟩
theorem grX0_52 : ga_FR RX0 52 1 1 (.object "GraphCompare$Side") := ⟨RX1, TX1, 3, "GraphCompare", rfl, by decide, uwX1, Or.inr (ga_t1 123 (by decide +kernel) rfl), rfl⟩
theorem grX8_91 : ga_FR RX8 91 1 1 (.object "GraphCompare$Side") := ⟨RX1, TX1, 3, "GraphCompare", rfl, by decide, uwX1, Or.inr (ga_t1 124 (by decide +kernel) rfl), rfl⟩
theorem grX2_53 : ga_FR RX2 53 1 1 (.object "GraphCompare$Side") := ⟨RX1, TX1, 3, "GraphCompare", rfl, by decide, uwX1, Or.inr (ga_t1 125 (by decide +kernel) rfl), rfl⟩
theorem grX5_43 : ga_FR RX5 43 1 1 (.object "GraphCompare$Side") := ⟨RX1, TX1, 3, "GraphCompare", rfl, by decide, uwX1, Or.inr (ga_t1 126 (by decide +kernel) rfl), rfl⟩
theorem grX1_24 : ga_FR RX1 24 1 2 (.object "GraphCompare$Kinds") := ⟨RX1, TX1, 3, "", rfl, by decide, uwX1, Or.inl (ga_t1 127 (by decide +kernel) rfl), rfl⟩
theorem gfX1_24 : ga_FS RX1 24 1 2 true (.object "GraphCompare$Kinds") := ⟨RX1, TX1, 3, tyX1, "", rfl, by decide, uwX1, tyX1_ok, nmX1, Or.inl (ga_t1 127 (by decide +kernel) rfl), rfl, rfl, (fun z => ⟨rfl, (ga_t1 127 (by decide +kernel) rfl)⟩)⟩
theorem grX10_128 : ga_FR RX10 128 1 2 (.object "GraphCompare$Kinds") := ⟨RX1, TX1, 3, "GraphCompare", rfl, by decide, uwX1, Or.inr (ga_t1 128 (by decide +kernel) rfl), rfl⟩
theorem grX0_99 : ga_FR RX0 99 1 2 (.object "GraphCompare$Kinds") := ⟨RX1, TX1, 3, "GraphCompare", rfl, by decide, uwX1, Or.inr (ga_t1 129 (by decide +kernel) rfl), rfl⟩
theorem grX8_145 : ga_FR RX8 145 1 2 (.object "GraphCompare$Kinds") := ⟨RX1, TX1, 3, "GraphCompare", rfl, by decide, uwX1, Or.inr (ga_t1 130 (by decide +kernel) rfl), rfl⟩
theorem grX5_83 : ga_FR RX5 83 1 2 (.object "GraphCompare$Kinds") := ⟨RX1, TX1, 3, "GraphCompare", rfl, by decide, uwX1, Or.inr (ga_t1 131 (by decide +kernel) rfl), rfl⟩
theorem nsX10_16 : ga_NS RX10 16 3 1 [Vn] := ⟨RX3, TX3, tyX3, rfl, uwX3, tyX3_ok, (ga_t1 139 (by decide +kernel) rfl), (ga_t1 140 (by decide +kernel) rfl), (ga_t1 6 (by decide +kernel) rfl), (by intro v hv; simp only [List.mem_cons, List.not_mem_nil, or_false] at hv; rcases hv with rfl <;> first | exact ga_in0 | exact ga_inL0 | trivial), fun ad j hj => by
  rcases Nat.lt_or_ge j 1 with q | q
  · obtain rfl : j = 0 := by omega
    rfl
  omega⟩
theorem lkX10_18 : Cond.methodLinkNest RX10 18 yX3_init "GraphCompare" ∈ ga_big := (ga_t1 141 (by decide +kernel) rfl)
theorem lkX3_3 : Cond.methodLink RX3 3 Lib.objectInit ∈ ga_big := (ga_t1 144 (by decide +kernel) rfl)
theorem grX3_9 : ga_FR RX3 9 3 0 (.array .int) := ⟨RX3, TX3, 1, "", rfl, by decide, uwX3, Or.inl (ga_t1 145 (by decide +kernel) rfl), rfl⟩
theorem gfX3_9 : ga_FS RX3 9 3 0 true (.array .int) := ⟨RX3, TX3, 1, tyX3, "", rfl, by decide, uwX3, tyX3_ok, nmX3, Or.inl (ga_t1 145 (by decide +kernel) rfl), rfl, rfl, (fun z => ⟨rfl, (ga_t1 145 (by decide +kernel) rfl)⟩)⟩
theorem nsX10_23 : ga_NS RX10 23 0 5 [Vn, Vn, Vi 0, Vn, Vn] := ⟨RX0, TX0, tyX0, rfl, uwX0, tyX0_ok, (ga_t1 149 (by decide +kernel) rfl), (ga_t1 150 (by decide +kernel) rfl), (ga_t1 7 (by decide +kernel) rfl), (by intro v hv; simp only [List.mem_cons, List.not_mem_nil, or_false] at hv; rcases hv with rfl | rfl | rfl | rfl | rfl <;> first | exact ga_in0 | exact ga_inL0 | trivial), fun ad j hj => by
  rcases Nat.lt_or_ge j 1 with q | q
  · obtain rfl : j = 0 := by omega
    rfl
  rcases Nat.lt_or_ge j 2 with q | q
  · obtain rfl : j = 1 := by omega
    rfl
  rcases Nat.lt_or_ge j 3 with q | q
  · obtain rfl : j = 2 := by omega
    rfl
  rcases Nat.lt_or_ge j 4 with q | q
  · obtain rfl : j = 3 := by omega
    rfl
  rcases Nat.lt_or_ge j 5 with q | q
  · obtain rfl : j = 4 := by omega
    rfl
  omega⟩
theorem lkX10_25 : Cond.methodLinkNest RX10 25 yX0_init "GraphCompare" ∈ ga_big := (ga_t1 151 (by decide +kernel) rfl)
theorem lkX0_3 : Cond.methodLink RX0 3 Lib.objectInit ∈ ga_big := (ga_t1 154 (by decide +kernel) rfl)
theorem nsX0_9 : ga_NS RX0 9 7 9 [Vi 0, Vi 0, Vi 0, Vn, Vn, Vn, Vn, Vn, Vn] := ⟨RX7, TX7, tyX7, rfl, uwX7, tyX7_ok, (ga_t1 155 (by decide +kernel) rfl), (ga_t1 156 (by decide +kernel) rfl), (ga_t1 8 (by decide +kernel) rfl), (by intro v hv; simp only [List.mem_cons, List.not_mem_nil, or_false] at hv; rcases hv with rfl | rfl | rfl | rfl | rfl | rfl | rfl | rfl | rfl <;> first | exact ga_in0 | exact ga_inL0 | trivial), fun ad j hj => by
  rcases Nat.lt_or_ge j 1 with q | q
  · obtain rfl : j = 0 := by omega
    rfl
  rcases Nat.lt_or_ge j 2 with q | q
  · obtain rfl : j = 1 := by omega
    rfl
  rcases Nat.lt_or_ge j 3 with q | q
  · obtain rfl : j = 2 := by omega
    rfl
  rcases Nat.lt_or_ge j 4 with q | q
  · obtain rfl : j = 3 := by omega
    rfl
  rcases Nat.lt_or_ge j 5 with q | q
  · obtain rfl : j = 4 := by omega
    rfl
  rcases Nat.lt_or_ge j 6 with q | q
  · obtain rfl : j = 5 := by omega
    rfl
  rcases Nat.lt_or_ge j 7 with q | q
  · obtain rfl : j = 6 := by omega
    rfl
  rcases Nat.lt_or_ge j 8 with q | q
  · obtain rfl : j = 7 := by omega
    rfl
  rcases Nat.lt_or_ge j 9 with q | q
  · obtain rfl : j = 8 := by omega
    rfl
  omega⟩
theorem lkX0_11 : Cond.methodLink RX0 11 yX7_init ∈ ga_big := (ga_t1 157 (by decide +kernel) rfl)
theorem lkX7_3 : Cond.methodLink RX7 3 Lib.objectInit ∈ ga_big := (ga_t1 160 (by decide +kernel) rfl)
theorem grX7_15 : ga_FR RX7 15 7 0 .int := ⟨RX7, TX7, 9, "", rfl, by decide, uwX7, Or.inl (ga_t1 161 (by decide +kernel) rfl), rfl⟩
theorem gfX7_15 : ga_FS RX7 15 7 0 true .int := ⟨RX7, TX7, 9, tyX7, "", rfl, by decide, uwX7, tyX7_ok, nmX7, Or.inl (ga_t1 161 (by decide +kernel) rfl), rfl, rfl, (fun z => ⟨rfl, (ga_t1 161 (by decide +kernel) rfl)⟩)⟩
theorem grX7_18 : ga_FR RX7 18 7 1 .int := ⟨RX7, TX7, 9, "", rfl, by decide, uwX7, Or.inl (ga_t1 162 (by decide +kernel) rfl), rfl⟩
theorem gfX7_18 : ga_FS RX7 18 7 1 true .int := ⟨RX7, TX7, 9, tyX7, "", rfl, by decide, uwX7, tyX7_ok, nmX7, Or.inl (ga_t1 162 (by decide +kernel) rfl), rfl, rfl, (fun z => ⟨rfl, (ga_t1 162 (by decide +kernel) rfl)⟩)⟩
theorem grX7_9 : ga_FR RX7 9 7 2 .int := ⟨RX7, TX7, 9, "", rfl, by decide, uwX7, Or.inl (ga_t1 163 (by decide +kernel) rfl), rfl⟩
theorem gfX7_9 : ga_FS RX7 9 7 2 false .int := ⟨RX7, TX7, 9, tyX7, "", rfl, by decide, uwX7, tyX7_ok, nmX7, Or.inl (ga_t1 163 (by decide +kernel) rfl), rfl, rfl, (fun z => by cases z)⟩
theorem grX7_21 : ga_FR RX7 21 7 3 (.array .int) := ⟨RX7, TX7, 9, "", rfl, by decide, uwX7, Or.inl (ga_t1 164 (by decide +kernel) rfl), rfl⟩
theorem gfX7_21 : ga_FS RX7 21 7 3 true (.array .int) := ⟨RX7, TX7, 9, tyX7, "", rfl, by decide, uwX7, tyX7_ok, nmX7, Or.inl (ga_t1 164 (by decide +kernel) rfl), rfl, rfl, (fun z => ⟨rfl, (ga_t1 164 (by decide +kernel) rfl)⟩)⟩
theorem grX0_55 : ga_FR RX0 55 7 3 (.array .int) := ⟨RX7, TX7, 9, "GraphCompare", rfl, by decide, uwX7, Or.inr (ga_t1 165 (by decide +kernel) rfl), rfl⟩
theorem grX7_25 : ga_FR RX7 25 7 4 (.array .int) := ⟨RX7, TX7, 9, "", rfl, by decide, uwX7, Or.inl (ga_t1 166 (by decide +kernel) rfl), rfl⟩
theorem gfX7_25 : ga_FS RX7 25 7 4 true (.array .int) := ⟨RX7, TX7, 9, tyX7, "", rfl, by decide, uwX7, tyX7_ok, nmX7, Or.inl (ga_t1 166 (by decide +kernel) rfl), rfl, rfl, (fun z => ⟨rfl, (ga_t1 166 (by decide +kernel) rfl)⟩)⟩
theorem grX7_28 : ga_FR RX7 28 7 5 (.array .int) := ⟨RX7, TX7, 9, "", rfl, by decide, uwX7, Or.inl (ga_t1 167 (by decide +kernel) rfl), rfl⟩
theorem gfX7_28 : ga_FS RX7 28 7 5 true (.array .int) := ⟨RX7, TX7, 9, tyX7, "", rfl, by decide, uwX7, tyX7_ok, nmX7, Or.inl (ga_t1 167 (by decide +kernel) rfl), rfl, rfl, (fun z => ⟨rfl, (ga_t1 167 (by decide +kernel) rfl)⟩)⟩
theorem grX7_31 : ga_FR RX7 31 7 6 (.array .int) := ⟨RX7, TX7, 9, "", rfl, by decide, uwX7, Or.inl (ga_t1 168 (by decide +kernel) rfl), rfl⟩
theorem gfX7_31 : ga_FS RX7 31 7 6 true (.array .int) := ⟨RX7, TX7, 9, tyX7, "", rfl, by decide, uwX7, tyX7_ok, nmX7, Or.inl (ga_t1 168 (by decide +kernel) rfl), rfl, rfl, (fun z => ⟨rfl, (ga_t1 168 (by decide +kernel) rfl)⟩)⟩
theorem grX7_34 : ga_FR RX7 34 7 7 (.array .int) := ⟨RX7, TX7, 9, "", rfl, by decide, uwX7, Or.inl (ga_t1 169 (by decide +kernel) rfl), rfl⟩
theorem gfX7_34 : ga_FS RX7 34 7 7 true (.array .int) := ⟨RX7, TX7, 9, tyX7, "", rfl, by decide, uwX7, tyX7_ok, nmX7, Or.inl (ga_t1 169 (by decide +kernel) rfl), rfl, rfl, (fun z => ⟨rfl, (ga_t1 169 (by decide +kernel) rfl)⟩)⟩
theorem grX7_37 : ga_FR RX7 37 7 8 (.array .int) := ⟨RX7, TX7, 9, "", rfl, by decide, uwX7, Or.inl (ga_t1 170 (by decide +kernel) rfl), rfl⟩
theorem gfX7_37 : ga_FS RX7 37 7 8 true (.array .int) := ⟨RX7, TX7, 9, tyX7, "", rfl, by decide, uwX7, tyX7_ok, nmX7, Or.inl (ga_t1 170 (by decide +kernel) rfl), rfl, rfl, (fun z => ⟨rfl, (ga_t1 170 (by decide +kernel) rfl)⟩)⟩
theorem grX0_14 : ga_FR RX0 14 0 0 (.object "GraphCompare$Partition") := ⟨RX0, TX0, 5, "", rfl, by decide, uwX0, Or.inl (ga_t1 190 (by decide +kernel) rfl), rfl⟩
theorem gfX0_14 : ga_FS RX0 14 0 0 true (.object "GraphCompare$Partition") := ⟨RX0, TX0, 5, tyX0, "", rfl, by decide, uwX0, tyX0_ok, nmX0, Or.inl (ga_t1 190 (by decide +kernel) rfl), rfl, rfl, (fun z => ⟨rfl, (ga_t1 190 (by decide +kernel) rfl)⟩)⟩
theorem grX0_20 : ga_FR RX0 20 0 1 (.object "GraphCompare$Partition") := ⟨RX0, TX0, 5, "", rfl, by decide, uwX0, Or.inl (ga_t1 191 (by decide +kernel) rfl), rfl⟩
theorem gfX0_20 : ga_FS RX0 20 0 1 true (.object "GraphCompare$Partition") := ⟨RX0, TX0, 5, tyX0, "", rfl, by decide, uwX0, tyX0_ok, nmX0, Or.inl (ga_t1 191 (by decide +kernel) rfl), rfl, rfl, (fun z => ⟨rfl, (ga_t1 191 (by decide +kernel) rfl)⟩)⟩
theorem grX0_23 : ga_FR RX0 23 0 2 .int := ⟨RX0, TX0, 5, "", rfl, by decide, uwX0, Or.inl (ga_t1 192 (by decide +kernel) rfl), rfl⟩
theorem gfX0_23 : ga_FS RX0 23 0 2 false .int := ⟨RX0, TX0, 5, tyX0, "", rfl, by decide, uwX0, tyX0_ok, nmX0, Or.inl (ga_t1 192 (by decide +kernel) rfl), rfl, rfl, (fun z => by cases z)⟩
theorem grX10_185 : ga_FR RX10 185 0 2 .int := ⟨RX0, TX0, 5, "GraphCompare", rfl, by decide, uwX0, Or.inr (ga_t1 193 (by decide +kernel) rfl), rfl⟩
theorem gfX10_185 : ga_FS RX10 185 0 2 false .int := ⟨RX0, TX0, 5, tyX0, "GraphCompare", rfl, by decide, uwX0, tyX0_ok, nmX0, Or.inr (ga_t1 193 (by decide +kernel) rfl), rfl, rfl, (fun z => by cases z)⟩
theorem grX0_27 : ga_FR RX0 27 0 3 (.array .int) := ⟨RX0, TX0, 5, "", rfl, by decide, uwX0, Or.inl (ga_t1 194 (by decide +kernel) rfl), rfl⟩
theorem gfX0_27 : ga_FS RX0 27 0 3 true (.array .int) := ⟨RX0, TX0, 5, tyX0, "", rfl, by decide, uwX0, tyX0_ok, nmX0, Or.inl (ga_t1 194 (by decide +kernel) rfl), rfl, rfl, (fun z => ⟨rfl, (ga_t1 194 (by decide +kernel) rfl)⟩)⟩
theorem grX2_86 : ga_FR RX2 86 0 3 (.array .int) := ⟨RX0, TX0, 5, "GraphCompare", rfl, by decide, uwX0, Or.inr (ga_t1 195 (by decide +kernel) rfl), rfl⟩
theorem grX0_31 : ga_FR RX0 31 0 4 (.array .int) := ⟨RX0, TX0, 5, "", rfl, by decide, uwX0, Or.inl (ga_t1 196 (by decide +kernel) rfl), rfl⟩
theorem gfX0_31 : ga_FS RX0 31 0 4 true (.array .int) := ⟨RX0, TX0, 5, tyX0, "", rfl, by decide, uwX0, tyX0_ok, nmX0, Or.inl (ga_t1 196 (by decide +kernel) rfl), rfl, rfl, (fun z => ⟨rfl, (ga_t1 196 (by decide +kernel) rfl)⟩)⟩
theorem grX2_89 : ga_FR RX2 89 0 4 (.array .int) := ⟨RX0, TX0, 5, "GraphCompare", rfl, by decide, uwX0, Or.inr (ga_t1 197 (by decide +kernel) rfl), rfl⟩
theorem nsX10_30 : ga_NS RX10 30 8 11 [Vi 0, Vn, Vn, Vn, Vn, Vn, Vn, Vn, Vn, Vn, Vn] := ⟨RX8, TX8, tyX8, rfl, uwX8, tyX8_ok, (ga_t1 209 (by decide +kernel) rfl), (ga_t1 210 (by decide +kernel) rfl), (ga_t1 9 (by decide +kernel) rfl), (by intro v hv; simp only [List.mem_cons, List.not_mem_nil, or_false] at hv; rcases hv with rfl | rfl | rfl | rfl | rfl | rfl | rfl | rfl | rfl | rfl | rfl <;> first | exact ga_in0 | exact ga_inL0 | trivial), fun ad j hj => by
  rcases Nat.lt_or_ge j 1 with q | q
  · obtain rfl : j = 0 := by omega
    rfl
  rcases Nat.lt_or_ge j 2 with q | q
  · obtain rfl : j = 1 := by omega
    rfl
  rcases Nat.lt_or_ge j 3 with q | q
  · obtain rfl : j = 2 := by omega
    rfl
  rcases Nat.lt_or_ge j 4 with q | q
  · obtain rfl : j = 3 := by omega
    rfl
  rcases Nat.lt_or_ge j 5 with q | q
  · obtain rfl : j = 4 := by omega
    rfl
  rcases Nat.lt_or_ge j 6 with q | q
  · obtain rfl : j = 5 := by omega
    rfl
  rcases Nat.lt_or_ge j 7 with q | q
  · obtain rfl : j = 6 := by omega
    rfl
  rcases Nat.lt_or_ge j 8 with q | q
  · obtain rfl : j = 7 := by omega
    rfl
  rcases Nat.lt_or_ge j 9 with q | q
  · obtain rfl : j = 8 := by omega
    rfl
  rcases Nat.lt_or_ge j 10 with q | q
  · obtain rfl : j = 9 := by omega
    rfl
  rcases Nat.lt_or_ge j 11 with q | q
  · obtain rfl : j = 10 := by omega
    rfl
  omega⟩
theorem lkX10_32 : Cond.methodLinkNest RX10 32 yX8_init "GraphCompare" ∈ ga_big := (ga_t1 211 (by decide +kernel) rfl)
theorem lkX8_3 : Cond.methodLink RX8 3 Lib.objectInit ∈ ga_big := (ga_t1 214 (by decide +kernel) rfl)
theorem nsX8_26 : ga_NS RX8 26 6 4 [Vn, Vi 0, Vn, Vn] := ⟨RX6, TX6, tyX6, rfl, uwX6, tyX6_ok, (ga_t1 215 (by decide +kernel) rfl), (ga_t1 216 (by decide +kernel) rfl), (ga_t1 10 (by decide +kernel) rfl), (by intro v hv; simp only [List.mem_cons, List.not_mem_nil, or_false] at hv; rcases hv with rfl | rfl | rfl | rfl <;> first | exact ga_in0 | exact ga_inL0 | trivial), fun ad j hj => by
  rcases Nat.lt_or_ge j 1 with q | q
  · obtain rfl : j = 0 := by omega
    rfl
  rcases Nat.lt_or_ge j 2 with q | q
  · obtain rfl : j = 1 := by omega
    rfl
  rcases Nat.lt_or_ge j 3 with q | q
  · obtain rfl : j = 2 := by omega
    rfl
  rcases Nat.lt_or_ge j 4 with q | q
  · obtain rfl : j = 3 := by omega
    rfl
  omega⟩
theorem lkX8_28 : Cond.methodLinkNest RX8 28 yX6_init "GraphCompare" ∈ ga_big := (ga_t1 217 (by decide +kernel) rfl)
theorem lkX6_3 : Cond.methodLink RX6 3 Lib.objectInit ∈ ga_big := (ga_t1 220 (by decide +kernel) rfl)
theorem grX6_9 : ga_FR RX6 9 6 0 (.array .int) := ⟨RX6, TX6, 4, "", rfl, by decide, uwX6, Or.inl (ga_t1 221 (by decide +kernel) rfl), rfl⟩
theorem gfX6_9 : ga_FS RX6 9 6 0 true (.array .int) := ⟨RX6, TX6, 4, tyX6, "", rfl, by decide, uwX6, tyX6_ok, nmX6, Or.inl (ga_t1 221 (by decide +kernel) rfl), rfl, rfl, (fun z => ⟨rfl, (ga_t1 221 (by decide +kernel) rfl)⟩)⟩
theorem grX8_101 : ga_FR RX8 101 6 0 (.array .int) := ⟨RX6, TX6, 4, "GraphCompare", rfl, by decide, uwX6, Or.inr (ga_t1 222 (by decide +kernel) rfl), rfl⟩
theorem grX6_15 : ga_FR RX6 15 6 1 .int := ⟨RX6, TX6, 4, "", rfl, by decide, uwX6, Or.inl (ga_t1 223 (by decide +kernel) rfl), rfl⟩
theorem gfX6_15 : ga_FS RX6 15 6 1 false .int := ⟨RX6, TX6, 4, tyX6, "", rfl, by decide, uwX6, tyX6_ok, nmX6, Or.inl (ga_t1 223 (by decide +kernel) rfl), rfl, rfl, (fun z => by cases z)⟩
theorem grX8_166 : ga_FR RX8 166 6 1 .int := ⟨RX6, TX6, 4, "GraphCompare", rfl, by decide, uwX6, Or.inr (ga_t1 224 (by decide +kernel) rfl), rfl⟩
theorem gfX8_166 : ga_FS RX8 166 6 1 false .int := ⟨RX6, TX6, 4, tyX6, "GraphCompare", rfl, by decide, uwX6, tyX6_ok, nmX6, Or.inr (ga_t1 224 (by decide +kernel) rfl), rfl, rfl, (fun z => by cases z)⟩
theorem grX6_19 : ga_FR RX6 19 6 2 (.array .int) := ⟨RX6, TX6, 4, "", rfl, by decide, uwX6, Or.inl (ga_t1 225 (by decide +kernel) rfl), rfl⟩
theorem gfX6_19 : ga_FS RX6 19 6 2 true (.array .int) := ⟨RX6, TX6, 4, tyX6, "", rfl, by decide, uwX6, tyX6_ok, nmX6, Or.inl (ga_t1 225 (by decide +kernel) rfl), rfl, rfl, (fun z => ⟨rfl, (ga_t1 225 (by decide +kernel) rfl)⟩)⟩
theorem grX8_175 : ga_FR RX8 175 6 2 (.array .int) := ⟨RX6, TX6, 4, "GraphCompare", rfl, by decide, uwX6, Or.inr (ga_t1 226 (by decide +kernel) rfl), rfl⟩
theorem grX6_22 : ga_FR RX6 22 6 3 (.array .int) := ⟨RX6, TX6, 4, "", rfl, by decide, uwX6, Or.inl (ga_t1 227 (by decide +kernel) rfl), rfl⟩
theorem gfX6_22 : ga_FS RX6 22 6 3 true (.array .int) := ⟨RX6, TX6, 4, tyX6, "", rfl, by decide, uwX6, tyX6_ok, nmX6, Or.inl (ga_t1 227 (by decide +kernel) rfl), rfl, rfl, (fun z => ⟨rfl, (ga_t1 227 (by decide +kernel) rfl)⟩)⟩
theorem grX8_169 : ga_FR RX8 169 6 3 (.array .int) := ⟨RX6, TX6, 4, "GraphCompare", rfl, by decide, uwX6, Or.inr (ga_t1 228 (by decide +kernel) rfl), rfl⟩
theorem grX8_9 : ga_FR RX8 9 8 0 .int := ⟨RX8, TX8, 11, "", rfl, by decide, uwX8, Or.inl (ga_t1 238 (by decide +kernel) rfl), rfl⟩
theorem gfX8_9 : ga_FS RX8 9 8 0 false .int := ⟨RX8, TX8, 11, tyX8, "", rfl, by decide, uwX8, tyX8_ok, nmX8, Or.inl (ga_t1 238 (by decide +kernel) rfl), rfl, rfl, (fun z => by cases z)⟩
theorem grX8_15 : ga_FR RX8 15 8 1 (.array .int) := ⟨RX8, TX8, 11, "", rfl, by decide, uwX8, Or.inl (ga_t1 239 (by decide +kernel) rfl), rfl⟩
theorem gfX8_15 : ga_FS RX8 15 8 1 true (.array .int) := ⟨RX8, TX8, 11, tyX8, "", rfl, by decide, uwX8, tyX8_ok, nmX8, Or.inl (ga_t1 239 (by decide +kernel) rfl), rfl, rfl, (fun z => ⟨rfl, (ga_t1 239 (by decide +kernel) rfl)⟩)⟩
theorem grX8_19 : ga_FR RX8 19 8 2 (.array .int) := ⟨RX8, TX8, 11, "", rfl, by decide, uwX8, Or.inl (ga_t2 0 (by decide +kernel) rfl), rfl⟩
theorem gfX8_19 : ga_FS RX8 19 8 2 true (.array .int) := ⟨RX8, TX8, 11, tyX8, "", rfl, by decide, uwX8, tyX8_ok, nmX8, Or.inl (ga_t2 0 (by decide +kernel) rfl), rfl, rfl, (fun z => ⟨rfl, (ga_t2 0 (by decide +kernel) rfl)⟩)⟩
theorem grX8_22 : ga_FR RX8 22 8 3 (.array .boolean) := ⟨RX8, TX8, 11, "", rfl, by decide, uwX8, Or.inl (ga_t2 1 (by decide +kernel) rfl), rfl⟩
theorem gfX8_22 : ga_FS RX8 22 8 3 true (.array .boolean) := ⟨RX8, TX8, 11, tyX8, "", rfl, by decide, uwX8, tyX8_ok, nmX8, Or.inl (ga_t2 1 (by decide +kernel) rfl), rfl, rfl, (fun z => ⟨rfl, (ga_t2 1 (by decide +kernel) rfl)⟩)⟩
theorem grX8_29 : ga_FR RX8 29 8 4 (.object "GraphCompare$NetSorts") := ⟨RX8, TX8, 11, "", rfl, by decide, uwX8, Or.inl (ga_t2 2 (by decide +kernel) rfl), rfl⟩
theorem gfX8_29 : ga_FS RX8 29 8 4 true (.object "GraphCompare$NetSorts") := ⟨RX8, TX8, 11, tyX8, "", rfl, by decide, uwX8, tyX8_ok, nmX8, Or.inl (ga_t2 2 (by decide +kernel) rfl), rfl, rfl, (fun z => ⟨rfl, (ga_t2 2 (by decide +kernel) rfl)⟩)⟩
theorem grX8_33 : ga_FR RX8 33 8 5 (.object "GraphCompare$NetSorts") := ⟨RX8, TX8, 11, "", rfl, by decide, uwX8, Or.inl (ga_t2 3 (by decide +kernel) rfl), rfl⟩
theorem gfX8_33 : ga_FS RX8 33 8 5 true (.object "GraphCompare$NetSorts") := ⟨RX8, TX8, 11, tyX8, "", rfl, by decide, uwX8, tyX8_ok, nmX8, Or.inl (ga_t2 3 (by decide +kernel) rfl), rfl, rfl, (fun z => ⟨rfl, (ga_t2 3 (by decide +kernel) rfl)⟩)⟩
theorem grX8_36 : ga_FR RX8 36 8 6 (.array .int) := ⟨RX8, TX8, 11, "", rfl, by decide, uwX8, Or.inl (ga_t2 4 (by decide +kernel) rfl), rfl⟩
theorem gfX8_36 : ga_FS RX8 36 8 6 true (.array .int) := ⟨RX8, TX8, 11, tyX8, "", rfl, by decide, uwX8, tyX8_ok, nmX8, Or.inl (ga_t2 4 (by decide +kernel) rfl), rfl, rfl, (fun z => ⟨rfl, (ga_t2 4 (by decide +kernel) rfl)⟩)⟩
theorem grX8_39 : ga_FR RX8 39 8 7 (.array .int) := ⟨RX8, TX8, 11, "", rfl, by decide, uwX8, Or.inl (ga_t2 5 (by decide +kernel) rfl), rfl⟩
theorem gfX8_39 : ga_FS RX8 39 8 7 true (.array .int) := ⟨RX8, TX8, 11, tyX8, "", rfl, by decide, uwX8, tyX8_ok, nmX8, Or.inl (ga_t2 5 (by decide +kernel) rfl), rfl, rfl, (fun z => ⟨rfl, (ga_t2 5 (by decide +kernel) rfl)⟩)⟩
theorem grX8_42 : ga_FR RX8 42 8 8 (.array .int) := ⟨RX8, TX8, 11, "", rfl, by decide, uwX8, Or.inl (ga_t2 6 (by decide +kernel) rfl), rfl⟩
theorem gfX8_42 : ga_FS RX8 42 8 8 true (.array .int) := ⟨RX8, TX8, 11, tyX8, "", rfl, by decide, uwX8, tyX8_ok, nmX8, Or.inl (ga_t2 6 (by decide +kernel) rfl), rfl, rfl, (fun z => ⟨rfl, (ga_t2 6 (by decide +kernel) rfl)⟩)⟩
theorem grX8_45 : ga_FR RX8 45 8 9 (.array .int) := ⟨RX8, TX8, 11, "", rfl, by decide, uwX8, Or.inl (ga_t2 7 (by decide +kernel) rfl), rfl⟩
theorem gfX8_45 : ga_FS RX8 45 8 9 true (.array .int) := ⟨RX8, TX8, 11, tyX8, "", rfl, by decide, uwX8, tyX8_ok, nmX8, Or.inl (ga_t2 7 (by decide +kernel) rfl), rfl, rfl, (fun z => ⟨rfl, (ga_t2 7 (by decide +kernel) rfl)⟩)⟩
theorem grX8_48 : ga_FR RX8 48 8 10 (.array .int) := ⟨RX8, TX8, 11, "", rfl, by decide, uwX8, Or.inl (ga_t2 8 (by decide +kernel) rfl), rfl⟩
theorem gfX8_48 : ga_FS RX8 48 8 10 true (.array .int) := ⟨RX8, TX8, 11, tyX8, "", rfl, by decide, uwX8, tyX8_ok, nmX8, Or.inl (ga_t2 8 (by decide +kernel) rfl), rfl, rfl, (fun z => ⟨rfl, (ga_t2 8 (by decide +kernel) rfl)⟩)⟩
theorem nsX10_37 : ga_NS RX10 37 5 5 [Vi 0, Vn, Vn, Vn, Vn] := ⟨RX5, TX5, tyX5, rfl, uwX5, tyX5_ok, (ga_t2 32 (by decide +kernel) rfl), (ga_t2 33 (by decide +kernel) rfl), (ga_t1 11 (by decide +kernel) rfl), (by intro v hv; simp only [List.mem_cons, List.not_mem_nil, or_false] at hv; rcases hv with rfl | rfl | rfl | rfl | rfl <;> first | exact ga_in0 | exact ga_inL0 | trivial), fun ad j hj => by
  rcases Nat.lt_or_ge j 1 with q | q
  · obtain rfl : j = 0 := by omega
    rfl
  rcases Nat.lt_or_ge j 2 with q | q
  · obtain rfl : j = 1 := by omega
    rfl
  rcases Nat.lt_or_ge j 3 with q | q
  · obtain rfl : j = 2 := by omega
    rfl
  rcases Nat.lt_or_ge j 4 with q | q
  · obtain rfl : j = 3 := by omega
    rfl
  rcases Nat.lt_or_ge j 5 with q | q
  · obtain rfl : j = 4 := by omega
    rfl
  omega⟩
theorem lkX10_39 : Cond.methodLink RX10 39 yX5_init ∈ ga_big := (ga_t2 34 (by decide +kernel) rfl)
theorem lkX5_3 : Cond.methodLink RX5 3 Lib.objectInit ∈ ga_big := (ga_t2 37 (by decide +kernel) rfl)
theorem lkX5_28 : Cond.methodLink RX5 28 yX5_forget ∈ ga_big := (ga_t2 38 (by decide +kernel) rfl)
theorem lkX5_31 : Cond.methodLink RX5 31 yJ7_fill_53178 ∈ ga_big := (ga_t2 42 (by decide +kernel) rfl)
theorem grX5_9 : ga_FR RX5 9 5 0 .boolean := ⟨RX5, TX5, 5, "", rfl, by decide, uwX5, Or.inl (ga_t2 43 (by decide +kernel) rfl), rfl⟩
theorem gfX5_9 : ga_FS RX5 9 5 0 false .boolean := ⟨RX5, TX5, 5, tyX5, "", rfl, by decide, uwX5, tyX5_ok, nmX5, Or.inl (ga_t2 43 (by decide +kernel) rfl), rfl, rfl, (fun z => by cases z)⟩
theorem grX8_67 : ga_FR RX8 67 5 0 .boolean := ⟨RX5, TX5, 5, "GraphCompare", rfl, by decide, uwX5, Or.inr (ga_t2 44 (by decide +kernel) rfl), rfl⟩
theorem gfX8_67 : ga_FS RX8 67 5 0 false .boolean := ⟨RX5, TX5, 5, tyX5, "GraphCompare", rfl, by decide, uwX5, tyX5_ok, nmX5, Or.inr (ga_t2 44 (by decide +kernel) rfl), rfl, rfl, (fun z => by cases z)⟩
theorem grX5_15 : ga_FR RX5 15 5 1 (.array .int) := ⟨RX5, TX5, 5, "", rfl, by decide, uwX5, Or.inl (ga_t2 45 (by decide +kernel) rfl), rfl⟩
theorem gfX5_15 : ga_FS RX5 15 5 1 true (.array .int) := ⟨RX5, TX5, 5, tyX5, "", rfl, by decide, uwX5, tyX5_ok, nmX5, Or.inl (ga_t2 45 (by decide +kernel) rfl), rfl, rfl, (fun z => ⟨rfl, (ga_t2 45 (by decide +kernel) rfl)⟩)⟩
theorem grX10_204 : ga_FR RX10 204 5 1 (.array .int) := ⟨RX5, TX5, 5, "GraphCompare", rfl, by decide, uwX5, Or.inr (ga_t2 46 (by decide +kernel) rfl), rfl⟩
theorem grX5_19 : ga_FR RX5 19 5 2 (.array .int) := ⟨RX5, TX5, 5, "", rfl, by decide, uwX5, Or.inl (ga_t2 47 (by decide +kernel) rfl), rfl⟩
theorem gfX5_19 : ga_FS RX5 19 5 2 true (.array .int) := ⟨RX5, TX5, 5, tyX5, "", rfl, by decide, uwX5, tyX5_ok, nmX5, Or.inl (ga_t2 47 (by decide +kernel) rfl), rfl, rfl, (fun z => ⟨rfl, (ga_t2 47 (by decide +kernel) rfl)⟩)⟩
theorem grX10_208 : ga_FR RX10 208 5 2 (.array .int) := ⟨RX5, TX5, 5, "GraphCompare", rfl, by decide, uwX5, Or.inr (ga_t2 48 (by decide +kernel) rfl), rfl⟩
theorem grX5_22 : ga_FR RX5 22 5 3 (.array .int) := ⟨RX5, TX5, 5, "", rfl, by decide, uwX5, Or.inl (ga_t2 49 (by decide +kernel) rfl), rfl⟩
theorem gfX5_22 : ga_FS RX5 22 5 3 true (.array .int) := ⟨RX5, TX5, 5, tyX5, "", rfl, by decide, uwX5, tyX5_ok, nmX5, Or.inl (ga_t2 49 (by decide +kernel) rfl), rfl, rfl, (fun z => ⟨rfl, (ga_t2 49 (by decide +kernel) rfl)⟩)⟩
theorem grX10_211 : ga_FR RX10 211 5 3 (.array .int) := ⟨RX5, TX5, 5, "GraphCompare", rfl, by decide, uwX5, Or.inr (ga_t2 50 (by decide +kernel) rfl), rfl⟩
theorem grX5_25 : ga_FR RX5 25 5 4 (.array .int) := ⟨RX5, TX5, 5, "", rfl, by decide, uwX5, Or.inl (ga_t2 51 (by decide +kernel) rfl), rfl⟩
theorem gfX5_25 : ga_FS RX5 25 5 4 true (.array .int) := ⟨RX5, TX5, 5, tyX5, "", rfl, by decide, uwX5, tyX5_ok, nmX5, Or.inl (ga_t2 51 (by decide +kernel) rfl), rfl, rfl, (fun z => ⟨rfl, (ga_t2 51 (by decide +kernel) rfl)⟩)⟩
theorem grX8_98 : ga_FR RX8 98 5 4 (.array .int) := ⟨RX5, TX5, 5, "GraphCompare", rfl, by decide, uwX5, Or.inr (ga_t2 52 (by decide +kernel) rfl), rfl⟩
theorem nsX10_44 : ga_NS RX10 44 2 3 [Vi 0, Vn, Vn] := ⟨RX2, TX2, tyX2, rfl, uwX2, tyX2_ok, (ga_t2 64 (by decide +kernel) rfl), (ga_t2 65 (by decide +kernel) rfl), (ga_t1 12 (by decide +kernel) rfl), (by intro v hv; simp only [List.mem_cons, List.not_mem_nil, or_false] at hv; rcases hv with rfl | rfl | rfl <;> first | exact ga_in0 | exact ga_inL0 | trivial), fun ad j hj => by
  rcases Nat.lt_or_ge j 1 with q | q
  · obtain rfl : j = 0 := by omega
    rfl
  rcases Nat.lt_or_ge j 2 with q | q
  · obtain rfl : j = 1 := by omega
    rfl
  rcases Nat.lt_or_ge j 3 with q | q
  · obtain rfl : j = 2 := by omega
    rfl
  omega⟩
theorem lkX10_46 : Cond.methodLinkNest RX10 46 yX2_init "GraphCompare" ∈ ga_big := (ga_t2 66 (by decide +kernel) rfl)
theorem lkX2_3 : Cond.methodLink RX2 3 Lib.objectInit ∈ ga_big := (ga_t2 69 (by decide +kernel) rfl)
theorem grX2_9 : ga_FR RX2 9 2 0 .int := ⟨RX2, TX2, 3, "", rfl, by decide, uwX2, Or.inl (ga_t2 70 (by decide +kernel) rfl), rfl⟩
theorem gfX2_9 : ga_FS RX2 9 2 0 false .int := ⟨RX2, TX2, 3, tyX2, "", rfl, by decide, uwX2, tyX2_ok, nmX2, Or.inl (ga_t2 70 (by decide +kernel) rfl), rfl, rfl, (fun z => by cases z)⟩
theorem grX10_214 : ga_FR RX10 214 2 0 .int := ⟨RX2, TX2, 3, "GraphCompare", rfl, by decide, uwX2, Or.inr (ga_t2 71 (by decide +kernel) rfl), rfl⟩
theorem gfX10_214 : ga_FS RX10 214 2 0 false .int := ⟨RX2, TX2, 3, tyX2, "GraphCompare", rfl, by decide, uwX2, tyX2_ok, nmX2, Or.inr (ga_t2 71 (by decide +kernel) rfl), rfl, rfl, (fun z => by cases z)⟩
theorem grX2_15 : ga_FR RX2 15 2 1 (.array .int) := ⟨RX2, TX2, 3, "", rfl, by decide, uwX2, Or.inl (ga_t2 72 (by decide +kernel) rfl), rfl⟩
theorem gfX2_15 : ga_FS RX2 15 2 1 true (.array .int) := ⟨RX2, TX2, 3, tyX2, "", rfl, by decide, uwX2, tyX2_ok, nmX2, Or.inl (ga_t2 72 (by decide +kernel) rfl), rfl, rfl, (fun z => ⟨rfl, (ga_t2 72 (by decide +kernel) rfl)⟩)⟩
theorem grX10_221 : ga_FR RX10 221 2 1 (.array .int) := ⟨RX2, TX2, 3, "GraphCompare", rfl, by decide, uwX2, Or.inr (ga_t2 73 (by decide +kernel) rfl), rfl⟩
theorem grX2_19 : ga_FR RX2 19 2 2 (.array .boolean) := ⟨RX2, TX2, 3, "", rfl, by decide, uwX2, Or.inl (ga_t2 74 (by decide +kernel) rfl), rfl⟩
theorem gfX2_19 : ga_FS RX2 19 2 2 true (.array .boolean) := ⟨RX2, TX2, 3, tyX2, "", rfl, by decide, uwX2, tyX2_ok, nmX2, Or.inl (ga_t2 74 (by decide +kernel) rfl), rfl, rfl, (fun z => ⟨rfl, (ga_t2 74 (by decide +kernel) rfl)⟩)⟩
theorem grX10_10 : ga_FR RX10 10 10 0 (.object "GraphCompare$Designs") := ⟨RX10, TX10, 8, "", rfl, by decide, uwX10, Or.inl (ga_t2 82 (by decide +kernel) rfl), rfl⟩
theorem gfX10_10 : ga_FS RX10 10 10 0 true (.object "GraphCompare$Designs") := ⟨RX10, TX10, 8, tyX10, "", rfl, by decide, uwX10, tyX10_ok, nmX10, Or.inl (ga_t2 82 (by decide +kernel) rfl), rfl, rfl, (fun z => ⟨rfl, (ga_t2 82 (by decide +kernel) rfl)⟩)⟩
theorem grX10_19 : ga_FR RX10 19 10 1 (.object "GraphCompare$Joining") := ⟨RX10, TX10, 8, "", rfl, by decide, uwX10, Or.inl (ga_t2 83 (by decide +kernel) rfl), rfl⟩
theorem gfX10_19 : ga_FS RX10 19 10 1 true (.object "GraphCompare$Joining") := ⟨RX10, TX10, 8, tyX10, "", rfl, by decide, uwX10, tyX10_ok, nmX10, Or.inl (ga_t2 83 (by decide +kernel) rfl), rfl, rfl, (fun z => ⟨rfl, (ga_t2 83 (by decide +kernel) rfl)⟩)⟩
theorem grX10_26 : ga_FR RX10 26 10 2 (.object "GraphCompare$Classes") := ⟨RX10, TX10, 8, "", rfl, by decide, uwX10, Or.inl (ga_t2 84 (by decide +kernel) rfl), rfl⟩
theorem gfX10_26 : ga_FS RX10 26 10 2 true (.object "GraphCompare$Classes") := ⟨RX10, TX10, 8, tyX10, "", rfl, by decide, uwX10, tyX10_ok, nmX10, Or.inl (ga_t2 84 (by decide +kernel) rfl), rfl, rfl, (fun z => ⟨rfl, (ga_t2 84 (by decide +kernel) rfl)⟩)⟩
theorem grX10_33 : ga_FR RX10 33 10 3 (.object "GraphCompare$Search") := ⟨RX10, TX10, 8, "", rfl, by decide, uwX10, Or.inl (ga_t2 85 (by decide +kernel) rfl), rfl⟩
theorem gfX10_33 : ga_FS RX10 33 10 3 true (.object "GraphCompare$Search") := ⟨RX10, TX10, 8, tyX10, "", rfl, by decide, uwX10, tyX10_ok, nmX10, Or.inl (ga_t2 85 (by decide +kernel) rfl), rfl, rfl, (fun z => ⟨rfl, (ga_t2 85 (by decide +kernel) rfl)⟩)⟩
theorem grX10_40 : ga_FR RX10 40 10 4 (.object "GraphCompare$Match") := ⟨RX10, TX10, 8, "", rfl, by decide, uwX10, Or.inl (ga_t2 86 (by decide +kernel) rfl), rfl⟩
theorem gfX10_40 : ga_FS RX10 40 10 4 true (.object "GraphCompare$Match") := ⟨RX10, TX10, 8, tyX10, "", rfl, by decide, uwX10, tyX10_ok, nmX10, Or.inl (ga_t2 86 (by decide +kernel) rfl), rfl, rfl, (fun z => ⟨rfl, (ga_t2 86 (by decide +kernel) rfl)⟩)⟩
theorem grX10_47 : ga_FR RX10 47 10 5 (.object "GraphCompare$Differences") := ⟨RX10, TX10, 8, "", rfl, by decide, uwX10, Or.inl (ga_t2 87 (by decide +kernel) rfl), rfl⟩
theorem gfX10_47 : ga_FS RX10 47 10 5 true (.object "GraphCompare$Differences") := ⟨RX10, TX10, 8, tyX10, "", rfl, by decide, uwX10, tyX10_ok, nmX10, Or.inl (ga_t2 87 (by decide +kernel) rfl), rfl, rfl, (fun z => ⟨rfl, (ga_t2 87 (by decide +kernel) rfl)⟩)⟩
theorem grX10_51 : ga_FR RX10 51 10 6 .int := ⟨RX10, TX10, 8, "", rfl, by decide, uwX10, Or.inl (ga_t2 88 (by decide +kernel) rfl), rfl⟩
theorem gfX10_51 : ga_FS RX10 51 10 6 false .int := ⟨RX10, TX10, 8, tyX10, "", rfl, by decide, uwX10, tyX10_ok, nmX10, Or.inl (ga_t2 88 (by decide +kernel) rfl), rfl, rfl, (fun z => by cases z)⟩
theorem grX10_55 : ga_FR RX10 55 10 7 .int := ⟨RX10, TX10, 8, "", rfl, by decide, uwX10, Or.inl (ga_t2 89 (by decide +kernel) rfl), rfl⟩
theorem gfX10_55 : ga_FS RX10 55 10 7 false .int := ⟨RX10, TX10, 8, tyX10, "", rfl, by decide, uwX10, tyX10_ok, nmX10, Or.inl (ga_t2 89 (by decide +kernel) rfl), rfl, rfl, (fun z => by cases z)⟩
theorem lkL_109 : Cond.methodLink RL 109 yX10_rounds ∈ ga_big := (ga_t2 107 (by decide +kernel) rfl)
theorem lkL_113 : Cond.methodLink RL 113 yX10_tried ∈ ga_big := (ga_t2 111 (by decide +kernel) rfl)
theorem lkL_117 : Cond.methodLink RL 117 yX10_tested ∈ ga_big := (ga_t2 115 (by decide +kernel) rfl)
theorem lkX10_170 : Cond.methodLink RX10 170 yX1_markUsedNets ∈ ga_big := (ga_t2 119 (by decide +kernel) rfl)
theorem lkX1_28 : Cond.methodLink RX1 28 yX9_markUsedNets ∈ ga_big := (ga_t2 123 (by decide +kernel) rfl)
theorem lkX9_49 : Cond.methodLink RX9 49 yX9_isPort ∈ ga_big := (ga_t2 127 (by decide +kernel) rfl)
theorem lkX9_45 : Cond.methodLink RX9 45 yX9_netOf ∈ ga_big := (ga_t2 131 (by decide +kernel) rfl)
theorem lkX10_224 : Cond.methodLink RX10 224 yX5_isMatchNow ∈ ga_big := (ga_t2 135 (by decide +kernel) rfl)
theorem lkX5_46 : Cond.methodLink RX5 46 yX5_pairsPresent ∈ ga_big := (ga_t2 139 (by decide +kernel) rfl)
theorem lkX5_50 : Cond.methodLink RX5 50 yX5_pairsUsed ∈ ga_big := (ga_t2 142 (by decide +kernel) rfl)
theorem lkX5_53 : Cond.methodLink RX5 53 yX5_allPairsAgree ∈ ga_big := (ga_t2 145 (by decide +kernel) rfl)
theorem lkX5_76 : Cond.methodLink RX5 76 yX5_pairAgrees ∈ ga_big := (ga_t2 149 (by decide +kernel) rfl)
theorem lkX5_91 : Cond.methodLink RX5 91 yX4_sizesAgree ∈ ga_big := (ga_t2 153 (by decide +kernel) rfl)
theorem lkX5_97 : Cond.methodLink RX5 97 yX4_groupOf ∈ ga_big := (ga_t2 157 (by decide +kernel) rfl)
theorem lkX5_101 : Cond.methodLink RX5 101 yX9_netOf ∈ ga_big := (ga_t2 161 (by decide +kernel) rfl)
theorem lkX5_104 : Cond.methodLink RX5 104 yX4_pinsOn ∈ ga_big := (ga_t2 162 (by decide +kernel) rfl)
theorem lkX4_28 : Cond.methodLink RX4 28 yX9_netOf ∈ ga_big := (ga_t2 166 (by decide +kernel) rfl)
theorem lkX4_19 : Cond.methodLink RX4 19 yX4_groupOf ∈ ga_big := (ga_t2 167 (by decide +kernel) rfl)
theorem lkL_59 : Cond.methodLink RL 59 yL_net ∈ ga_big := (ga_t2 168 (by decide +kernel) rfl)
theorem lkL_7 : Cond.methodLink RL 7 yX10_net ∈ ga_big := (ga_t2 174 (by decide +kernel) rfl)
theorem lkX10_58 : Cond.methodLink RX10 58 yX10_sideAt ∈ ga_big := (ga_t2 178 (by decide +kernel) rfl)
theorem lkX10_230 : Cond.methodLink RX10 230 yX1_sideOf ∈ ga_big := (ga_t3 10 (by decide +kernel) rfl)
theorem lkX10_79 : Cond.methodLink RX10 79 yX9_addNet ∈ ga_big := (ga_t3 46 (by decide +kernel) rfl)
theorem lkL_71 : Cond.methodLink RL 71 yL_device ∈ ga_big := (ga_t3 50 (by decide +kernel) rfl)
theorem lkL_19 : Cond.methodLink RL 19 yX10_device ∈ ga_big := (ga_t3 53 (by decide +kernel) rfl)
theorem lkX10_83 : Cond.methodLink RX10 83 yX10_isKind ∈ ga_big := (ga_t3 57 (by decide +kernel) rfl)
theorem lkX10_101 : Cond.methodLink RX10 101 yX9_addDevice ∈ ga_big := (ga_t3 64 (by decide +kernel) rfl)
theorem lkL_75 : Cond.methodLink RL 75 yL_pin ∈ ga_big := (ga_t3 68 (by decide +kernel) rfl)
theorem lkL_23 : Cond.methodLink RL 23 yX10_pin ∈ ga_big := (ga_t3 71 (by decide +kernel) rfl)
theorem lkX10_105 : Cond.methodLink RX10 105 yX9_isDevice ∈ ga_big := (ga_t3 75 (by decide +kernel) rfl)
theorem lkX10_114 : Cond.methodLink RX10 114 yX10_isPin ∈ ga_big := (ga_t3 80 (by decide +kernel) rfl)
theorem lkX10_119 : Cond.methodLink RX10 119 yX9_isNet ∈ ga_big := (ga_t3 84 (by decide +kernel) rfl)
theorem lkX10_124 : Cond.methodLink RX10 124 yX9_connect ∈ ga_big := (ga_t3 89 (by decide +kernel) rfl)
theorem lkL_79 : Cond.methodLink RL 79 yL_swap ∈ ga_big := (ga_t3 93 (by decide +kernel) rfl)
theorem lkL_27 : Cond.methodLink RL 27 yX10_swap ∈ ga_big := (ga_t3 96 (by decide +kernel) rfl)
theorem lkX10_132 : Cond.methodLink RX10 132 yX4_uniteGroups ∈ ga_big := (ga_t3 100 (by decide +kernel) rfl)
theorem lkX4_23 : Cond.methodLink RX4 23 yJ9_min_7cf53 ∈ ga_big := (ga_t3 104 (by decide +kernel) rfl)
theorem lkL_83 : Cond.methodLink RL 83 yL_share ∈ ga_big := (ga_t3 107 (by decide +kernel) rfl)
theorem lkL_31 : Cond.methodLink RL 31 yX10_share ∈ ga_big := (ga_t3 110 (by decide +kernel) rfl)
theorem lkX10_139 : Cond.methodLink RX10 139 yX4_setShare ∈ ga_big := (ga_t3 115 (by decide +kernel) rfl)
theorem lkL_87 : Cond.methodLink RL 87 yL_port ∈ ga_big := (ga_t3 119 (by decide +kernel) rfl)
theorem lkL_35 : Cond.methodLink RL 35 yX10_port ∈ ga_big := (ga_t3 122 (by decide +kernel) rfl)
theorem lkX10_143 : Cond.methodLink RX10 143 yX9_portNamed ∈ ga_big := (ga_t3 126 (by decide +kernel) rfl)
theorem lkX10_149 : Cond.methodLink RX10 149 yX9_makePort ∈ ga_big := (ga_t3 131 (by decide +kernel) rfl)
theorem lkL_90 : Cond.methodLink RL 90 yL_join ∈ ga_big := (ga_t3 135 (by decide +kernel) rfl)
theorem lkL_38 : Cond.methodLink RL 38 yX10_join ∈ ga_big := (ga_t3 138 (by decide +kernel) rfl)
theorem lkX10_155 : Cond.methodLink RX10 155 yX3_joinAll ∈ ga_big := (ga_t3 143 (by decide +kernel) rfl)
theorem lkX3_15 : Cond.methodLink RX3 15 yX3_joinFirstPair ∈ ga_big := (ga_t3 147 (by decide +kernel) rfl)
theorem lkX3_19 : Cond.methodLink RX3 19 yX3_countPins ∈ ga_big := (ga_t3 151 (by decide +kernel) rfl)
theorem lkX3_37 : Cond.methodLink RX3 37 yJ7_fill_53178 ∈ ga_big := (ga_t3 155 (by decide +kernel) rfl)
theorem lkX3_47 : Cond.methodLink RX3 47 yX9_netOf ∈ ga_big := (ga_t3 156 (by decide +kernel) rfl)
theorem lkX3_29 : Cond.methodLink RX3 29 yX3_areOfOneKind ∈ ga_big := (ga_t3 157 (by decide +kernel) rfl)
theorem lkX3_33 : Cond.methodLink RX3 33 yX3_joinPair ∈ ga_big := (ga_t3 160 (by decide +kernel) rfl)
theorem lkX3_54 : Cond.methodLink RX3 54 yX3_joinParallel ∈ ga_big := (ga_t3 164 (by decide +kernel) rfl)
theorem lkX3_61 : Cond.methodLink RX3 61 yX4_groupOf ∈ ga_big := (ga_t3 167 (by decide +kernel) rfl)
theorem lkX3_66 : Cond.methodLink RX3 66 yX4_pinsOn ∈ ga_big := (ga_t3 168 (by decide +kernel) rfl)
theorem lkX3_58 : Cond.methodLink RX3 58 yX3_joinSeries ∈ ga_big := (ga_t3 169 (by decide +kernel) rfl)
theorem lkX3_74 : Cond.methodLink RX3 74 yX3_hasTwoEnds ∈ ga_big := (ga_t3 173 (by decide +kernel) rfl)
theorem lkX3_77 : Cond.methodLink RX3 77 yX3_netBetween ∈ ga_big := (ga_t3 176 (by decide +kernel) rfl)
theorem lkX3_89 : Cond.methodLink RX3 89 yX9_isPort ∈ ga_big := (ga_t3 180 (by decide +kernel) rfl)
theorem lkX3_81 : Cond.methodLink RX3 81 yX9_connect ∈ ga_big := (ga_t3 181 (by decide +kernel) rfl)
theorem lkX3_85 : Cond.methodLink RX3 85 yX3_sizeInSeries ∈ ga_big := (ga_t3 182 (by decide +kernel) rfl)
theorem lkX10_159 : Cond.methodLink RX10 159 yX9_presentCount ∈ ga_big := (ga_t3 185 (by decide +kernel) rfl)
theorem lkL_95 : Cond.methodLink RL 95 yL_run ∈ ga_big := (ga_t3 189 (by decide +kernel) rfl)
theorem lkL_41 : Cond.methodLink RL 41 yX10_run ∈ ga_big := (ga_t3 192 (by decide +kernel) rfl)
theorem lkX10_166 : Cond.methodLink RX10 166 yX5_forget ∈ ga_big := (ga_t3 198 (by decide +kernel) rfl)
theorem lkX10_169 : Cond.methodLink RX10 169 yX2_forget ∈ ga_big := (ga_t3 199 (by decide +kernel) rfl)
theorem lkX10_173 : Cond.methodLink RX10 173 yX0_divide ∈ ga_big := (ga_t3 203 (by decide +kernel) rfl)
theorem lkX0_34 : Cond.methodLink RX0 34 yX0_enterAll ∈ ga_big := (ga_t3 207 (by decide +kernel) rfl)
theorem lkX0_70 : Cond.methodLink RX0 70 yX7_empty ∈ ga_big := (ga_t3 211 (by decide +kernel) rfl)
theorem lkX7_40 : Cond.methodLink RX7 40 yJ7_fill_53178 ∈ ga_big := (ga_t3 215 (by decide +kernel) rfl)
theorem lkX7_46 : Cond.methodLink RX7 46 yX7_forgetCodes ∈ ga_big := (ga_t3 216 (by decide +kernel) rfl)
theorem lkX0_73 : Cond.methodLink RX0 73 yX1_sideOf ∈ ga_big := (ga_t3 220 (by decide +kernel) rfl)
theorem lkX0_80 : Cond.methodLink RX0 80 yX7_enter ∈ ga_big := (ga_t3 221 (by decide +kernel) rfl)
theorem lkX7_49 : Cond.methodLink RX7 49 yX7_addCode ∈ ga_big := (ga_t3 225 (by decide +kernel) rfl)
theorem lkX0_92 : Cond.methodLink RX0 92 yX7_split ∈ ga_big := (ga_t3 229 (by decide +kernel) rfl)
theorem lkX7_53 : Cond.methodLink RX7 53 yX7_partLike ∈ ga_big := (ga_t3 233 (by decide +kernel) rfl)
theorem lkX7_57 : Cond.methodLink RX7 57 yX7_haveSameCodes ∈ ga_big := (ga_t3 237 (by decide +kernel) rfl)
theorem lkX0_38 : Cond.methodLink RX0 38 yX0_makeRound ∈ ga_big := (ga_t4 1 (by decide +kernel) rfl)
theorem lkX0_96 : Cond.methodLink RX0 96 yX7_forgetCodes ∈ ga_big := (ga_t4 5 (by decide +kernel) rfl)
theorem lkX0_103 : Cond.methodLink RX0 103 yX0_addCodes ∈ ga_big := (ga_t4 6 (by decide +kernel) rfl)
theorem lkX0_107 : Cond.methodLink RX0 107 yX4_groupOf ∈ ga_big := (ga_t4 10 (by decide +kernel) rfl)
theorem lkX0_112 : Cond.methodLink RX0 112 yX9_netOf ∈ ga_big := (ga_t4 11 (by decide +kernel) rfl)
theorem lkX0_115 : Cond.methodLink RX0 115 yX7_addCode ∈ ga_big := (ga_t4 12 (by decide +kernel) rfl)
theorem lkX0_48 : Cond.methodLink RX0 48 yX0_countMembers ∈ ga_big := (ga_t4 13 (by decide +kernel) rfl)
theorem lkX0_118 : Cond.methodLink RX0 118 yJ7_fill_53178 ∈ ga_big := (ga_t4 17 (by decide +kernel) rfl)
theorem lkX0_67 : Cond.methodLink RX0 67 yX0_classOf ∈ ga_big := (ga_t4 18 (by decide +kernel) rfl)
theorem lkX10_177 : Cond.methodLink RX10 177 yX1_haveAsMuch ∈ ga_big := (ga_t4 22 (by decide +kernel) rfl)
theorem lkX1_31 : Cond.methodLink RX1 31 yX9_presentCount ∈ ga_big := (ga_t4 26 (by decide +kernel) rfl)
theorem lkX1_35 : Cond.methodLink RX1 35 yX9_usedCount ∈ ga_big := (ga_t4 27 (by decide +kernel) rfl)
theorem lkX1_38 : Cond.methodLink RX1 38 yX1_nextUnevenName ∈ ga_big := (ga_t4 31 (by decide +kernel) rfl)
theorem lkX1_42 : Cond.methodLink RX1 42 yX9_nextPortName ∈ ga_big := (ga_t4 35 (by decide +kernel) rfl)
theorem lkX10_181 : Cond.methodLink RX10 181 yX8_find ∈ ga_big := (ga_t4 39 (by decide +kernel) rfl)
theorem lkX8_51 : Cond.methodLink RX8 51 yX8_begin ∈ ga_big := (ga_t4 43 (by decide +kernel) rfl)
theorem lkX8_107 : Cond.methodLink RX8 107 yJ7_fill_53178 ∈ ga_big := (ga_t4 47 (by decide +kernel) rfl)
theorem lkX8_117 : Cond.methodLink RX8 117 yX8_sortByPorts ∈ ga_big := (ga_t4 48 (by decide +kernel) rfl)
theorem lkX8_121 : Cond.methodLink RX8 121 yX9_isPort ∈ ga_big := (ga_t4 51 (by decide +kernel) rfl)
theorem lkX8_128 : Cond.methodLink RX8 128 yX9_portNamed ∈ ga_big := (ga_t4 52 (by decide +kernel) rfl)
theorem lkX8_55 : Cond.methodLink RX8 55 yX8_nextCandidate ∈ ga_big := (ga_t4 53 (by decide +kernel) rfl)
theorem lkX8_132 : Cond.methodLink RX8 132 yX0_classOf ∈ ga_big := (ga_t4 57 (by decide +kernel) rfl)
theorem lkX8_59 : Cond.methodLink RX8 59 yX8_undo ∈ ga_big := (ga_t4 58 (by decide +kernel) rfl)
theorem lkX8_63 : Cond.methodLink RX8 63 yX8_pairUp ∈ ga_big := (ga_t4 62 (by decide +kernel) rfl)
theorem lkX8_149 : Cond.methodLink RX8 149 yX4_sizesAgree ∈ ga_big := (ga_t4 66 (by decide +kernel) rfl)
theorem lkX8_155 : Cond.methodLink RX8 155 yX6_lookAt ∈ ga_big := (ga_t4 67 (by decide +kernel) rfl)
theorem lkX6_25 : Cond.methodLink RX6 25 yX9_netOf ∈ ga_big := (ga_t4 71 (by decide +kernel) rfl)
theorem lkX6_34 : Cond.methodLink RX6 34 yX4_groupOf ∈ ga_big := (ga_t4 72 (by decide +kernel) rfl)
theorem lkX6_39 : Cond.methodLink RX6 39 yX6_placeOf ∈ ga_big := (ga_t4 73 (by decide +kernel) rfl)
theorem lkX8_159 : Cond.methodLink RX8 159 yX8_findMates ∈ ga_big := (ga_t4 77 (by decide +kernel) rfl)
theorem lkX8_172 : Cond.methodLink RX8 172 yX6_placeWith ∈ ga_big := (ga_t4 81 (by decide +kernel) rfl)
theorem lkX8_163 : Cond.methodLink RX8 163 yX8_changeSorts ∈ ga_big := (ga_t4 85 (by decide +kernel) rfl)
theorem lkX10_192 : Cond.methodLink RX10 192 yX0_alikeOnFirstSide ∈ ga_big := (ga_t4 89 (by decide +kernel) rfl)
theorem lkX10_196 : Cond.methodLink RX10 196 yX8_keep ∈ ga_big := (ga_t4 93 (by decide +kernel) rfl)
theorem lkX8_73 : Cond.methodLink RX8 73 yX5_pairDevices ∈ ga_big := (ga_t4 97 (by decide +kernel) rfl)
theorem lkX8_94 : Cond.methodLink RX8 94 yX8_keepNet ∈ ga_big := (ga_t4 101 (by decide +kernel) rfl)
theorem lkX8_104 : Cond.methodLink RX8 104 yX5_pairNets ∈ ga_big := (ga_t4 105 (by decide +kernel) rfl)
theorem lkX10_200 : Cond.methodLink RX10 200 yX2_list ∈ ga_big := (ga_t4 109 (by decide +kernel) rfl)
theorem lkX2_23 : Cond.methodLink RX2 23 yX2_listKinds ∈ ga_big := (ga_t4 113 (by decide +kernel) rfl)
theorem lkX2_47 : Cond.methodLink RX2 47 yX9_presentOfKind ∈ ga_big := (ga_t4 117 (by decide +kernel) rfl)
theorem lkX2_37 : Cond.methodLink RX2 37 yX2_add ∈ ga_big := (ga_t4 121 (by decide +kernel) rfl)
theorem lkX2_27 : Cond.methodLink RX2 27 yX2_listNets ∈ ga_big := (ga_t4 125 (by decide +kernel) rfl)
theorem lkX2_56 : Cond.methodLink RX2 56 yX9_usedCount ∈ ga_big := (ga_t4 129 (by decide +kernel) rfl)
theorem lkX2_30 : Cond.methodLink RX2 30 yX2_listNames ∈ ga_big := (ga_t4 130 (by decide +kernel) rfl)
theorem lkX2_60 : Cond.methodLink RX2 60 yX1_nextUnevenName ∈ ga_big := (ga_t4 134 (by decide +kernel) rfl)
theorem lkX2_63 : Cond.methodLink RX2 63 yX9_portNamed ∈ ga_big := (ga_t4 135 (by decide +kernel) rfl)
theorem lkX2_33 : Cond.methodLink RX2 33 yX2_listClasses ∈ ga_big := (ga_t4 136 (by decide +kernel) rfl)
theorem lkX2_66 : Cond.methodLink RX2 66 yX1_sideOf ∈ ga_big := (ga_t4 140 (by decide +kernel) rfl)
theorem lkX2_76 : Cond.methodLink RX2 76 yX0_classOf ∈ ga_big := (ga_t4 141 (by decide +kernel) rfl)
theorem lkX2_82 : Cond.methodLink RX2 82 yX2_listClass ∈ ga_big := (ga_t4 142 (by decide +kernel) rfl)
theorem lkL_99 : Cond.methodLink RL 99 yL_match ∈ ga_big := (ga_t4 146 (by decide +kernel) rfl)
theorem lkL_45 : Cond.methodLink RL 45 yX10_match ∈ ga_big := (ga_t4 149 (by decide +kernel) rfl)
theorem lkL_102 : Cond.methodLink RL 102 yL_netMatch ∈ ga_big := (ga_t4 153 (by decide +kernel) rfl)
theorem lkL_48 : Cond.methodLink RL 48 yX10_netMatch ∈ ga_big := (ga_t4 156 (by decide +kernel) rfl)
theorem lkL_106 : Cond.methodLink RL 106 yL_differs ∈ ga_big := (ga_t4 160 (by decide +kernel) rfl)
theorem lkL_52 : Cond.methodLink RL 52 yX10_differs ∈ ga_big := (ga_t4 163 (by decide +kernel) rfl)
theorem nsL_56 : ga_NS RL 56 11 32 [Vi 0, Vn, Vn, Vn, Vn, Vn, Vn, Vn, Vn, Vn, Vn, Vn, Vn, Vn, Vi 0, Vi 0, Vn, Vi 0, Vi 0, Vn, Vn, Vn, Vi 0, Vn, Vn, Vn, Vn, Vn, Vn, Vn, Vl 0, Vl 0] := ⟨RX11, TX11, tyX11, rfl, uwX11, tyX11_ok, (ga_t4 169 (by decide +kernel) rfl), (ga_t4 170 (by decide +kernel) rfl), (ga_t1 13 (by decide +kernel) rfl), (by intro v hv; simp only [List.mem_cons, List.not_mem_nil, or_false] at hv; rcases hv with rfl | rfl | rfl | rfl | rfl | rfl | rfl | rfl | rfl | rfl | rfl | rfl | rfl | rfl | rfl | rfl | rfl | rfl | rfl | rfl | rfl | rfl | rfl | rfl | rfl | rfl | rfl | rfl | rfl | rfl | rfl | rfl <;> first | exact ga_in0 | exact ga_inL0 | trivial), fun ad j hj => by
  rcases Nat.lt_or_ge j 1 with q | q
  · obtain rfl : j = 0 := by omega
    rfl
  rcases Nat.lt_or_ge j 2 with q | q
  · obtain rfl : j = 1 := by omega
    rfl
  rcases Nat.lt_or_ge j 3 with q | q
  · obtain rfl : j = 2 := by omega
    rfl
  rcases Nat.lt_or_ge j 4 with q | q
  · obtain rfl : j = 3 := by omega
    rfl
  rcases Nat.lt_or_ge j 5 with q | q
  · obtain rfl : j = 4 := by omega
    rfl
  rcases Nat.lt_or_ge j 6 with q | q
  · obtain rfl : j = 5 := by omega
    rfl
  rcases Nat.lt_or_ge j 7 with q | q
  · obtain rfl : j = 6 := by omega
    rfl
  rcases Nat.lt_or_ge j 8 with q | q
  · obtain rfl : j = 7 := by omega
    rfl
  rcases Nat.lt_or_ge j 9 with q | q
  · obtain rfl : j = 8 := by omega
    rfl
  rcases Nat.lt_or_ge j 10 with q | q
  · obtain rfl : j = 9 := by omega
    rfl
  rcases Nat.lt_or_ge j 11 with q | q
  · obtain rfl : j = 10 := by omega
    rfl
  rcases Nat.lt_or_ge j 12 with q | q
  · obtain rfl : j = 11 := by omega
    rfl
  rcases Nat.lt_or_ge j 13 with q | q
  · obtain rfl : j = 12 := by omega
    rfl
  rcases Nat.lt_or_ge j 14 with q | q
  · obtain rfl : j = 13 := by omega
    rfl
  rcases Nat.lt_or_ge j 15 with q | q
  · obtain rfl : j = 14 := by omega
    rfl
  rcases Nat.lt_or_ge j 16 with q | q
  · obtain rfl : j = 15 := by omega
    rfl
  rcases Nat.lt_or_ge j 17 with q | q
  · obtain rfl : j = 16 := by omega
    rfl
  rcases Nat.lt_or_ge j 18 with q | q
  · obtain rfl : j = 17 := by omega
    rfl
  rcases Nat.lt_or_ge j 19 with q | q
  · obtain rfl : j = 18 := by omega
    rfl
  rcases Nat.lt_or_ge j 20 with q | q
  · obtain rfl : j = 19 := by omega
    rfl
  rcases Nat.lt_or_ge j 21 with q | q
  · obtain rfl : j = 20 := by omega
    rfl
  rcases Nat.lt_or_ge j 22 with q | q
  · obtain rfl : j = 21 := by omega
    rfl
  rcases Nat.lt_or_ge j 23 with q | q
  · obtain rfl : j = 22 := by omega
    rfl
  rcases Nat.lt_or_ge j 24 with q | q
  · obtain rfl : j = 23 := by omega
    rfl
  rcases Nat.lt_or_ge j 25 with q | q
  · obtain rfl : j = 24 := by omega
    rfl
  rcases Nat.lt_or_ge j 26 with q | q
  · obtain rfl : j = 25 := by omega
    rfl
  rcases Nat.lt_or_ge j 27 with q | q
  · obtain rfl : j = 26 := by omega
    rfl
  rcases Nat.lt_or_ge j 28 with q | q
  · obtain rfl : j = 27 := by omega
    rfl
  rcases Nat.lt_or_ge j 29 with q | q
  · obtain rfl : j = 28 := by omega
    rfl
  rcases Nat.lt_or_ge j 30 with q | q
  · obtain rfl : j = 29 := by omega
    rfl
  rcases Nat.lt_or_ge j 31 with q | q
  · obtain rfl : j = 30 := by omega
    rfl
  rcases Nat.lt_or_ge j 32 with q | q
  · obtain rfl : j = 31 := by omega
    rfl
  omega⟩
theorem lkL_58 : Cond.methodLink RL 58 yX11_init ∈ ga_big := (ga_t4 171 (by decide +kernel) rfl)
theorem lkX11_1 : Cond.methodLink RX11 1 Lib.objectInit ∈ ga_big := (ga_t4 174 (by decide +kernel) rfl)
theorem grX11_84 : ga_FR RX11 84 11 0 .int := ⟨RX11, TX11, 32, "", rfl, by decide, uwX11, Or.inl (ga_t4 175 (by decide +kernel) rfl), rfl⟩
theorem gfX11_84 : ga_FS RX11 84 11 0 false .int := ⟨RX11, TX11, 32, tyX11, "", rfl, by decide, uwX11, tyX11_ok, nmX11, Or.inl (ga_t4 175 (by decide +kernel) rfl), rfl, rfl, (fun z => by cases z)⟩
theorem grX11_7 : ga_FR RX11 7 11 1 (.array .int) := ⟨RX11, TX11, 32, "", rfl, by decide, uwX11, Or.inl (ga_t4 176 (by decide +kernel) rfl), rfl⟩
theorem gfX11_7 : ga_FS RX11 7 11 1 true (.array .int) := ⟨RX11, TX11, 32, tyX11, "", rfl, by decide, uwX11, tyX11_ok, nmX11, Or.inl (ga_t4 176 (by decide +kernel) rfl), rfl, rfl, (fun z => ⟨rfl, (ga_t4 176 (by decide +kernel) rfl)⟩)⟩
theorem grX11_13 : ga_FR RX11 13 11 2 (.array .int) := ⟨RX11, TX11, 32, "", rfl, by decide, uwX11, Or.inl (ga_t4 177 (by decide +kernel) rfl), rfl⟩
theorem gfX11_13 : ga_FS RX11 13 11 2 true (.array .int) := ⟨RX11, TX11, 32, tyX11, "", rfl, by decide, uwX11, tyX11_ok, nmX11, Or.inl (ga_t4 177 (by decide +kernel) rfl), rfl, rfl, (fun z => ⟨rfl, (ga_t4 177 (by decide +kernel) rfl)⟩)⟩
theorem grX11_16 : ga_FR RX11 16 11 3 (.array .int) := ⟨RX11, TX11, 32, "", rfl, by decide, uwX11, Or.inl (ga_t4 178 (by decide +kernel) rfl), rfl⟩
theorem gfX11_16 : ga_FS RX11 16 11 3 true (.array .int) := ⟨RX11, TX11, 32, tyX11, "", rfl, by decide, uwX11, tyX11_ok, nmX11, Or.inl (ga_t4 178 (by decide +kernel) rfl), rfl, rfl, (fun z => ⟨rfl, (ga_t4 178 (by decide +kernel) rfl)⟩)⟩
theorem grX11_19 : ga_FR RX11 19 11 4 (.array .double) := ⟨RX11, TX11, 32, "", rfl, by decide, uwX11, Or.inl (ga_t4 179 (by decide +kernel) rfl), rfl⟩
theorem gfX11_19 : ga_FS RX11 19 11 4 true (.array .double) := ⟨RX11, TX11, 32, tyX11, "", rfl, by decide, uwX11, tyX11_ok, nmX11, Or.inl (ga_t4 179 (by decide +kernel) rfl), rfl, rfl, (fun z => ⟨rfl, (ga_t4 179 (by decide +kernel) rfl)⟩)⟩
theorem grX11_23 : ga_FR RX11 23 11 5 (.array .boolean) := ⟨RX11, TX11, 32, "", rfl, by decide, uwX11, Or.inl (ga_t4 180 (by decide +kernel) rfl), rfl⟩
theorem gfX11_23 : ga_FS RX11 23 11 5 true (.array .boolean) := ⟨RX11, TX11, 32, tyX11, "", rfl, by decide, uwX11, tyX11_ok, nmX11, Or.inl (ga_t4 180 (by decide +kernel) rfl), rfl, rfl, (fun z => ⟨rfl, (ga_t4 180 (by decide +kernel) rfl)⟩)⟩
theorem grX11_27 : ga_FR RX11 27 11 6 (.array .int) := ⟨RX11, TX11, 32, "", rfl, by decide, uwX11, Or.inl (ga_t4 181 (by decide +kernel) rfl), rfl⟩
theorem gfX11_27 : ga_FS RX11 27 11 6 true (.array .int) := ⟨RX11, TX11, 32, tyX11, "", rfl, by decide, uwX11, tyX11_ok, nmX11, Or.inl (ga_t4 181 (by decide +kernel) rfl), rfl, rfl, (fun z => ⟨rfl, (ga_t4 181 (by decide +kernel) rfl)⟩)⟩
theorem grX11_30 : ga_FR RX11 30 11 7 (.array .int) := ⟨RX11, TX11, 32, "", rfl, by decide, uwX11, Or.inl (ga_t4 182 (by decide +kernel) rfl), rfl⟩
theorem gfX11_30 : ga_FS RX11 30 11 7 true (.array .int) := ⟨RX11, TX11, 32, tyX11, "", rfl, by decide, uwX11, tyX11_ok, nmX11, Or.inl (ga_t4 182 (by decide +kernel) rfl), rfl, rfl, (fun z => ⟨rfl, (ga_t4 182 (by decide +kernel) rfl)⟩)⟩
theorem grX11_33 : ga_FR RX11 33 11 8 (.array .int) := ⟨RX11, TX11, 32, "", rfl, by decide, uwX11, Or.inl (ga_t4 183 (by decide +kernel) rfl), rfl⟩
theorem gfX11_33 : ga_FS RX11 33 11 8 true (.array .int) := ⟨RX11, TX11, 32, tyX11, "", rfl, by decide, uwX11, tyX11_ok, nmX11, Or.inl (ga_t4 183 (by decide +kernel) rfl), rfl, rfl, (fun z => ⟨rfl, (ga_t4 183 (by decide +kernel) rfl)⟩)⟩
theorem grX11_36 : ga_FR RX11 36 11 9 (.array .double) := ⟨RX11, TX11, 32, "", rfl, by decide, uwX11, Or.inl (ga_t4 184 (by decide +kernel) rfl), rfl⟩
theorem gfX11_36 : ga_FS RX11 36 11 9 true (.array .double) := ⟨RX11, TX11, 32, tyX11, "", rfl, by decide, uwX11, tyX11_ok, nmX11, Or.inl (ga_t4 184 (by decide +kernel) rfl), rfl, rfl, (fun z => ⟨rfl, (ga_t4 184 (by decide +kernel) rfl)⟩)⟩
theorem grX11_39 : ga_FR RX11 39 11 10 (.array .int) := ⟨RX11, TX11, 32, "", rfl, by decide, uwX11, Or.inl (ga_t4 185 (by decide +kernel) rfl), rfl⟩
theorem gfX11_39 : ga_FS RX11 39 11 10 true (.array .int) := ⟨RX11, TX11, 32, tyX11, "", rfl, by decide, uwX11, tyX11_ok, nmX11, Or.inl (ga_t4 185 (by decide +kernel) rfl), rfl, rfl, (fun z => ⟨rfl, (ga_t4 185 (by decide +kernel) rfl)⟩)⟩
theorem grX11_42 : ga_FR RX11 42 11 11 (.array .int) := ⟨RX11, TX11, 32, "", rfl, by decide, uwX11, Or.inl (ga_t4 186 (by decide +kernel) rfl), rfl⟩
theorem gfX11_42 : ga_FS RX11 42 11 11 true (.array .int) := ⟨RX11, TX11, 32, tyX11, "", rfl, by decide, uwX11, tyX11_ok, nmX11, Or.inl (ga_t4 186 (by decide +kernel) rfl), rfl, rfl, (fun z => ⟨rfl, (ga_t4 186 (by decide +kernel) rfl)⟩)⟩
theorem grX11_45 : ga_FR RX11 45 11 12 (.array .int) := ⟨RX11, TX11, 32, "", rfl, by decide, uwX11, Or.inl (ga_t4 187 (by decide +kernel) rfl), rfl⟩
theorem gfX11_45 : ga_FS RX11 45 11 12 true (.array .int) := ⟨RX11, TX11, 32, tyX11, "", rfl, by decide, uwX11, tyX11_ok, nmX11, Or.inl (ga_t4 187 (by decide +kernel) rfl), rfl, rfl, (fun z => ⟨rfl, (ga_t4 187 (by decide +kernel) rfl)⟩)⟩
theorem grX11_48 : ga_FR RX11 48 11 13 (.array .int) := ⟨RX11, TX11, 32, "", rfl, by decide, uwX11, Or.inl (ga_t4 188 (by decide +kernel) rfl), rfl⟩
theorem gfX11_48 : ga_FS RX11 48 11 13 true (.array .int) := ⟨RX11, TX11, 32, tyX11, "", rfl, by decide, uwX11, tyX11_ok, nmX11, Or.inl (ga_t4 188 (by decide +kernel) rfl), rfl, rfl, (fun z => ⟨rfl, (ga_t4 188 (by decide +kernel) rfl)⟩)⟩
theorem grX11_162 : ga_FR RX11 162 11 14 .int := ⟨RX11, TX11, 32, "", rfl, by decide, uwX11, Or.inl (ga_t4 189 (by decide +kernel) rfl), rfl⟩
theorem gfX11_162 : ga_FS RX11 162 11 14 false .int := ⟨RX11, TX11, 32, tyX11, "", rfl, by decide, uwX11, tyX11_ok, nmX11, Or.inl (ga_t4 189 (by decide +kernel) rfl), rfl, rfl, (fun z => by cases z)⟩
theorem grX11_168 : ga_FR RX11 168 11 15 .int := ⟨RX11, TX11, 32, "", rfl, by decide, uwX11, Or.inl (ga_t4 190 (by decide +kernel) rfl), rfl⟩
theorem gfX11_168 : ga_FS RX11 168 11 15 false .int := ⟨RX11, TX11, 32, tyX11, "", rfl, by decide, uwX11, tyX11_ok, nmX11, Or.inl (ga_t4 190 (by decide +kernel) rfl), rfl, rfl, (fun z => by cases z)⟩
theorem grX11_51 : ga_FR RX11 51 11 16 (.array .int) := ⟨RX11, TX11, 32, "", rfl, by decide, uwX11, Or.inl (ga_t4 191 (by decide +kernel) rfl), rfl⟩
theorem gfX11_51 : ga_FS RX11 51 11 16 true (.array .int) := ⟨RX11, TX11, 32, tyX11, "", rfl, by decide, uwX11, tyX11_ok, nmX11, Or.inl (ga_t4 191 (by decide +kernel) rfl), rfl, rfl, (fun z => ⟨rfl, (ga_t4 191 (by decide +kernel) rfl)⟩)⟩
theorem grX11_218 : ga_FR RX11 218 11 17 .int := ⟨RX11, TX11, 32, "", rfl, by decide, uwX11, Or.inl (ga_t4 192 (by decide +kernel) rfl), rfl⟩
theorem gfX11_218 : ga_FS RX11 218 11 17 false .int := ⟨RX11, TX11, 32, tyX11, "", rfl, by decide, uwX11, tyX11_ok, nmX11, Or.inl (ga_t4 192 (by decide +kernel) rfl), rfl, rfl, (fun z => by cases z)⟩
theorem grX11_214 : ga_FR RX11 214 11 18 .boolean := ⟨RX11, TX11, 32, "", rfl, by decide, uwX11, Or.inl (ga_t4 193 (by decide +kernel) rfl), rfl⟩
theorem gfX11_214 : ga_FS RX11 214 11 18 false .boolean := ⟨RX11, TX11, 32, tyX11, "", rfl, by decide, uwX11, tyX11_ok, nmX11, Or.inl (ga_t4 193 (by decide +kernel) rfl), rfl, rfl, (fun z => by cases z)⟩
theorem grX11_54 : ga_FR RX11 54 11 19 (.array .int) := ⟨RX11, TX11, 32, "", rfl, by decide, uwX11, Or.inl (ga_t4 194 (by decide +kernel) rfl), rfl⟩
theorem gfX11_54 : ga_FS RX11 54 11 19 true (.array .int) := ⟨RX11, TX11, 32, tyX11, "", rfl, by decide, uwX11, tyX11_ok, nmX11, Or.inl (ga_t4 194 (by decide +kernel) rfl), rfl, rfl, (fun z => ⟨rfl, (ga_t4 194 (by decide +kernel) rfl)⟩)⟩
theorem grX11_57 : ga_FR RX11 57 11 20 (.array .int) := ⟨RX11, TX11, 32, "", rfl, by decide, uwX11, Or.inl (ga_t4 195 (by decide +kernel) rfl), rfl⟩
theorem gfX11_57 : ga_FS RX11 57 11 20 true (.array .int) := ⟨RX11, TX11, 32, tyX11, "", rfl, by decide, uwX11, tyX11_ok, nmX11, Or.inl (ga_t4 195 (by decide +kernel) rfl), rfl, rfl, (fun z => ⟨rfl, (ga_t4 195 (by decide +kernel) rfl)⟩)⟩
theorem grX11_60 : ga_FR RX11 60 11 21 (.array .int) := ⟨RX11, TX11, 32, "", rfl, by decide, uwX11, Or.inl (ga_t4 196 (by decide +kernel) rfl), rfl⟩
theorem gfX11_60 : ga_FS RX11 60 11 21 true (.array .int) := ⟨RX11, TX11, 32, tyX11, "", rfl, by decide, uwX11, tyX11_ok, nmX11, Or.inl (ga_t4 196 (by decide +kernel) rfl), rfl, rfl, (fun z => ⟨rfl, (ga_t4 196 (by decide +kernel) rfl)⟩)⟩
theorem grX11_194 : ga_FR RX11 194 11 22 .int := ⟨RX11, TX11, 32, "", rfl, by decide, uwX11, Or.inl (ga_t4 197 (by decide +kernel) rfl), rfl⟩
theorem gfX11_194 : ga_FS RX11 194 11 22 false .int := ⟨RX11, TX11, 32, tyX11, "", rfl, by decide, uwX11, tyX11_ok, nmX11, Or.inl (ga_t4 197 (by decide +kernel) rfl), rfl, rfl, (fun z => by cases z)⟩
theorem grX11_63 : ga_FR RX11 63 11 23 (.array .int) := ⟨RX11, TX11, 32, "", rfl, by decide, uwX11, Or.inl (ga_t4 198 (by decide +kernel) rfl), rfl⟩
theorem gfX11_63 : ga_FS RX11 63 11 23 true (.array .int) := ⟨RX11, TX11, 32, tyX11, "", rfl, by decide, uwX11, tyX11_ok, nmX11, Or.inl (ga_t4 198 (by decide +kernel) rfl), rfl, rfl, (fun z => ⟨rfl, (ga_t4 198 (by decide +kernel) rfl)⟩)⟩
theorem grX11_66 : ga_FR RX11 66 11 24 (.array .boolean) := ⟨RX11, TX11, 32, "", rfl, by decide, uwX11, Or.inl (ga_t4 199 (by decide +kernel) rfl), rfl⟩
theorem gfX11_66 : ga_FS RX11 66 11 24 true (.array .boolean) := ⟨RX11, TX11, 32, tyX11, "", rfl, by decide, uwX11, tyX11_ok, nmX11, Or.inl (ga_t4 199 (by decide +kernel) rfl), rfl, rfl, (fun z => ⟨rfl, (ga_t4 199 (by decide +kernel) rfl)⟩)⟩
theorem grX11_69 : ga_FR RX11 69 11 25 (.array .int) := ⟨RX11, TX11, 32, "", rfl, by decide, uwX11, Or.inl (ga_t4 200 (by decide +kernel) rfl), rfl⟩
theorem gfX11_69 : ga_FS RX11 69 11 25 true (.array .int) := ⟨RX11, TX11, 32, tyX11, "", rfl, by decide, uwX11, tyX11_ok, nmX11, Or.inl (ga_t4 200 (by decide +kernel) rfl), rfl, rfl, (fun z => ⟨rfl, (ga_t4 200 (by decide +kernel) rfl)⟩)⟩
theorem grX11_72 : ga_FR RX11 72 11 26 (.array .int) := ⟨RX11, TX11, 32, "", rfl, by decide, uwX11, Or.inl (ga_t4 201 (by decide +kernel) rfl), rfl⟩
theorem gfX11_72 : ga_FS RX11 72 11 26 true (.array .int) := ⟨RX11, TX11, 32, tyX11, "", rfl, by decide, uwX11, tyX11_ok, nmX11, Or.inl (ga_t4 201 (by decide +kernel) rfl), rfl, rfl, (fun z => ⟨rfl, (ga_t4 201 (by decide +kernel) rfl)⟩)⟩
theorem grX11_75 : ga_FR RX11 75 11 27 (.array .int) := ⟨RX11, TX11, 32, "", rfl, by decide, uwX11, Or.inl (ga_t4 202 (by decide +kernel) rfl), rfl⟩
theorem gfX11_75 : ga_FS RX11 75 11 27 true (.array .int) := ⟨RX11, TX11, 32, tyX11, "", rfl, by decide, uwX11, tyX11_ok, nmX11, Or.inl (ga_t4 202 (by decide +kernel) rfl), rfl, rfl, (fun z => ⟨rfl, (ga_t4 202 (by decide +kernel) rfl)⟩)⟩
theorem grX11_78 : ga_FR RX11 78 11 28 (.array .boolean) := ⟨RX11, TX11, 32, "", rfl, by decide, uwX11, Or.inl (ga_t4 203 (by decide +kernel) rfl), rfl⟩
theorem gfX11_78 : ga_FS RX11 78 11 28 true (.array .boolean) := ⟨RX11, TX11, 32, tyX11, "", rfl, by decide, uwX11, tyX11_ok, nmX11, Or.inl (ga_t4 203 (by decide +kernel) rfl), rfl, rfl, (fun z => ⟨rfl, (ga_t4 203 (by decide +kernel) rfl)⟩)⟩
theorem grX11_81 : ga_FR RX11 81 11 29 (.array .int) := ⟨RX11, TX11, 32, "", rfl, by decide, uwX11, Or.inl (ga_t4 204 (by decide +kernel) rfl), rfl⟩
theorem gfX11_81 : ga_FS RX11 81 11 29 true (.array .int) := ⟨RX11, TX11, 32, tyX11, "", rfl, by decide, uwX11, tyX11_ok, nmX11, Or.inl (ga_t4 204 (by decide +kernel) rfl), rfl, rfl, (fun z => ⟨rfl, (ga_t4 204 (by decide +kernel) rfl)⟩)⟩
theorem grX11_181 : ga_FR RX11 181 11 30 .long := ⟨RX11, TX11, 32, "", rfl, by decide, uwX11, Or.inl (ga_t4 205 (by decide +kernel) rfl), rfl⟩
theorem gfX11_181 : ga_FS RX11 181 11 30 false .long := ⟨RX11, TX11, 32, tyX11, "", rfl, by decide, uwX11, tyX11_ok, nmX11, Or.inl (ga_t4 205 (by decide +kernel) rfl), rfl, rfl, (fun z => by cases z)⟩
theorem grX11_177 : ga_FR RX11 177 11 31 .long := ⟨RX11, TX11, 32, "", rfl, by decide, uwX11, Or.inl (ga_t4 206 (by decide +kernel) rfl), rfl⟩
theorem gfX11_177 : ga_FS RX11 177 11 31 false .long := ⟨RX11, TX11, 32, tyX11, "", rfl, by decide, uwX11, tyX11_ok, nmX11, Or.inl (ga_t4 206 (by decide +kernel) rfl), rfl, rfl, (fun z => by cases z)⟩
theorem lkL_65 : Cond.methodLink RL 65 yX11_thrown ∈ ga_big := (ga_t5 32 (by decide +kernel) rfl)
theorem lkL_64 : Cond.methodLink RL 64 yX11_net ∈ ga_big := (ga_t5 36 (by decide +kernel) rfl)
theorem lkX11_88 : Cond.methodLink RX11 88 yX11_isSide ∈ ga_big := (ga_t5 40 (by decide +kernel) rfl)
theorem lkL_74 : Cond.methodLink RL 74 yX11_device ∈ ga_big := (ga_t5 43 (by decide +kernel) rfl)
theorem lkX11_92 : Cond.methodLink RX11 92 yX11_isKind ∈ ga_big := (ga_t5 47 (by decide +kernel) rfl)
theorem lkL_78 : Cond.methodLink RL 78 yX11_pin ∈ ga_big := (ga_t5 51 (by decide +kernel) rfl)
theorem lkX11_97 : Cond.methodLink RX11 97 yX11_isDevice ∈ ga_big := (ga_t5 55 (by decide +kernel) rfl)
theorem lkX11_101 : Cond.methodLink RX11 101 yX11_isPin ∈ ga_big := (ga_t5 59 (by decide +kernel) rfl)
theorem lkX11_104 : Cond.methodLink RX11 104 yX11_isNet ∈ ga_big := (ga_t5 62 (by decide +kernel) rfl)
theorem lkL_82 : Cond.methodLink RL 82 yX11_swap ∈ ga_big := (ga_t5 66 (by decide +kernel) rfl)
theorem lkL_86 : Cond.methodLink RL 86 yX11_share ∈ ga_big := (ga_t5 70 (by decide +kernel) rfl)
theorem lkL_89 : Cond.methodLink RL 89 yX11_port ∈ ga_big := (ga_t5 74 (by decide +kernel) rfl)
theorem lkL_92 : Cond.methodLink RL 92 yX11_join ∈ ga_big := (ga_t5 78 (by decide +kernel) rfl)
theorem lkX11_127 : Cond.methodLink RX11 127 yX11_isJoined ∈ ga_big := (ga_t5 82 (by decide +kernel) rfl)
theorem lkX11_121 : Cond.methodLink RX11 121 yX11_isParallel ∈ ga_big := (ga_t5 86 (by decide +kernel) rfl)
theorem lkX11_107 : Cond.methodLink RX11 107 yX11_group ∈ ga_big := (ga_t5 90 (by decide +kernel) rfl)
theorem lkX11_111 : Cond.methodLink RX11 111 yX11_pinsOn ∈ ga_big := (ga_t5 94 (by decide +kernel) rfl)
theorem lkX11_124 : Cond.methodLink RX11 124 yX11_common ∈ ga_big := (ga_t5 98 (by decide +kernel) rfl)
theorem lkX11_115 : Cond.methodLink RX11 115 yX11_isChain ∈ ga_big := (ga_t5 102 (by decide +kernel) rfl)
theorem lkX11_118 : Cond.methodLink RX11 118 yX11_all ∈ ga_big := (ga_t5 106 (by decide +kernel) rfl)
theorem lkX11_130 : Cond.methodLink RX11 130 yX11_live ∈ ga_big := (ga_t5 110 (by decide +kernel) rfl)
theorem lkL_98 : Cond.methodLink RL 98 yX11_run ∈ ga_big := (ga_t5 114 (by decide +kernel) rfl)
theorem lkX11_236 : Cond.methodLink RX11 236 yX11_refine ∈ ga_big := (ga_t5 119 (by decide +kernel) rfl)
theorem lkX11_158 : Cond.methodLink RX11 158 yX11_begin ∈ ga_big := (ga_t5 123 (by decide +kernel) rfl)
theorem lkX11_143 : Cond.methodLink RX11 143 yX11_isLive ∈ ga_big := (ga_t5 127 (by decide +kernel) rfl)
theorem lkX11_149 : Cond.methodLink RX11 149 yX11_isUsedAt ∈ ga_big := (ga_t5 131 (by decide +kernel) rfl)
theorem lkX11_140 : Cond.methodLink RX11 140 yX11_isUsed ∈ ga_big := (ga_t5 135 (by decide +kernel) rfl)
theorem lkX11_155 : Cond.methodLink RX11 155 yX11_take ∈ ga_big := (ga_t5 139 (by decide +kernel) rfl)
theorem lkX11_165 : Cond.methodLink RX11 165 yX11_round ∈ ga_big := (ga_t5 143 (by decide +kernel) rfl)
theorem lkX11_146 : Cond.methodLink RX11 146 yX11_isLikeDevice ∈ ga_big := (ga_t5 147 (by decide +kernel) rfl)
theorem lkX11_134 : Cond.methodLink RX11 134 yX11_pinsOnClass ∈ ga_big := (ga_t5 151 (by decide +kernel) rfl)
theorem lkX11_152 : Cond.methodLink RX11 152 yX11_isLikeNet ∈ ga_big := (ga_t5 155 (by decide +kernel) rfl)
theorem lkX11_137 : Cond.methodLink RX11 137 yX11_pinsOfClass ∈ ga_big := (ga_t5 159 (by decide +kernel) rfl)
theorem lkX11_239 : Cond.methodLink RX11 239 yX11_isMatched ∈ ga_big := (ga_t5 163 (by decide +kernel) rfl)
theorem lkX11_197 : Cond.methodLink RX11 197 yX11_used ∈ ga_big := (ga_t5 167 (by decide +kernel) rfl)
theorem lkX11_200 : Cond.methodLink RX11 200 yX11_isNamed ∈ ga_big := (ga_t5 171 (by decide +kernel) rfl)
theorem lkX11_191 : Cond.methodLink RX11 191 yX11_hasName ∈ ga_big := (ga_t5 175 (by decide +kernel) rfl)
theorem lkX11_204 : Cond.methodLink RX11 204 yX11_sortFirst ∈ ga_big := (ga_t5 179 (by decide +kernel) rfl)
theorem lkX11_207 : Cond.methodLink RX11 207 yX11_isChoice ∈ ga_big := (ga_t5 183 (by decide +kernel) rfl)
theorem lkX11_174 : Cond.methodLink RX11 174 yX11_isFree ∈ ga_big := (ga_t5 187 (by decide +kernel) rfl)
theorem lkX11_184 : Cond.methodLink RX11 184 yX11_isAgreed ∈ ga_big := (ga_t5 191 (by decide +kernel) rfl)
theorem lkX11_187 : Cond.methodLink RX11 187 yX11_isSorted ∈ ga_big := (ga_t5 195 (by decide +kernel) rfl)
theorem lkX11_171 : Cond.methodLink RX11 171 yX11_touch ∈ ga_big := (ga_t5 199 (by decide +kernel) rfl)
theorem lkX11_210 : Cond.methodLink RX11 210 yX11_pairNets ∈ ga_big := (ga_t5 203 (by decide +kernel) rfl)
theorem lkX11_242 : Cond.methodLink RX11 242 yX11_keep ∈ ga_big := (ga_t5 207 (by decide +kernel) rfl)
theorem lkX11_245 : Cond.methodLink RX11 245 yX11_explain ∈ ga_big := (ga_t5 211 (by decide +kernel) rfl)
theorem lkX11_225 : Cond.methodLink RX11 225 yX11_ofKind ∈ ga_big := (ga_t5 215 (by decide +kernel) rfl)
theorem lkX11_221 : Cond.methodLink RX11 221 yX11_differ ∈ ga_big := (ga_t5 219 (by decide +kernel) rfl)
theorem lkX11_228 : Cond.methodLink RX11 228 yX11_differNames ∈ ga_big := (ga_t5 223 (by decide +kernel) rfl)
theorem lkX11_231 : Cond.methodLink RX11 231 yX11_ofClass ∈ ga_big := (ga_t5 227 (by decide +kernel) rfl)
theorem lkL_101 : Cond.methodLink RL 101 yX11_match ∈ ga_big := (ga_t5 231 (by decide +kernel) rfl)
theorem lkL_105 : Cond.methodLink RL 105 yX11_netMatch ∈ ga_big := (ga_t5 235 (by decide +kernel) rfl)
theorem lkL_108 : Cond.methodLink RL 108 yX11_differs ∈ ga_big := (ga_t5 239 (by decide +kernel) rfl)
theorem lkL_112 : Cond.methodLink RL 112 yX11_rounds ∈ ga_big := (ga_t6 3 (by decide +kernel) rfl)
theorem lkL_116 : Cond.methodLink RL 116 yX11_tried ∈ ga_big := (ga_t6 7 (by decide +kernel) rfl)
theorem lkL_121 : Cond.methodLink RL 121 yX11_tested ∈ ga_big := (ga_t6 11 (by decide +kernel) rfl)
theorem lkX11_248 : Cond.methodLink RX11 248 yX11_isSameNet ∈ ga_big := (ga_t6 15 (by decide +kernel) rfl)
theorem acI : Cond.arrayClass .int ∈ ga_big := (ga_t1 100 (by decide +kernel) rfl)
theorem acZ : Cond.arrayClass .boolean ∈ ga_big := (ga_t1 101 (by decide +kernel) rfl)
theorem acD : Cond.arrayClass .double ∈ ga_big := (ga_t1 102 (by decide +kernel) rfl)
theorem acL : Cond.arrayClass .long ∈ ga_big := (ga_t6 21 (by decide +kernel) rfl)
theorem ow2 : Cond.instanceMethod Lib.objectInit ∈ ga_big := (ga_t1 27 (by decide +kernel) rfl)
theorem ow3 : Cond.code Lib.objectInit ⟨#[0xb1]⟩ 1 none ∈ ga_big := (ga_t1 28 (by decide +kernel) rfl)
theorem cnX10_97 : Cond.constantDouble RX10 97 (4696837146684686336) ∈ ga_big := (ga_t3 62 (by decide +kernel) rfl)
theorem cnX10_162 : Cond.constantLong RX10 162 (2000) ∈ ga_big := (ga_t3 196 (by decide +kernel) rfl)
theorem cnX11_95 : Cond.constantDouble RX11 95 (4696837146684686336) ∈ ga_big := (ga_t5 50 (by decide +kernel) rfl)
theorem cnX11_234 : Cond.constantLong RX11 234 (2000) ∈ ga_big := (ga_t5 118 (by decide +kernel) rfl)
theorem cnL_69 : Cond.constantDouble RL 69 (4593671619917905920) ∈ ga_big := (ga_t6 19 (by decide +kernel) rfl)
theorem cnL_93 : Cond.constantLong RL 93 (4294967295) ∈ ga_big := (ga_t6 20 (by decide +kernel) rfl)
set_option maxRecDepth 20000 in
theorem tf_71_w : ∀ w ∈ vx_atS RX10 71 "java/lang/IllegalStateException" ["java/lang/RuntimeException", "java/lang/Exception"], w ∈ lw_tbl ∧ ga_good2 w = true := by decide +kernel
theorem tf_71 : ga_TF RX10 67 71 "java/lang/IllegalStateException" ["java/lang/RuntimeException", "java/lang/Exception"] := ⟨by decide +kernel, by decide +kernel, (ga_t3 14 (by decide +kernel) rfl), (ga_t1 18 (by decide +kernel) rfl), fun w hw => ga_mem (tf_71_w w hw).1 (tf_71_w w hw).2, by decide +kernel, rfl⟩
theorem hl_71 : Cond.classLink RL 15 "java/lang/IllegalStateException" ∈ ga_big := (ga_t2 172 (by decide +kernel) rfl)
theorem hc_71 : Cond.castable "java/lang/IllegalStateException" "java/lang/IllegalStateException" ∈ ga_big := (ga_t3 16 (by decide +kernel) rfl)
set_option maxRecDepth 20000 in
theorem tf_78_w : ∀ w ∈ vx_atS RX10 78 "java/lang/IllegalArgumentException" ["java/lang/RuntimeException", "java/lang/Exception"], w ∈ lw_tbl ∧ ga_good2 w = true := by decide +kernel
theorem tf_78 : ga_TF RX10 74 78 "java/lang/IllegalArgumentException" ["java/lang/RuntimeException", "java/lang/Exception"] := ⟨by decide +kernel, by decide +kernel, (ga_t3 30 (by decide +kernel) rfl), (ga_t1 19 (by decide +kernel) rfl), fun w hw => ga_mem (tf_78_w w hw).1 (tf_78_w w hw).2, by decide +kernel, rfl⟩
theorem hl_78 : Cond.classLink RL 17 "java/lang/IllegalArgumentException" ∈ ga_big := (ga_t2 173 (by decide +kernel) rfl)
theorem hc_78 : Cond.castable "java/lang/IllegalArgumentException" "java/lang/IllegalArgumentException" ∈ ga_big := (ga_t3 32 (by decide +kernel) rfl)
set_option maxRecDepth 20000 in
theorem tf_91_w : ∀ w ∈ vx_atS RX10 91 "java/lang/IndexOutOfBoundsException" ["java/lang/RuntimeException", "java/lang/Exception"], w ∈ lw_tbl ∧ ga_good2 w = true := by decide +kernel
theorem tf_91 : ga_TF RX10 87 91 "java/lang/IndexOutOfBoundsException" ["java/lang/RuntimeException", "java/lang/Exception"] := ⟨by decide +kernel, by decide +kernel, (ga_t2 182 (by decide +kernel) rfl), (ga_t1 17 (by decide +kernel) rfl), fun w hw => ga_mem (tf_91_w w hw).1 (tf_91_w w hw).2, by decide +kernel, rfl⟩
theorem hl_91 : Cond.classLink RL 13 "java/lang/IndexOutOfBoundsException" ∈ ga_big := (ga_t2 171 (by decide +kernel) rfl)
theorem hc_91 : Cond.castable "java/lang/IndexOutOfBoundsException" "java/lang/IndexOutOfBoundsException" ∈ ga_big := (ga_t2 184 (by decide +kernel) rfl)
end
