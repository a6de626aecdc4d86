section
-- ===== PART A: goes FIRST, ahead of the names: the tables' words, and 'selects' of the private methods out of them =====
/-- a private method of a class that the tables say can be made, by its rows of tables_1 -/
def lw_okq (q : MethodName × Nat) : Prop := (q.1.cls ≠ "java/lang/invoke/MethodHandle" ∧ q.1.cls ≠ "java/lang/invoke/VarHandle") ∧ Cond.instantiable q.1.cls q.2 ∈ tables_1 ∧ Cond.privateMethod q.1 ∈ tables_1 ∧ Cond.instanceMethod q.1 ∈ tables_1
theorem lw_p0 : lw_okq (⟨"FleetFloor", "isOpen", "()Z"⟩, 9) := ⟨⟨by decide +kernel, by decide +kernel⟩, List.mem_of_getElem? (i := 27) (by decide +kernel), List.mem_of_getElem? (i := 118) (by decide +kernel), List.mem_of_getElem? (i := 119) (by decide +kernel)⟩
theorem lw_p1 : lw_okq (⟨"FleetFloor", "vehicleNumbered", "(I)LFleetFloor$Vehicle;"⟩, 9) := ⟨⟨by decide +kernel, by decide +kernel⟩, List.mem_of_getElem? (i := 27) (by decide +kernel), List.mem_of_getElem? (i := 177) (by decide +kernel), List.mem_of_getElem? (i := 178) (by decide +kernel)⟩
theorem lw_p2 : lw_okq (⟨"java/util/ArrayList", "fastRemove", "([Ljava/lang/Object;I)V"⟩, 3) := ⟨⟨by decide +kernel, by decide +kernel⟩, List.mem_of_getElem? (i := 52) (by decide +kernel), List.mem_of_getElem? (i := 198) (by decide +kernel), List.mem_of_getElem? (i := 199) (by decide +kernel)⟩
theorem lw_p3 : lw_okq (⟨"java/util/ArrayList", "add", "(Ljava/lang/Object;[Ljava/lang/Object;I)V"⟩, 3) := ⟨⟨by decide +kernel, by decide +kernel⟩, List.mem_of_getElem? (i := 52) (by decide +kernel), List.mem_of_getElem? (i := 221) (by decide +kernel), List.mem_of_getElem? (i := 222) (by decide +kernel)⟩
theorem lw_p4 : lw_okq (⟨"java/util/ArrayList", "grow", "()[Ljava/lang/Object;"⟩, 3) := ⟨⟨by decide +kernel, by decide +kernel⟩, List.mem_of_getElem? (i := 52) (by decide +kernel), List.mem_of_getElem? (i := 225) (by decide +kernel), List.mem_of_getElem? (i := 226) (by decide +kernel)⟩
theorem lw_p5 : lw_okq (⟨"java/util/ArrayList", "grow", "(I)[Ljava/lang/Object;"⟩, 3) := ⟨⟨by decide +kernel, by decide +kernel⟩, List.mem_of_getElem? (i := 52) (by decide +kernel), List.mem_of_getElem? (i := 229) (by decide +kernel), List.mem_of_getElem? (i := 230) (by decide +kernel)⟩
theorem lw_p6 : lw_okq (⟨"java/lang/Throwable", "fillInStackTrace", "(I)Ljava/lang/Throwable;"⟩, 6) := ⟨⟨by decide +kernel, by decide +kernel⟩, List.mem_of_getElem? (i := 355) (by decide +kernel), List.mem_of_getElem? (i := 353) (by decide +kernel), List.mem_of_getElem? (i := 354) (by decide +kernel)⟩
theorem lw_p7 : lw_okq (⟨"FleetFloor$FloorMap", "countOf", "(I)I"⟩, 1) := ⟨⟨by decide +kernel, by decide +kernel⟩, List.mem_of_getElem? (i := 35) (by decide +kernel), List.mem_of_getElem? (i := 389) (by decide +kernel), List.mem_of_getElem? (i := 390) (by decide +kernel)⟩
theorem lw_p8 : lw_okq (⟨"FleetFloor$FloorMap", "isJoined", "()Z"⟩, 1) := ⟨⟨by decide +kernel, by decide +kernel⟩, List.mem_of_getElem? (i := 35) (by decide +kernel), List.mem_of_getElem? (i := 393) (by decide +kernel), List.mem_of_getElem? (i := 394) (by decide +kernel)⟩
theorem lw_p9 : lw_okq (⟨"FleetFloor", "isStation", "(I)Z"⟩, 9) := ⟨⟨by decide +kernel, by decide +kernel⟩, List.mem_of_getElem? (i := 27) (by decide +kernel), List.mem_of_getElem? (i := 578) (by decide +kernel), List.mem_of_getElem? (i := 579) (by decide +kernel)⟩
theorem lw_p10 : lw_okq (⟨"FleetFloor", "makeMoves", "()I"⟩, 9) := ⟨⟨by decide +kernel, by decide +kernel⟩, List.mem_of_getElem? (i := 27) (by decide +kernel), List.mem_of_getElem? (i := 614) (by decide +kernel), List.mem_of_getElem? (i := 615) (by decide +kernel)⟩
theorem lw_p11 : lw_okq (⟨"FleetFloor", "noteFinish", "(LFleetFloor$Vehicle;)V"⟩, 9) := ⟨⟨by decide +kernel, by decide +kernel⟩, List.mem_of_getElem? (i := 27) (by decide +kernel), List.mem_of_getElem? (i := 622) (by decide +kernel), List.mem_of_getElem? (i := 623) (by decide +kernel)⟩
theorem lw_p12 : lw_okq (⟨"FleetFloor", "sendDones", "()V"⟩, 9) := ⟨⟨by decide +kernel, by decide +kernel⟩, List.mem_of_getElem? (i := 27) (by decide +kernel), List.mem_of_getElem? (i := 626) (by decide +kernel), List.mem_of_getElem? (i := 627) (by decide +kernel)⟩
theorem lw_p13 : lw_okq (⟨"FleetFloor", "reportsNow", "(LFleetFloor$Vehicle;)Z"⟩, 9) := ⟨⟨by decide +kernel, by decide +kernel⟩, List.mem_of_getElem? (i := 27) (by decide +kernel), List.mem_of_getElem? (i := 630) (by decide +kernel), List.mem_of_getElem? (i := 631) (by decide +kernel)⟩
theorem lw_p14 : lw_okq (⟨"FleetFloor", "makePlans", "()V"⟩, 9) := ⟨⟨by decide +kernel, by decide +kernel⟩, List.mem_of_getElem? (i := 27) (by decide +kernel), List.mem_of_getElem? (i := 653) (by decide +kernel), List.mem_of_getElem? (i := 654) (by decide +kernel)⟩
theorem lw_p15 : lw_okq (⟨"FleetFloor", "lowestIdle", "()LFleetFloor$Vehicle;"⟩, 9) := ⟨⟨by decide +kernel, by decide +kernel⟩, List.mem_of_getElem? (i := 27) (by decide +kernel), List.mem_of_getElem? (i := 657) (by decide +kernel), List.mem_of_getElem? (i := 658) (by decide +kernel)⟩
def lw_privs_1 : List (MethodName × Nat) := [(⟨"FleetFloor", "isOpen", "()Z"⟩, 9), (⟨"FleetFloor", "vehicleNumbered", "(I)LFleetFloor$Vehicle;"⟩, 9), (⟨"java/util/ArrayList", "fastRemove", "([Ljava/lang/Object;I)V"⟩, 3), (⟨"java/util/ArrayList", "add", "(Ljava/lang/Object;[Ljava/lang/Object;I)V"⟩, 3), (⟨"java/util/ArrayList", "grow", "()[Ljava/lang/Object;"⟩, 3), (⟨"java/util/ArrayList", "grow", "(I)[Ljava/lang/Object;"⟩, 3), (⟨"java/lang/Throwable", "fillInStackTrace", "(I)Ljava/lang/Throwable;"⟩, 6), (⟨"FleetFloor$FloorMap", "countOf", "(I)I"⟩, 1), (⟨"FleetFloor$FloorMap", "isJoined", "()Z"⟩, 1), (⟨"FleetFloor", "isStation", "(I)Z"⟩, 9), (⟨"FleetFloor", "makeMoves", "()I"⟩, 9), (⟨"FleetFloor", "noteFinish", "(LFleetFloor$Vehicle;)V"⟩, 9), (⟨"FleetFloor", "sendDones", "()V"⟩, 9), (⟨"FleetFloor", "reportsNow", "(LFleetFloor$Vehicle;)Z"⟩, 9), (⟨"FleetFloor", "makePlans", "()V"⟩, 9), (⟨"FleetFloor", "lowestIdle", "()LFleetFloor$Vehicle;"⟩, 9)]
theorem lw_r1 : ∀ q ∈ lw_privs_1, lw_okq q := List.forall_mem_cons.mpr ⟨lw_p0, List.forall_mem_cons.mpr ⟨lw_p1, List.forall_mem_cons.mpr ⟨lw_p2, List.forall_mem_cons.mpr ⟨lw_p3, List.forall_mem_cons.mpr ⟨lw_p4, List.forall_mem_cons.mpr ⟨lw_p5, List.forall_mem_cons.mpr ⟨lw_p6, List.forall_mem_cons.mpr ⟨lw_p7, List.forall_mem_cons.mpr ⟨lw_p8, List.forall_mem_cons.mpr ⟨lw_p9, List.forall_mem_cons.mpr ⟨lw_p10, List.forall_mem_cons.mpr ⟨lw_p11, List.forall_mem_cons.mpr ⟨lw_p12, List.forall_mem_cons.mpr ⟨lw_p13, List.forall_mem_cons.mpr ⟨lw_p14, List.forall_mem_cons.mpr ⟨lw_p15, fun _ h => absurd h List.not_mem_nil⟩⟩⟩⟩⟩⟩⟩⟩⟩⟩⟩⟩⟩⟩⟩⟩
theorem lw_p16 : lw_okq (⟨"FleetFloor$Planner", "layOut", "(LFleetFloor$Vehicle;I)V"⟩, 13) := ⟨⟨by decide +kernel, by decide +kernel⟩, List.mem_of_getElem? (i := 521) (by decide +kernel), List.mem_of_getElem? (i := 669) (by decide +kernel), List.mem_of_getElem? (i := 670) (by decide +kernel)⟩
theorem lw_p17 : lw_okq (⟨"FleetFloor$Planner", "keepClearOf", "(LFleetFloor$Vehicle;I)V"⟩, 13) := ⟨⟨by decide +kernel, by decide +kernel⟩, List.mem_of_getElem? (i := 521) (by decide +kernel), List.mem_of_getElem? (i := 678) (by decide +kernel), List.mem_of_getElem? (i := 679) (by decide +kernel)⟩
theorem lw_p18 : lw_okq (⟨"FleetFloor$Planner", "spread", "()I"⟩, 13) := ⟨⟨by decide +kernel, by decide +kernel⟩, List.mem_of_getElem? (i := 521) (by decide +kernel), List.mem_of_getElem? (i := 697) (by decide +kernel), List.mem_of_getElem? (i := 698) (by decide +kernel)⟩
theorem lw_p19 : lw_okq (⟨"FleetFloor$Planner", "at", "(II)LFleetFloor$Cells;"⟩, 13) := ⟨⟨by decide +kernel, by decide +kernel⟩, List.mem_of_getElem? (i := 521) (by decide +kernel), List.mem_of_getElem? (i := 701) (by decide +kernel), List.mem_of_getElem? (i := 702) (by decide +kernel)⟩
theorem lw_p20 : lw_okq (⟨"FleetFloor$Planner", "stepOn", "(II)V"⟩, 13) := ⟨⟨by decide +kernel, by decide +kernel⟩, List.mem_of_getElem? (i := 521) (by decide +kernel), List.mem_of_getElem? (i := 709) (by decide +kernel), List.mem_of_getElem? (i := 710) (by decide +kernel)⟩
theorem lw_p21 : lw_okq (⟨"FleetFloor$Planner", "changeLeg", "(II)V"⟩, 13) := ⟨⟨by decide +kernel, by decide +kernel⟩, List.mem_of_getElem? (i := 521) (by decide +kernel), List.mem_of_getElem? (i := 715) (by decide +kernel), List.mem_of_getElem? (i := 716) (by decide +kernel)⟩
theorem lw_p22 : lw_okq (⟨"FleetFloor$Planner", "goalOf", "(I)I"⟩, 13) := ⟨⟨by decide +kernel, by decide +kernel⟩, List.mem_of_getElem? (i := 521) (by decide +kernel), List.mem_of_getElem? (i := 719) (by decide +kernel), List.mem_of_getElem? (i := 720) (by decide +kernel)⟩
theorem lw_p23 : lw_okq (⟨"FleetFloor$Planner", "prune", "()V"⟩, 13) := ⟨⟨by decide +kernel, by decide +kernel⟩, List.mem_of_getElem? (i := 521) (by decide +kernel), List.mem_of_getElem? (i := 724) (by decide +kernel), List.mem_of_getElem? (i := 725) (by decide +kernel)⟩
theorem lw_p24 : lw_okq (⟨"FleetFloor$Planner", "keepThoseBefore", "(II)V"⟩, 13) := ⟨⟨by decide +kernel, by decide +kernel⟩, List.mem_of_getElem? (i := 521) (by decide +kernel), List.mem_of_getElem? (i := 728) (by decide +kernel), List.mem_of_getElem? (i := 729) (by decide +kernel)⟩
theorem lw_p25 : lw_okq (⟨"FleetFloor$Planner", "follow", "()V"⟩, 13) := ⟨⟨by decide +kernel, by decide +kernel⟩, List.mem_of_getElem? (i := 521) (by decide +kernel), List.mem_of_getElem? (i := 732) (by decide +kernel), List.mem_of_getElem? (i := 733) (by decide +kernel)⟩
theorem lw_p26 : lw_okq (⟨"FleetFloor$Planner", "lowestStep", "(III)I"⟩, 13) := ⟨⟨by decide +kernel, by decide +kernel⟩, List.mem_of_getElem? (i := 521) (by decide +kernel), List.mem_of_getElem? (i := 736) (by decide +kernel), List.mem_of_getElem? (i := 737) (by decide +kernel)⟩
theorem lw_p27 : lw_okq (⟨"FleetFloor$Planner", "legAt", "(II)I"⟩, 13) := ⟨⟨by decide +kernel, by decide +kernel⟩, List.mem_of_getElem? (i := 521) (by decide +kernel), List.mem_of_getElem? (i := 743) (by decide +kernel), List.mem_of_getElem? (i := 744) (by decide +kernel)⟩
theorem lw_p28 : lw_okq (⟨"FleetFloor", "grantMoves", "()V"⟩, 9) := ⟨⟨by decide +kernel, by decide +kernel⟩, List.mem_of_getElem? (i := 27) (by decide +kernel), List.mem_of_getElem? (i := 764) (by decide +kernel), List.mem_of_getElem? (i := 765) (by decide +kernel)⟩
theorem lw_p29 : lw_okq (⟨"FleetFloor", "isFree", "(LFleetFloor$Vehicle;LFleetFloor$Move;)Z"⟩, 9) := ⟨⟨by decide +kernel, by decide +kernel⟩, List.mem_of_getElem? (i := 27) (by decide +kernel), List.mem_of_getElem? (i := 768) (by decide +kernel), List.mem_of_getElem? (i := 769) (by decide +kernel)⟩
theorem lw_p30 : lw_okq (⟨"FleetFloorModel", "isGood", "()Z"⟩, 40) := ⟨⟨by decide +kernel, by decide +kernel⟩, List.mem_of_getElem? (i := 777) (by decide +kernel), List.mem_of_getElem? (i := 920) (by decide +kernel), List.mem_of_getElem? (i := 921) (by decide +kernel)⟩
theorem lw_p31 : lw_okq (⟨"FleetFloorModel", "leadsToAll", "(I)Z"⟩, 40) := ⟨⟨by decide +kernel, by decide +kernel⟩, List.mem_of_getElem? (i := 777) (by decide +kernel), List.mem_of_getElem? (i := 924) (by decide +kernel), List.mem_of_getElem? (i := 925) (by decide +kernel)⟩
def lw_privs_2 : List (MethodName × Nat) := [(⟨"FleetFloor$Planner", "layOut", "(LFleetFloor$Vehicle;I)V"⟩, 13), (⟨"FleetFloor$Planner", "keepClearOf", "(LFleetFloor$Vehicle;I)V"⟩, 13), (⟨"FleetFloor$Planner", "spread", "()I"⟩, 13), (⟨"FleetFloor$Planner", "at", "(II)LFleetFloor$Cells;"⟩, 13), (⟨"FleetFloor$Planner", "stepOn", "(II)V"⟩, 13), (⟨"FleetFloor$Planner", "changeLeg", "(II)V"⟩, 13), (⟨"FleetFloor$Planner", "goalOf", "(I)I"⟩, 13), (⟨"FleetFloor$Planner", "prune", "()V"⟩, 13), (⟨"FleetFloor$Planner", "keepThoseBefore", "(II)V"⟩, 13), (⟨"FleetFloor$Planner", "follow", "()V"⟩, 13), (⟨"FleetFloor$Planner", "lowestStep", "(III)I"⟩, 13), (⟨"FleetFloor$Planner", "legAt", "(II)I"⟩, 13), (⟨"FleetFloor", "grantMoves", "()V"⟩, 9), (⟨"FleetFloor", "isFree", "(LFleetFloor$Vehicle;LFleetFloor$Move;)Z"⟩, 9), (⟨"FleetFloorModel", "isGood", "()Z"⟩, 40), (⟨"FleetFloorModel", "leadsToAll", "(I)Z"⟩, 40)]
theorem lw_r2 : ∀ q ∈ lw_privs_2, lw_okq q := List.forall_mem_cons.mpr ⟨lw_p16, List.forall_mem_cons.mpr ⟨lw_p17, List.forall_mem_cons.mpr ⟨lw_p18, List.forall_mem_cons.mpr ⟨lw_p19, List.forall_mem_cons.mpr ⟨lw_p20, List.forall_mem_cons.mpr ⟨lw_p21, List.forall_mem_cons.mpr ⟨lw_p22, List.forall_mem_cons.mpr ⟨lw_p23, List.forall_mem_cons.mpr ⟨lw_p24, List.forall_mem_cons.mpr ⟨lw_p25, List.forall_mem_cons.mpr ⟨lw_p26, List.forall_mem_cons.mpr ⟨lw_p27, List.forall_mem_cons.mpr ⟨lw_p28, List.forall_mem_cons.mpr ⟨lw_p29, List.forall_mem_cons.mpr ⟨lw_p30, List.forall_mem_cons.mpr ⟨lw_p31, fun _ h => absurd h List.not_mem_nil⟩⟩⟩⟩⟩⟩⟩⟩⟩⟩⟩⟩⟩⟩⟩⟩
theorem lw_p32 : lw_okq (⟨"FleetFloorModel", "throwing", "(ZZ)Z"⟩, 40) := ⟨⟨by decide +kernel, by decide +kernel⟩, List.mem_of_getElem? (i := 777) (by decide +kernel), List.mem_of_getElem? (i := 931) (by decide +kernel), List.mem_of_getElem? (i := 932) (by decide +kernel)⟩
theorem lw_p33 : lw_okq (⟨"FleetFloorModel", "isLetter", "(I)Z"⟩, 40) := ⟨⟨by decide +kernel, by decide +kernel⟩, List.mem_of_getElem? (i := 777) (by decide +kernel), List.mem_of_getElem? (i := 947) (by decide +kernel), List.mem_of_getElem? (i := 948) (by decide +kernel)⟩
theorem lw_p34 : lw_okq (⟨"FleetFloorModel", "remove", "(I)V"⟩, 40) := ⟨⟨by decide +kernel, by decide +kernel⟩, List.mem_of_getElem? (i := 777) (by decide +kernel), List.mem_of_getElem? (i := 955) (by decide +kernel), List.mem_of_getElem? (i := 956) (by decide +kernel)⟩
theorem lw_p35 : lw_okq (⟨"FleetFloorModel", "send", "(III)V"⟩, 40) := ⟨⟨by decide +kernel, by decide +kernel⟩, List.mem_of_getElem? (i := 777) (by decide +kernel), List.mem_of_getElem? (i := 967) (by decide +kernel), List.mem_of_getElem? (i := 968) (by decide +kernel)⟩
theorem lw_p36 : lw_okq (⟨"FleetFloorModel", "go", "(I)V"⟩, 40) := ⟨⟨by decide +kernel, by decide +kernel⟩, List.mem_of_getElem? (i := 777) (by decide +kernel), List.mem_of_getElem? (i := 975) (by decide +kernel), List.mem_of_getElem? (i := 976) (by decide +kernel)⟩
theorem lw_p37 : lw_okq (⟨"FleetFloorModel", "placeOf", "(II)I"⟩, 40) := ⟨⟨by decide +kernel, by decide +kernel⟩, List.mem_of_getElem? (i := 777) (by decide +kernel), List.mem_of_getElem? (i := 979) (by decide +kernel), List.mem_of_getElem? (i := 980) (by decide +kernel)⟩
theorem lw_p38 : lw_okq (⟨"FleetFloorModel", "isTurn", "(I)Z"⟩, 40) := ⟨⟨by decide +kernel, by decide +kernel⟩, List.mem_of_getElem? (i := 777) (by decide +kernel), List.mem_of_getElem? (i := 983) (by decide +kernel), List.mem_of_getElem? (i := 984) (by decide +kernel)⟩
theorem lw_p39 : lw_okq (⟨"FleetFloorModel", "planAll", "()V"⟩, 40) := ⟨⟨by decide +kernel, by decide +kernel⟩, List.mem_of_getElem? (i := 777) (by decide +kernel), List.mem_of_getElem? (i := 987) (by decide +kernel), List.mem_of_getElem? (i := 988) (by decide +kernel)⟩
theorem lw_p40 : lw_okq (⟨"FleetFloorModel", "idle", "()I"⟩, 40) := ⟨⟨by decide +kernel, by decide +kernel⟩, List.mem_of_getElem? (i := 777) (by decide +kernel), List.mem_of_getElem? (i := 991) (by decide +kernel), List.mem_of_getElem? (i := 992) (by decide +kernel)⟩
theorem lw_p41 : lw_okq (⟨"FleetFloorModel", "plans", "(II)Z"⟩, 40) := ⟨⟨by decide +kernel, by decide +kernel⟩, List.mem_of_getElem? (i := 777) (by decide +kernel), List.mem_of_getElem? (i := 995) (by decide +kernel), List.mem_of_getElem? (i := 996) (by decide +kernel)⟩
theorem lw_p42 : lw_okq (⟨"FleetFloorModel", "forbidAll", "()V"⟩, 40) := ⟨⟨by decide +kernel, by decide +kernel⟩, List.mem_of_getElem? (i := 777) (by decide +kernel), List.mem_of_getElem? (i := 999) (by decide +kernel), List.mem_of_getElem? (i := 1000) (by decide +kernel)⟩
theorem lw_p43 : lw_okq (⟨"FleetFloorModel", "forbid", "(I)V"⟩, 40) := ⟨⟨by decide +kernel, by decide +kernel⟩, List.mem_of_getElem? (i := 777) (by decide +kernel), List.mem_of_getElem? (i := 1003) (by decide +kernel), List.mem_of_getElem? (i := 1004) (by decide +kernel)⟩
theorem lw_p44 : lw_okq (⟨"FleetFloorModel", "spread", "(I)I"⟩, 40) := ⟨⟨by decide +kernel, by decide +kernel⟩, List.mem_of_getElem? (i := 777) (by decide +kernel), List.mem_of_getElem? (i := 1010) (by decide +kernel), List.mem_of_getElem? (i := 1011) (by decide +kernel)⟩
theorem lw_p45 : lw_okq (⟨"FleetFloorModel", "spreadFrom", "(IIII)V"⟩, 40) := ⟨⟨by decide +kernel, by decide +kernel⟩, List.mem_of_getElem? (i := 777) (by decide +kernel), List.mem_of_getElem? (i := 1017) (by decide +kernel), List.mem_of_getElem? (i := 1018) (by decide +kernel)⟩
theorem lw_p46 : lw_okq (⟨"FleetFloorModel", "goes", "(III)I"⟩, 40) := ⟨⟨by decide +kernel, by decide +kernel⟩, List.mem_of_getElem? (i := 777) (by decide +kernel), List.mem_of_getElem? (i := 1021) (by decide +kernel), List.mem_of_getElem? (i := 1022) (by decide +kernel)⟩
theorem lw_p47 : lw_okq (⟨"FleetFloorModel", "isOthers", "(I)Z"⟩, 40) := ⟨⟨by decide +kernel, by decide +kernel⟩, List.mem_of_getElem? (i := 777) (by decide +kernel), List.mem_of_getElem? (i := 1025) (by decide +kernel), List.mem_of_getElem? (i := 1026) (by decide +kernel)⟩
def lw_privs_3 : List (MethodName × Nat) := [(⟨"FleetFloorModel", "throwing", "(ZZ)Z"⟩, 40), (⟨"FleetFloorModel", "isLetter", "(I)Z"⟩, 40), (⟨"FleetFloorModel", "remove", "(I)V"⟩, 40), (⟨"FleetFloorModel", "send", "(III)V"⟩, 40), (⟨"FleetFloorModel", "go", "(I)V"⟩, 40), (⟨"FleetFloorModel", "placeOf", "(II)I"⟩, 40), (⟨"FleetFloorModel", "isTurn", "(I)Z"⟩, 40), (⟨"FleetFloorModel", "planAll", "()V"⟩, 40), (⟨"FleetFloorModel", "idle", "()I"⟩, 40), (⟨"FleetFloorModel", "plans", "(II)Z"⟩, 40), (⟨"FleetFloorModel", "forbidAll", "()V"⟩, 40), (⟨"FleetFloorModel", "forbid", "(I)V"⟩, 40), (⟨"FleetFloorModel", "spread", "(I)I"⟩, 40), (⟨"FleetFloorModel", "spreadFrom", "(IIII)V"⟩, 40), (⟨"FleetFloorModel", "goes", "(III)I"⟩, 40), (⟨"FleetFloorModel", "isOthers", "(I)Z"⟩, 40)]
theorem lw_r3 : ∀ q ∈ lw_privs_3, lw_okq q := List.forall_mem_cons.mpr ⟨lw_p32, List.forall_mem_cons.mpr ⟨lw_p33, List.forall_mem_cons.mpr ⟨lw_p34, List.forall_mem_cons.mpr ⟨lw_p35, List.forall_mem_cons.mpr ⟨lw_p36, List.forall_mem_cons.mpr ⟨lw_p37, List.forall_mem_cons.mpr ⟨lw_p38, List.forall_mem_cons.mpr ⟨lw_p39, List.forall_mem_cons.mpr ⟨lw_p40, List.forall_mem_cons.mpr ⟨lw_p41, List.forall_mem_cons.mpr ⟨lw_p42, List.forall_mem_cons.mpr ⟨lw_p43, List.forall_mem_cons.mpr ⟨lw_p44, List.forall_mem_cons.mpr ⟨lw_p45, List.forall_mem_cons.mpr ⟨lw_p46, List.forall_mem_cons.mpr ⟨lw_p47, fun _ h => absurd h List.not_mem_nil⟩⟩⟩⟩⟩⟩⟩⟩⟩⟩⟩⟩⟩⟩⟩⟩
theorem lw_p48 : lw_okq (⟨"FleetFloorModel", "doneAt", "(III)I"⟩, 40) := ⟨⟨by decide +kernel, by decide +kernel⟩, List.mem_of_getElem? (i := 777) (by decide +kernel), List.mem_of_getElem? (i := 1029) (by decide +kernel), List.mem_of_getElem? (i := 1030) (by decide +kernel)⟩
theorem lw_p49 : lw_okq (⟨"FleetFloorModel", "narrow", "(II)V"⟩, 40) := ⟨⟨by decide +kernel, by decide +kernel⟩, List.mem_of_getElem? (i := 777) (by decide +kernel), List.mem_of_getElem? (i := 1033) (by decide +kernel), List.mem_of_getElem? (i := 1034) (by decide +kernel)⟩
theorem lw_p50 : lw_okq (⟨"FleetFloorModel", "lowest", "(IIII)I"⟩, 40) := ⟨⟨by decide +kernel, by decide +kernel⟩, List.mem_of_getElem? (i := 777) (by decide +kernel), List.mem_of_getElem? (i := 1037) (by decide +kernel), List.mem_of_getElem? (i := 1038) (by decide +kernel)⟩
theorem lw_p51 : lw_okq (⟨"FleetFloorModel", "take", "(II)V"⟩, 40) := ⟨⟨by decide +kernel, by decide +kernel⟩, List.mem_of_getElem? (i := 777) (by decide +kernel), List.mem_of_getElem? (i := 1042) (by decide +kernel), List.mem_of_getElem? (i := 1043) (by decide +kernel)⟩
theorem lw_p52 : lw_okq (⟨"FleetFloorModel", "grant", "(I)V"⟩, 40) := ⟨⟨by decide +kernel, by decide +kernel⟩, List.mem_of_getElem? (i := 777) (by decide +kernel), List.mem_of_getElem? (i := 1046) (by decide +kernel), List.mem_of_getElem? (i := 1047) (by decide +kernel)⟩
theorem lw_p53 : lw_okq (⟨"FleetFloorModel", "isFree", "(III)Z"⟩, 40) := ⟨⟨by decide +kernel, by decide +kernel⟩, List.mem_of_getElem? (i := 777) (by decide +kernel), List.mem_of_getElem? (i := 1050) (by decide +kernel), List.mem_of_getElem? (i := 1051) (by decide +kernel)⟩
def lw_privs_4 : List (MethodName × Nat) := [(⟨"FleetFloorModel", "doneAt", "(III)I"⟩, 40), (⟨"FleetFloorModel", "narrow", "(II)V"⟩, 40), (⟨"FleetFloorModel", "lowest", "(IIII)I"⟩, 40), (⟨"FleetFloorModel", "take", "(II)V"⟩, 40), (⟨"FleetFloorModel", "grant", "(I)V"⟩, 40), (⟨"FleetFloorModel", "isFree", "(III)Z"⟩, 40)]
theorem lw_r4 : ∀ q ∈ lw_privs_4, lw_okq q := List.forall_mem_cons.mpr ⟨lw_p48, List.forall_mem_cons.mpr ⟨lw_p49, List.forall_mem_cons.mpr ⟨lw_p50, List.forall_mem_cons.mpr ⟨lw_p51, List.forall_mem_cons.mpr ⟨lw_p52, List.forall_mem_cons.mpr ⟨lw_p53, fun _ h => absurd h List.not_mem_nil⟩⟩⟩⟩⟩⟩
def lw_privs : List (MethodName × Nat) := lw_privs_1 ++ (lw_privs_2 ++ (lw_privs_3 ++ (lw_privs_4)))
def lw_tbl : List Cond := k2_sels lw_privs ++ tables_1
theorem lw_privs_ok : ∀ q ∈ lw_privs, lw_okq q := by
  show ∀ q ∈ lw_privs_1 ++ (lw_privs_2 ++ (lw_privs_3 ++ (lw_privs_4))), lw_okq q
  exact List.forall_mem_append.mpr ⟨lw_r1, List.forall_mem_append.mpr ⟨lw_r2, List.forall_mem_append.mpr ⟨lw_r3, lw_r4⟩⟩⟩
end
section
/-- the words that go with every call -/
def bg : List Cond := lw_tbl.filter goodWord
theorem bg_good {w : Cond} (h : w ∈ bg) : (w.onTables && w.keeps) = true ∨ ∃ ty, w = .arrayClass ty := good_of_word (List.mem_filter.mp h).2
theorem bg_m1 (k : Nat) {w : Cond} (h : tables_1_1[k]? = some w) (hg : goodWord w = true) : w ∈ bg := List.mem_filter.mpr ⟨List.mem_append_right _ (show w ∈ tables_1 from (List.mem_append_left _ (List.mem_of_getElem? h))), hg⟩
theorem tb_m1 (k : Nat) {w : Cond} (h : tables_1_1[k]? = some w) : w ∈ lw_tbl := List.mem_append_right _ (show w ∈ tables_1 from (List.mem_append_left _ (List.mem_of_getElem? h)))
theorem bg_m2 (k : Nat) {w : Cond} (h : tables_1_2[k]? = some w) (hg : goodWord w = true) : w ∈ bg := List.mem_filter.mpr ⟨List.mem_append_right _ (show w ∈ tables_1 from (List.mem_append_right _ (List.mem_append_left _ (List.mem_of_getElem? h)))), hg⟩
theorem tb_m2 (k : Nat) {w : Cond} (h : tables_1_2[k]? = some w) : w ∈ lw_tbl := List.mem_append_right _ (show w ∈ tables_1 from (List.mem_append_right _ (List.mem_append_left _ (List.mem_of_getElem? h))))
theorem bg_m3 (k : Nat) {w : Cond} (h : tables_1_3[k]? = some w) (hg : goodWord w = true) : w ∈ bg := List.mem_filter.mpr ⟨List.mem_append_right _ (show w ∈ tables_1 from (List.mem_append_right _ (List.mem_append_right _ (List.mem_append_left _ (List.mem_of_getElem? h))))), hg⟩
theorem tb_m3 (k : Nat) {w : Cond} (h : tables_1_3[k]? = some w) : w ∈ lw_tbl := List.mem_append_right _ (show w ∈ tables_1 from (List.mem_append_right _ (List.mem_append_right _ (List.mem_append_left _ (List.mem_of_getElem? h)))))
theorem bg_m4 (k : Nat) {w : Cond} (h : tables_1_4[k]? = some w) (hg : goodWord w = true) : w ∈ bg := List.mem_filter.mpr ⟨List.mem_append_right _ (show w ∈ tables_1 from (List.mem_append_right _ (List.mem_append_right _ (List.mem_append_right _ (List.mem_append_left _ (List.mem_of_getElem? h)))))), hg⟩
theorem tb_m4 (k : Nat) {w : Cond} (h : tables_1_4[k]? = some w) : w ∈ lw_tbl := List.mem_append_right _ (show w ∈ tables_1 from (List.mem_append_right _ (List.mem_append_right _ (List.mem_append_right _ (List.mem_append_left _ (List.mem_of_getElem? h))))))
theorem bg_m5 (k : Nat) {w : Cond} (h : tables_1_5[k]? = some w) (hg : goodWord w = true) : w ∈ bg := List.mem_filter.mpr ⟨List.mem_append_right _ (show w ∈ tables_1 from (List.mem_append_right _ (List.mem_append_right _ (List.mem_append_right _ (List.mem_append_right _ (List.mem_of_getElem? h)))))), hg⟩
theorem tb_m5 (k : Nat) {w : Cond} (h : tables_1_5[k]? = some w) : w ∈ lw_tbl := List.mem_append_right _ (show w ∈ tables_1 from (List.mem_append_right _ (List.mem_append_right _ (List.mem_append_right _ (List.mem_append_right _ (List.mem_of_getElem? h))))))
theorem bg_s (k : Nat) {w : Cond} (h : (k2_sels lw_privs)[k]? = some w) (hg : goodWord w = true) : w ∈ bg := List.mem_filter.mpr ⟨List.mem_append_left _ (List.mem_of_getElem? h), hg⟩
theorem tw_0 : (Jvm.Cond.initialized "FleetFloorLaw") ∈ bg := bg_m1 0 rfl rfl
theorem tw_1 : (Jvm.Cond.initialized "FleetFloor") ∈ bg := bg_m1 1 rfl rfl
theorem tw_2 : (Jvm.Cond.initialized "FleetFloor$FloorMap") ∈ bg := bg_m1 2 rfl rfl
theorem tw_3 : (Jvm.Cond.initialized "FleetFloor$Air") ∈ bg := bg_m1 3 rfl rfl
theorem tw_4 : (Jvm.Cond.initialized "java/util/AbstractCollection") ∈ bg := bg_m1 4 rfl rfl
theorem tw_5 : (Jvm.Cond.initialized "java/util/AbstractList") ∈ bg := bg_m1 5 rfl rfl
theorem tw_6 : (Jvm.Cond.initialized "java/util/ArrayList") ∈ bg := bg_m1 6 rfl rfl
theorem tw_7 : (Jvm.Cond.initialized "FleetFloorModel") ∈ bg := bg_m1 7 rfl rfl
theorem tw_8 : (Jvm.Cond.initialized "java/lang/Throwable") ∈ bg := bg_m1 8 rfl rfl
theorem tw_9 : (Jvm.Cond.initialized "java/lang/Exception") ∈ bg := bg_m1 9 rfl rfl
theorem tw_10 : (Jvm.Cond.initialized "java/lang/RuntimeException") ∈ bg := bg_m1 10 rfl rfl
theorem tw_11 : (Jvm.Cond.initialized "java/lang/IllegalStateException") ∈ bg := bg_m1 11 rfl rfl
theorem tw_12 : (Jvm.Cond.initialized "FleetFloor$Cells") ∈ bg := bg_m1 12 rfl rfl
theorem tw_13 : (Jvm.Cond.initialized "java/lang/IllegalArgumentException") ∈ bg := bg_m1 13 rfl rfl
theorem tw_14 : (Jvm.Cond.initialized "FleetFloor$Vehicle") ∈ bg := bg_m1 14 rfl rfl
theorem tw_15 : (Jvm.Cond.initialized "FleetFloor$Planner") ∈ bg := bg_m1 15 rfl rfl
theorem tw_16 : (Jvm.Cond.initialized "FleetFloor$Task") ∈ bg := bg_m1 16 rfl rfl
theorem tw_17 : (Jvm.Cond.initialized "jdk/internal/util/ArraysSupport") ∈ bg := bg_m1 17 rfl rfl
theorem tw_18 : (Jvm.Cond.initialized "java/lang/Math") ∈ bg := bg_m1 18 rfl rfl
theorem tw_19 : (Jvm.Cond.initialized "java/util/Arrays") ∈ bg := bg_m1 19 rfl rfl
theorem tw_20 : (Jvm.Cond.initialized "java/lang/System") ∈ bg := bg_m1 20 rfl rfl
theorem tw_21 : (Jvm.Cond.initialized "java/util/Objects") ∈ bg := bg_m1 21 rfl rfl
theorem tw_22 : (Jvm.Cond.initialized "jdk/internal/util/Preconditions") ∈ bg := bg_m1 22 rfl rfl
theorem tw_23 : (Jvm.Cond.initialized "java/lang/Record") ∈ bg := bg_m1 23 rfl rfl
theorem tw_24 : (Jvm.Cond.initialized "FleetFloor$Letter") ∈ bg := bg_m1 24 rfl rfl
theorem tw_25 : (Jvm.Cond.initialized "FleetFloor$Move") ∈ bg := bg_m1 25 rfl rfl
theorem tw_26 : (Jvm.Cond.classLink "FleetFloorLaw" (8 : Nat) "FleetFloor") ∈ bg := bg_m1 26 rfl rfl
theorem tw_27 : (Jvm.Cond.instantiable "FleetFloor" (9 : Nat)) ∈ bg := bg_m1 27 rfl rfl
theorem tw_28 : (Jvm.Cond.methodLink "FleetFloorLaw" (24 : Nat) ({ cls := "FleetFloor", name := "<init>", desc := "()V" } : Jvm.MethodName)) ∈ bg := bg_m1 28 rfl rfl
theorem tw_29 : (Jvm.Cond.instanceMethod ({ cls := "FleetFloor", name := "<init>", desc := "()V" } : Jvm.MethodName)) ∈ bg := bg_m1 29 rfl rfl
theorem tw_30 : (Jvm.Cond.code ({ cls := "FleetFloor", name := "<init>", desc := "()V" } : Jvm.MethodName) prog_1_method_1_code (1 : Nat) (Option.none : Option Jvm.ClassFile.FieldType)) ∈ bg := bg_m1 30 rfl rfl
theorem tw_31 : (Jvm.Cond.methodLink "FleetFloor" (3 : Nat) ({ cls := "java/lang/Object", name := "<init>", desc := "()V" } : Jvm.MethodName)) ∈ bg := bg_m1 31 rfl rfl
theorem tw_32 : (Jvm.Cond.instanceMethod ({ cls := "java/lang/Object", name := "<init>", desc := "()V" } : Jvm.MethodName)) ∈ bg := bg_m1 32 rfl rfl
theorem tw_33 : (Jvm.Cond.code ({ cls := "java/lang/Object", name := "<init>", desc := "()V" } : Jvm.MethodName) object_method_1_code (1 : Nat) (Option.none : Option Jvm.ClassFile.FieldType)) ∈ bg := bg_m1 33 rfl rfl
theorem tw_34 : (Jvm.Cond.classLink "FleetFloor" (9 : Nat) "FleetFloor$FloorMap") ∈ bg := bg_m1 34 rfl rfl
theorem tw_35 : (Jvm.Cond.instantiable "FleetFloor$FloorMap" (1 : Nat)) ∈ bg := bg_m1 35 rfl rfl
theorem tw_36 : (Jvm.Cond.methodLink "FleetFloor" (11 : Nat) ({ cls := "FleetFloor$FloorMap", name := "<init>", desc := "()V" } : Jvm.MethodName)) ∈ bg := bg_m1 36 rfl rfl
theorem tw_37 : (Jvm.Cond.instanceMethod ({ cls := "FleetFloor$FloorMap", name := "<init>", desc := "()V" } : Jvm.MethodName)) ∈ bg := bg_m1 37 rfl rfl
theorem tw_38 : (Jvm.Cond.code ({ cls := "FleetFloor$FloorMap", name := "<init>", desc := "()V" } : Jvm.MethodName) prog_4_method_1_code (1 : Nat) (Option.none : Option Jvm.ClassFile.FieldType)) ∈ bg := bg_m1 38 rfl rfl
theorem tw_39 : (Jvm.Cond.methodLink "FleetFloor$FloorMap" (3 : Nat) ({ cls := "java/lang/Object", name := "<init>", desc := "()V" } : Jvm.MethodName)) ∈ bg := bg_m1 39 rfl rfl
theorem tw_40 : (Jvm.Cond.fieldLink "FleetFloor$FloorMap" (9 : Nat) "FleetFloor$FloorMap" "kinds" "[I") ∈ bg := bg_m1 40 rfl rfl
theorem tw_41 : (Jvm.Cond.laysFinal "FleetFloor$FloorMap" "FleetFloor$FloorMap" "kinds" "[I") ∈ bg := bg_m1 41 rfl rfl
theorem tw_42 : (Jvm.Cond.soleField "FleetFloor$FloorMap" "kinds") ∈ bg := bg_m1 42 rfl rfl
theorem tw_43 : (Jvm.Cond.superclass "FleetFloor$FloorMap" "java/lang/Object") ∈ bg := bg_m1 43 rfl rfl
theorem tw_44 : (Jvm.Cond.arrayClass Jvm.ClassFile.FieldType.int) ∈ bg := bg_m1 44 rfl rfl
theorem tw_45 : (Jvm.Cond.classLink "FleetFloor" (16 : Nat) "FleetFloor$Air") ∈ bg := bg_m1 45 rfl rfl
theorem tw_46 : (Jvm.Cond.instantiable "FleetFloor$Air" (1 : Nat)) ∈ bg := bg_m1 46 rfl rfl
theorem tw_47 : (Jvm.Cond.methodLink "FleetFloor" (18 : Nat) ({ cls := "FleetFloor$Air", name := "<init>", desc := "()V" } : Jvm.MethodName)) ∈ bg := bg_m1 47 rfl rfl
theorem tw_48 : (Jvm.Cond.instanceMethod ({ cls := "FleetFloor$Air", name := "<init>", desc := "()V" } : Jvm.MethodName)) ∈ bg := bg_m1 48 rfl rfl
theorem tw_49 : (Jvm.Cond.code ({ cls := "FleetFloor$Air", name := "<init>", desc := "()V" } : Jvm.MethodName) prog_2_method_1_code (1 : Nat) (Option.none : Option Jvm.ClassFile.FieldType)) ∈ bg := bg_m1 49 rfl rfl
theorem tw_50 : (Jvm.Cond.methodLink "FleetFloor$Air" (3 : Nat) ({ cls := "java/lang/Object", name := "<init>", desc := "()V" } : Jvm.MethodName)) ∈ bg := bg_m1 50 rfl rfl
theorem tw_51 : (Jvm.Cond.classLink "FleetFloor$Air" (9 : Nat) "java/util/ArrayList") ∈ bg := bg_m1 51 rfl rfl
theorem tw_52 : (Jvm.Cond.instantiable "java/util/ArrayList" (3 : Nat)) ∈ bg := bg_m1 52 rfl rfl
theorem tw_53 : (Jvm.Cond.methodLink "FleetFloor$Air" (11 : Nat) ({ cls := "java/util/ArrayList", name := "<init>", desc := "()V" } : Jvm.MethodName)) ∈ bg := bg_m1 53 rfl rfl
theorem tw_54 : (Jvm.Cond.instanceMethod ({ cls := "java/util/ArrayList", name := "<init>", desc := "()V" } : Jvm.MethodName)) ∈ bg := bg_m1 54 rfl rfl
theorem tw_55 : (Jvm.Cond.code ({ cls := "java/util/ArrayList", name := "<init>", desc := "()V" } : Jvm.MethodName) prog_26_method_2_code (1 : Nat) (Option.none : Option Jvm.ClassFile.FieldType)) ∈ bg := bg_m1 55 rfl rfl
theorem tw_56 : (Jvm.Cond.methodLink "java/util/ArrayList" (1 : Nat) ({ cls := "java/util/AbstractList", name := "<init>", desc := "()V" } : Jvm.MethodName)) ∈ bg := bg_m1 56 rfl rfl
theorem tw_57 : (Jvm.Cond.instanceMethod ({ cls := "java/util/AbstractList", name := "<init>", desc := "()V" } : Jvm.MethodName)) ∈ bg := bg_m1 57 rfl rfl
theorem tw_58 : (Jvm.Cond.code ({ cls := "java/util/AbstractList", name := "<init>", desc := "()V" } : Jvm.MethodName) prog_25_method_1_code (1 : Nat) (Option.none : Option Jvm.ClassFile.FieldType)) ∈ bg := bg_m1 58 rfl rfl
theorem tw_59 : (Jvm.Cond.methodLink "java/util/AbstractList" (1 : Nat) ({ cls := "java/util/AbstractCollection", name := "<init>", desc := "()V" } : Jvm.MethodName)) ∈ bg := bg_m1 59 rfl rfl
theorem tw_60 : (Jvm.Cond.instanceMethod ({ cls := "java/util/AbstractCollection", name := "<init>", desc := "()V" } : Jvm.MethodName)) ∈ bg := bg_m1 60 rfl rfl
theorem tw_61 : (Jvm.Cond.code ({ cls := "java/util/AbstractCollection", name := "<init>", desc := "()V" } : Jvm.MethodName) prog_24_method_1_code (1 : Nat) (Option.none : Option Jvm.ClassFile.FieldType)) ∈ bg := bg_m1 61 rfl rfl
theorem tw_62 : (Jvm.Cond.methodLink "java/util/AbstractCollection" (1 : Nat) ({ cls := "java/lang/Object", name := "<init>", desc := "()V" } : Jvm.MethodName)) ∈ bg := bg_m1 62 rfl rfl
theorem tw_63 : (Jvm.Cond.fieldLink "java/util/ArrayList" (39 : Nat) "java/util/ArrayList" "DEFAULTCAPACITY_EMPTY_ELEMENTDATA" "[Ljava/lang/Object;") ∈ bg := bg_m1 63 rfl rfl
theorem tx_64 : (Jvm.Cond.laysStatic "java/util/ArrayList" "DEFAULTCAPACITY_EMPTY_ELEMENTDATA" "[Ljava/lang/Object;") ∈ lw_tbl := tb_m1 64 rfl
theorem tw_65 : (Jvm.Cond.fieldLink "java/util/ArrayList" (9 : Nat) "java/util/ArrayList" "elementData" "[Ljava/lang/Object;") ∈ bg := bg_m1 65 rfl rfl
theorem tw_66 : (Jvm.Cond.fieldLink "java/util/ArrayList" (48 : Nat) "java/util/ArrayList" "size" "I") ∈ bg := bg_m1 66 rfl rfl
theorem tw_67 : (Jvm.Cond.fieldLink "java/util/AbstractList" (7 : Nat) "java/util/AbstractList" "modCount" "I") ∈ bg := bg_m1 67 rfl rfl
theorem tw_68 : (Jvm.Cond.fieldLink "java/util/ArrayList" (63 : Nat) "java/util/ArrayList" "modCount" "I") ∈ bg := bg_m1 68 rfl rfl
theorem tw_69 : (Jvm.Cond.sameField "java/util/ArrayList" "java/util/AbstractList" "modCount" "I") ∈ bg := bg_m1 69 rfl rfl
theorem tw_70 : (Jvm.Cond.lays "java/util/ArrayList" "java/util/ArrayList" "elementData" "[Ljava/lang/Object;") ∈ bg := bg_m1 70 rfl rfl
theorem tw_71 : (Jvm.Cond.soleField "java/util/ArrayList" "elementData") ∈ bg := bg_m1 71 rfl rfl
theorem tw_72 : (Jvm.Cond.lays "java/util/ArrayList" "java/util/ArrayList" "size" "I") ∈ bg := bg_m1 72 rfl rfl
theorem tw_73 : (Jvm.Cond.soleField "java/util/ArrayList" "size") ∈ bg := bg_m1 73 rfl rfl
theorem tw_74 : (Jvm.Cond.lays "java/util/ArrayList" "java/util/AbstractList" "modCount" "I") ∈ bg := bg_m1 74 rfl rfl
theorem tw_75 : (Jvm.Cond.soleField "java/util/AbstractList" "modCount") ∈ bg := bg_m1 75 rfl rfl
theorem tw_76 : (Jvm.Cond.superclass "java/util/ArrayList" "java/util/AbstractList") ∈ bg := bg_m1 76 rfl rfl
theorem tw_77 : (Jvm.Cond.fieldLink "FleetFloor$Air" (12 : Nat) "FleetFloor$Air" "flying" "Ljava/util/ArrayList;") ∈ bg := bg_m1 77 rfl rfl
theorem tw_78 : (Jvm.Cond.laysFinal "FleetFloor$Air" "FleetFloor$Air" "flying" "Ljava/util/ArrayList;") ∈ bg := bg_m1 78 rfl rfl
theorem tw_79 : (Jvm.Cond.soleField "FleetFloor$Air" "flying") ∈ bg := bg_m1 79 rfl rfl
theorem tw_80 : (Jvm.Cond.superclass "FleetFloor$Air" "java/lang/Object") ∈ bg := bg_m1 80 rfl rfl
theorem tw_81 : (Jvm.Cond.classLink "FleetFloor" (23 : Nat) "java/util/ArrayList") ∈ bg := bg_m1 81 rfl rfl
theorem tw_82 : (Jvm.Cond.methodLink "FleetFloor" (25 : Nat) ({ cls := "java/util/ArrayList", name := "<init>", desc := "()V" } : Jvm.MethodName)) ∈ bg := bg_m1 82 rfl rfl
theorem tw_83 : (Jvm.Cond.classLink "FleetFloor" (30 : Nat) "FleetFloor$Vehicle") ∈ bg := bg_m1 83 rfl rfl
theorem tx_84 : (Jvm.Cond.arrayOver (Jvm.ClassFile.FieldType.object "FleetFloor$Vehicle")) ∈ lw_tbl := tb_m1 84 rfl
theorem tw_85 : (Jvm.Cond.fieldLink "FleetFloor" (12 : Nat) "FleetFloor" "map" "LFleetFloor$FloorMap;") ∈ bg := bg_m1 85 rfl rfl
theorem tw_86 : (Jvm.Cond.fieldLink "FleetFloor" (19 : Nat) "FleetFloor" "air" "LFleetFloor$Air;") ∈ bg := bg_m1 86 rfl rfl
theorem tw_87 : (Jvm.Cond.fieldLink "FleetFloor" (26 : Nat) "FleetFloor" "tasks" "Ljava/util/ArrayList;") ∈ bg := bg_m1 87 rfl rfl
theorem tw_88 : (Jvm.Cond.fieldLink "FleetFloor" (32 : Nat) "FleetFloor" "vehicles" "[LFleetFloor$Vehicle;") ∈ bg := bg_m1 88 rfl rfl
theorem tw_89 : (Jvm.Cond.fieldLink "FleetFloor" (36 : Nat) "FleetFloor" "stations" "[I") ∈ bg := bg_m1 89 rfl rfl
theorem tw_90 : (Jvm.Cond.fieldLink "FleetFloor" (40 : Nat) "FleetFloor" "planner" "LFleetFloor$Planner;") ∈ bg := bg_m1 90 rfl rfl
theorem tw_91 : (Jvm.Cond.fieldLink "FleetFloor" (44 : Nat) "FleetFloor" "planned" "I") ∈ bg := bg_m1 91 rfl rfl
theorem tw_92 : (Jvm.Cond.fieldLink "FleetFloor" (48 : Nat) "FleetFloor" "tickToCome" "I") ∈ bg := bg_m1 92 rfl rfl
theorem tw_93 : (Jvm.Cond.fieldLink "FleetFloor" (51 : Nat) "FleetFloor" "planClock" "I") ∈ bg := bg_m1 93 rfl rfl
theorem tw_94 : (Jvm.Cond.laysFinal "FleetFloor" "FleetFloor" "map" "LFleetFloor$FloorMap;") ∈ bg := bg_m1 94 rfl rfl
theorem tw_95 : (Jvm.Cond.soleField "FleetFloor" "map") ∈ bg := bg_m1 95 rfl rfl
theorem tw_96 : (Jvm.Cond.laysFinal "FleetFloor" "FleetFloor" "air" "LFleetFloor$Air;") ∈ bg := bg_m1 96 rfl rfl
theorem tw_97 : (Jvm.Cond.soleField "FleetFloor" "air") ∈ bg := bg_m1 97 rfl rfl
theorem tw_98 : (Jvm.Cond.laysFinal "FleetFloor" "FleetFloor" "tasks" "Ljava/util/ArrayList;") ∈ bg := bg_m1 98 rfl rfl
theorem tw_99 : (Jvm.Cond.soleField "FleetFloor" "tasks") ∈ bg := bg_m1 99 rfl rfl
theorem tw_100 : (Jvm.Cond.lays "FleetFloor" "FleetFloor" "vehicles" "[LFleetFloor$Vehicle;") ∈ bg := bg_m1 100 rfl rfl
theorem tw_101 : (Jvm.Cond.soleField "FleetFloor" "vehicles") ∈ bg := bg_m1 101 rfl rfl
theorem tw_102 : (Jvm.Cond.lays "FleetFloor" "FleetFloor" "stations" "[I") ∈ bg := bg_m1 102 rfl rfl
theorem tw_103 : (Jvm.Cond.soleField "FleetFloor" "stations") ∈ bg := bg_m1 103 rfl rfl
theorem tw_104 : (Jvm.Cond.lays "FleetFloor" "FleetFloor" "planner" "LFleetFloor$Planner;") ∈ bg := bg_m1 104 rfl rfl
theorem tw_105 : (Jvm.Cond.soleField "FleetFloor" "planner") ∈ bg := bg_m1 105 rfl rfl
theorem tw_106 : (Jvm.Cond.lays "FleetFloor" "FleetFloor" "planned" "I") ∈ bg := bg_m1 106 rfl rfl
theorem tw_107 : (Jvm.Cond.soleField "FleetFloor" "planned") ∈ bg := bg_m1 107 rfl rfl
theorem tw_108 : (Jvm.Cond.lays "FleetFloor" "FleetFloor" "tickToCome" "I") ∈ bg := bg_m1 108 rfl rfl
theorem tw_109 : (Jvm.Cond.soleField "FleetFloor" "tickToCome") ∈ bg := bg_m1 109 rfl rfl
theorem tw_110 : (Jvm.Cond.lays "FleetFloor" "FleetFloor" "planClock" "I") ∈ bg := bg_m1 110 rfl rfl
theorem tw_111 : (Jvm.Cond.soleField "FleetFloor" "planClock") ∈ bg := bg_m1 111 rfl rfl
theorem tw_112 : (Jvm.Cond.superclass "FleetFloor" "java/lang/Object") ∈ bg := bg_m1 112 rfl rfl
theorem tw_113 : (Jvm.Cond.methodLink "FleetFloorLaw" (28 : Nat) ({ cls := "FleetFloor", name := "cell", desc := "(II)Z" } : Jvm.MethodName)) ∈ bg := bg_m1 113 rfl rfl
theorem tw_114 : (Jvm.Cond.instanceMethod ({ cls := "FleetFloor", name := "cell", desc := "(II)Z" } : Jvm.MethodName)) ∈ bg := bg_m1 114 rfl rfl
theorem tw_115 : (Jvm.Cond.selects "FleetFloor" ({ cls := "FleetFloor", name := "cell", desc := "(II)Z" } : Jvm.MethodName) ({ cls := "FleetFloor", name := "cell", desc := "(II)Z" } : Jvm.MethodName)) ∈ bg := bg_m1 115 rfl rfl
theorem tw_116 : (Jvm.Cond.code ({ cls := "FleetFloor", name := "cell", desc := "(II)Z" } : Jvm.MethodName) prog_1_method_2_code (3 : Nat) (Option.some Jvm.ClassFile.FieldType.boolean)) ∈ bg := bg_m1 116 rfl rfl
theorem tw_117 : (Jvm.Cond.methodLink "FleetFloor" (54 : Nat) ({ cls := "FleetFloor", name := "isOpen", desc := "()Z" } : Jvm.MethodName)) ∈ bg := bg_m1 117 rfl rfl
theorem tx_118 : (Jvm.Cond.privateMethod ({ cls := "FleetFloor", name := "isOpen", desc := "()Z" } : Jvm.MethodName)) ∈ lw_tbl := tb_m1 118 rfl
theorem tw_119 : (Jvm.Cond.instanceMethod ({ cls := "FleetFloor", name := "isOpen", desc := "()Z" } : Jvm.MethodName)) ∈ bg := bg_m1 119 rfl rfl
theorem tw_120 : (Jvm.Cond.code ({ cls := "FleetFloor", name := "isOpen", desc := "()Z" } : Jvm.MethodName) prog_1_method_15_code (1 : Nat) (Option.some Jvm.ClassFile.FieldType.boolean)) ∈ bg := bg_m1 120 rfl rfl
theorem tw_121 : (Jvm.Cond.methodLink "FleetFloor" (58 : Nat) ({ cls := "FleetFloor$FloorMap", name := "change", desc := "(II)Z" } : Jvm.MethodName)) ∈ bg := bg_m1 121 rfl rfl
theorem tw_122 : (Jvm.Cond.instanceMethod ({ cls := "FleetFloor$FloorMap", name := "change", desc := "(II)Z" } : Jvm.MethodName)) ∈ bg := bg_m1 122 rfl rfl
theorem tw_123 : (Jvm.Cond.selects "FleetFloor$FloorMap" ({ cls := "FleetFloor$FloorMap", name := "change", desc := "(II)Z" } : Jvm.MethodName) ({ cls := "FleetFloor$FloorMap", name := "change", desc := "(II)Z" } : Jvm.MethodName)) ∈ bg := bg_m1 123 rfl rfl
theorem tw_124 : (Jvm.Cond.code ({ cls := "FleetFloor$FloorMap", name := "change", desc := "(II)Z" } : Jvm.MethodName) prog_4_method_2_code (3 : Nat) (Option.some Jvm.ClassFile.FieldType.boolean)) ∈ bg := bg_m1 124 rfl rfl
theorem tw_125 : (Jvm.Cond.methodLink "FleetFloorLaw" (49 : Nat) ({ cls := "FleetFloor", name := "letters", desc := "()I" } : Jvm.MethodName)) ∈ bg := bg_m1 125 rfl rfl
theorem tw_126 : (Jvm.Cond.instanceMethod ({ cls := "FleetFloor", name := "letters", desc := "()I" } : Jvm.MethodName)) ∈ bg := bg_m1 126 rfl rfl
theorem tw_127 : (Jvm.Cond.selects "FleetFloor" ({ cls := "FleetFloor", name := "letters", desc := "()I" } : Jvm.MethodName) ({ cls := "FleetFloor", name := "letters", desc := "()I" } : Jvm.MethodName)) ∈ bg := bg_m1 127 rfl rfl
theorem tw_128 : (Jvm.Cond.code ({ cls := "FleetFloor", name := "letters", desc := "()I" } : Jvm.MethodName) prog_1_method_6_code (1 : Nat) (Option.some Jvm.ClassFile.FieldType.int)) ∈ bg := bg_m1 128 rfl rfl
theorem tw_129 : (Jvm.Cond.methodLink "FleetFloor" (129 : Nat) ({ cls := "FleetFloor$Air", name := "size", desc := "()I" } : Jvm.MethodName)) ∈ bg := bg_m1 129 rfl rfl
theorem tw_130 : (Jvm.Cond.instanceMethod ({ cls := "FleetFloor$Air", name := "size", desc := "()I" } : Jvm.MethodName)) ∈ bg := bg_m1 130 rfl rfl
theorem tw_131 : (Jvm.Cond.selects "FleetFloor$Air" ({ cls := "FleetFloor$Air", name := "size", desc := "()I" } : Jvm.MethodName) ({ cls := "FleetFloor$Air", name := "size", desc := "()I" } : Jvm.MethodName)) ∈ bg := bg_m1 131 rfl rfl
theorem tw_132 : (Jvm.Cond.code ({ cls := "FleetFloor$Air", name := "size", desc := "()I" } : Jvm.MethodName) prog_2_method_2_code (1 : Nat) (Option.some Jvm.ClassFile.FieldType.int)) ∈ bg := bg_m1 132 rfl rfl
theorem tw_133 : (Jvm.Cond.methodLink "FleetFloor$Air" (18 : Nat) ({ cls := "java/util/ArrayList", name := "size", desc := "()I" } : Jvm.MethodName)) ∈ bg := bg_m1 133 rfl rfl
theorem tw_134 : (Jvm.Cond.instanceMethod ({ cls := "java/util/ArrayList", name := "size", desc := "()I" } : Jvm.MethodName)) ∈ bg := bg_m1 134 rfl rfl
theorem tw_135 : (Jvm.Cond.selects "java/util/ArrayList" ({ cls := "java/util/ArrayList", name := "size", desc := "()I" } : Jvm.MethodName) ({ cls := "java/util/ArrayList", name := "size", desc := "()I" } : Jvm.MethodName)) ∈ bg := bg_m1 135 rfl rfl
theorem tw_136 : (Jvm.Cond.code ({ cls := "java/util/ArrayList", name := "size", desc := "()I" } : Jvm.MethodName) prog_26_method_8_code (1 : Nat) (Option.some Jvm.ClassFile.FieldType.int)) ∈ bg := bg_m1 136 rfl rfl
theorem tw_137 : (Jvm.Cond.methodLink "FleetFloorLaw" (53 : Nat) ({ cls := "FleetFloor", name := "letter", desc := "(II)I" } : Jvm.MethodName)) ∈ bg := bg_m1 137 rfl rfl
theorem tw_138 : (Jvm.Cond.instanceMethod ({ cls := "FleetFloor", name := "letter", desc := "(II)I" } : Jvm.MethodName)) ∈ bg := bg_m1 138 rfl rfl
theorem tw_139 : (Jvm.Cond.selects "FleetFloor" ({ cls := "FleetFloor", name := "letter", desc := "(II)I" } : Jvm.MethodName) ({ cls := "FleetFloor", name := "letter", desc := "(II)I" } : Jvm.MethodName)) ∈ bg := bg_m1 139 rfl rfl
theorem tw_140 : (Jvm.Cond.code ({ cls := "FleetFloor", name := "letter", desc := "(II)I" } : Jvm.MethodName) prog_1_method_7_code (4 : Nat) (Option.some Jvm.ClassFile.FieldType.int)) ∈ bg := bg_m1 140 rfl rfl
theorem tw_141 : (Jvm.Cond.methodLink "FleetFloor" (130 : Nat) ({ cls := "FleetFloor$Air", name := "look", desc := "(I)LFleetFloor$Letter;" } : Jvm.MethodName)) ∈ bg := bg_m1 141 rfl rfl
theorem tw_142 : (Jvm.Cond.instanceMethod ({ cls := "FleetFloor$Air", name := "look", desc := "(I)LFleetFloor$Letter;" } : Jvm.MethodName)) ∈ bg := bg_m1 142 rfl rfl
theorem tw_143 : (Jvm.Cond.selects "FleetFloor$Air" ({ cls := "FleetFloor$Air", name := "look", desc := "(I)LFleetFloor$Letter;" } : Jvm.MethodName) ({ cls := "FleetFloor$Air", name := "look", desc := "(I)LFleetFloor$Letter;" } : Jvm.MethodName)) ∈ bg := bg_m1 143 rfl rfl
theorem tw_144 : (Jvm.Cond.code ({ cls := "FleetFloor$Air", name := "look", desc := "(I)LFleetFloor$Letter;" } : Jvm.MethodName) prog_2_method_3_code (2 : Nat) (Option.some (Jvm.ClassFile.FieldType.object "FleetFloor$Letter"))) ∈ bg := bg_m1 144 rfl rfl
theorem tw_145 : (Jvm.Cond.methodLink "FleetFloor$Air" (22 : Nat) ({ cls := "java/util/ArrayList", name := "get", desc := "(I)Ljava/lang/Object;" } : Jvm.MethodName)) ∈ bg := bg_m1 145 rfl rfl
theorem tw_146 : (Jvm.Cond.instanceMethod ({ cls := "java/util/ArrayList", name := "get", desc := "(I)Ljava/lang/Object;" } : Jvm.MethodName)) ∈ bg := bg_m1 146 rfl rfl
theorem tw_147 : (Jvm.Cond.selects "java/util/ArrayList" ({ cls := "java/util/ArrayList", name := "get", desc := "(I)Ljava/lang/Object;" } : Jvm.MethodName) ({ cls := "java/util/ArrayList", name := "get", desc := "(I)Ljava/lang/Object;" } : Jvm.MethodName)) ∈ bg := bg_m1 147 rfl rfl
theorem tw_148 : (Jvm.Cond.code ({ cls := "java/util/ArrayList", name := "get", desc := "(I)Ljava/lang/Object;" } : Jvm.MethodName) prog_26_method_20_code (2 : Nat) (Option.some (Jvm.ClassFile.FieldType.object "java/lang/Object"))) ∈ bg := bg_m1 148 rfl rfl
theorem tw_149 : (Jvm.Cond.methodLink "java/util/ArrayList" (118 : Nat) ({ cls := "java/util/Objects", name := "checkIndex", desc := "(II)I" } : Jvm.MethodName)) ∈ bg := bg_m1 149 rfl rfl
theorem tw_150 : (Jvm.Cond.static ({ cls := "java/util/Objects", name := "checkIndex", desc := "(II)I" } : Jvm.MethodName)) ∈ bg := bg_m1 150 rfl rfl
theorem tw_151 : (Jvm.Cond.code ({ cls := "java/util/Objects", name := "checkIndex", desc := "(II)I" } : Jvm.MethodName) prog_30_method_17_code (2 : Nat) (Option.some Jvm.ClassFile.FieldType.int)) ∈ bg := bg_m1 151 rfl rfl
theorem tw_152 : (Jvm.Cond.methodLink "java/util/Objects" (105 : Nat) ({ cls := "jdk/internal/util/Preconditions", name := "checkIndex", desc := "(IILjava/util/function/BiFunction;)I" } : Jvm.MethodName)) ∈ bg := bg_m1 152 rfl rfl
theorem tw_153 : (Jvm.Cond.static ({ cls := "jdk/internal/util/Preconditions", name := "checkIndex", desc := "(IILjava/util/function/BiFunction;)I" } : Jvm.MethodName)) ∈ bg := bg_m1 153 rfl rfl
theorem tw_154 : (Jvm.Cond.code ({ cls := "jdk/internal/util/Preconditions", name := "checkIndex", desc := "(IILjava/util/function/BiFunction;)I" } : Jvm.MethodName) prog_34_method_11_code (3 : Nat) (Option.some Jvm.ClassFile.FieldType.int)) ∈ bg := bg_m1 154 rfl rfl
theorem tw_155 : (Jvm.Cond.methodLink "java/util/ArrayList" (123 : Nat) ({ cls := "java/util/ArrayList", name := "elementData", desc := "(I)Ljava/lang/Object;" } : Jvm.MethodName)) ∈ bg := bg_m1 155 rfl rfl
theorem tw_156 : (Jvm.Cond.instanceMethod ({ cls := "java/util/ArrayList", name := "elementData", desc := "(I)Ljava/lang/Object;" } : Jvm.MethodName)) ∈ bg := bg_m1 156 rfl rfl
theorem tw_157 : (Jvm.Cond.selects "java/util/ArrayList" ({ cls := "java/util/ArrayList", name := "elementData", desc := "(I)Ljava/lang/Object;" } : Jvm.MethodName) ({ cls := "java/util/ArrayList", name := "elementData", desc := "(I)Ljava/lang/Object;" } : Jvm.MethodName)) ∈ bg := bg_m1 157 rfl rfl
theorem tw_158 : (Jvm.Cond.code ({ cls := "java/util/ArrayList", name := "elementData", desc := "(I)Ljava/lang/Object;" } : Jvm.MethodName) prog_26_method_18_code (2 : Nat) (Option.some (Jvm.ClassFile.FieldType.object "java/lang/Object"))) ∈ bg := bg_m1 158 rfl rfl
theorem tw_159 : (Jvm.Cond.classLink "FleetFloor$Air" (26 : Nat) "FleetFloor$Letter") ∈ bg := bg_m1 159 rfl rfl
theorem tw_160 : (Jvm.Cond.methodLink "FleetFloor" (134 : Nat) ({ cls := "FleetFloor$Letter", name := "kind", desc := "()I" } : Jvm.MethodName)) ∈ bg := bg_m1 160 rfl rfl
theorem tw_161 : (Jvm.Cond.instanceMethod ({ cls := "FleetFloor$Letter", name := "kind", desc := "()I" } : Jvm.MethodName)) ∈ bg := bg_m1 161 rfl rfl
theorem tw_162 : (Jvm.Cond.selects "FleetFloor$Letter" ({ cls := "FleetFloor$Letter", name := "kind", desc := "()I" } : Jvm.MethodName) ({ cls := "FleetFloor$Letter", name := "kind", desc := "()I" } : Jvm.MethodName)) ∈ bg := bg_m1 162 rfl rfl
theorem tw_163 : (Jvm.Cond.code ({ cls := "FleetFloor$Letter", name := "kind", desc := "()I" } : Jvm.MethodName) prog_5_method_5_code (1 : Nat) (Option.some Jvm.ClassFile.FieldType.int)) ∈ bg := bg_m1 163 rfl rfl
theorem tw_164 : (Jvm.Cond.methodLink "FleetFloor" (139 : Nat) ({ cls := "FleetFloor$Letter", name := "owner", desc := "()I" } : Jvm.MethodName)) ∈ bg := bg_m1 164 rfl rfl
theorem tw_165 : (Jvm.Cond.instanceMethod ({ cls := "FleetFloor$Letter", name := "owner", desc := "()I" } : Jvm.MethodName)) ∈ bg := bg_m1 165 rfl rfl
theorem tw_166 : (Jvm.Cond.selects "FleetFloor$Letter" ({ cls := "FleetFloor$Letter", name := "owner", desc := "()I" } : Jvm.MethodName) ({ cls := "FleetFloor$Letter", name := "owner", desc := "()I" } : Jvm.MethodName)) ∈ bg := bg_m1 166 rfl rfl
theorem tw_167 : (Jvm.Cond.code ({ cls := "FleetFloor$Letter", name := "owner", desc := "()I" } : Jvm.MethodName) prog_5_method_6_code (1 : Nat) (Option.some Jvm.ClassFile.FieldType.int)) ∈ bg := bg_m1 167 rfl rfl
theorem tw_168 : (Jvm.Cond.methodLink "FleetFloor" (142 : Nat) ({ cls := "FleetFloor$Letter", name := "number", desc := "()I" } : Jvm.MethodName)) ∈ bg := bg_m1 168 rfl rfl
theorem tw_169 : (Jvm.Cond.instanceMethod ({ cls := "FleetFloor$Letter", name := "number", desc := "()I" } : Jvm.MethodName)) ∈ bg := bg_m1 169 rfl rfl
theorem tw_170 : (Jvm.Cond.selects "FleetFloor$Letter" ({ cls := "FleetFloor$Letter", name := "number", desc := "()I" } : Jvm.MethodName) ({ cls := "FleetFloor$Letter", name := "number", desc := "()I" } : Jvm.MethodName)) ∈ bg := bg_m1 170 rfl rfl
theorem tw_171 : (Jvm.Cond.code ({ cls := "FleetFloor$Letter", name := "number", desc := "()I" } : Jvm.MethodName) prog_5_method_7_code (1 : Nat) (Option.some Jvm.ClassFile.FieldType.int)) ∈ bg := bg_m1 171 rfl rfl
theorem tw_172 : (Jvm.Cond.methodLink "FleetFloorLaw" (57 : Nat) ({ cls := "FleetFloor", name := "deliver", desc := "(I)Z" } : Jvm.MethodName)) ∈ bg := bg_m1 172 rfl rfl
theorem tw_173 : (Jvm.Cond.instanceMethod ({ cls := "FleetFloor", name := "deliver", desc := "(I)Z" } : Jvm.MethodName)) ∈ bg := bg_m1 173 rfl rfl
theorem tw_174 : (Jvm.Cond.selects "FleetFloor" ({ cls := "FleetFloor", name := "deliver", desc := "(I)Z" } : Jvm.MethodName) ({ cls := "FleetFloor", name := "deliver", desc := "(I)Z" } : Jvm.MethodName)) ∈ bg := bg_m1 174 rfl rfl
theorem tw_175 : (Jvm.Cond.code ({ cls := "FleetFloor", name := "deliver", desc := "(I)Z" } : Jvm.MethodName) prog_1_method_8_code (4 : Nat) (Option.some Jvm.ClassFile.FieldType.boolean)) ∈ bg := bg_m1 175 rfl rfl
theorem tw_176 : (Jvm.Cond.methodLink "FleetFloor" (145 : Nat) ({ cls := "FleetFloor", name := "vehicleNumbered", desc := "(I)LFleetFloor$Vehicle;" } : Jvm.MethodName)) ∈ bg := bg_m1 176 rfl rfl
theorem tx_177 : (Jvm.Cond.privateMethod ({ cls := "FleetFloor", name := "vehicleNumbered", desc := "(I)LFleetFloor$Vehicle;" } : Jvm.MethodName)) ∈ lw_tbl := tb_m1 177 rfl
theorem tw_178 : (Jvm.Cond.instanceMethod ({ cls := "FleetFloor", name := "vehicleNumbered", desc := "(I)LFleetFloor$Vehicle;" } : Jvm.MethodName)) ∈ bg := bg_m1 178 rfl rfl
theorem tw_179 : (Jvm.Cond.code ({ cls := "FleetFloor", name := "vehicleNumbered", desc := "(I)LFleetFloor$Vehicle;" } : Jvm.MethodName) prog_1_method_17_code (2 : Nat) (Option.some (Jvm.ClassFile.FieldType.object "FleetFloor$Vehicle"))) ∈ bg := bg_m1 179 rfl rfl
theorem tw_180 : (Jvm.Cond.methodLink "FleetFloor" (149 : Nat) ({ cls := "FleetFloor$Vehicle", name := "take", desc := "(LFleetFloor$Letter;)V" } : Jvm.MethodName)) ∈ bg := bg_m1 180 rfl rfl
theorem tw_181 : (Jvm.Cond.instanceMethod ({ cls := "FleetFloor$Vehicle", name := "take", desc := "(LFleetFloor$Letter;)V" } : Jvm.MethodName)) ∈ bg := bg_m1 181 rfl rfl
theorem tw_182 : (Jvm.Cond.selects "FleetFloor$Vehicle" ({ cls := "FleetFloor$Vehicle", name := "take", desc := "(LFleetFloor$Letter;)V" } : Jvm.MethodName) ({ cls := "FleetFloor$Vehicle", name := "take", desc := "(LFleetFloor$Letter;)V" } : Jvm.MethodName)) ∈ bg := bg_m1 182 rfl rfl
theorem tw_183 : (Jvm.Cond.code ({ cls := "FleetFloor$Vehicle", name := "take", desc := "(LFleetFloor$Letter;)V" } : Jvm.MethodName) prog_9_method_6_code (2 : Nat) (Option.none : Option Jvm.ClassFile.FieldType)) ∈ bg := bg_m1 183 rfl rfl
theorem tw_184 : (Jvm.Cond.methodLink "FleetFloor$Vehicle" (63 : Nat) ({ cls := "FleetFloor$Letter", name := "kind", desc := "()I" } : Jvm.MethodName)) ∈ bg := bg_m1 184 rfl rfl
theorem tw_185 : (Jvm.Cond.methodLink "FleetFloor$Vehicle" (68 : Nat) ({ cls := "FleetFloor$Letter", name := "number", desc := "()I" } : Jvm.MethodName)) ∈ bg := bg_m1 185 rfl rfl
theorem tw_186 : (Jvm.Cond.methodLink "FleetFloor$Vehicle" (70 : Nat) ({ cls := "java/lang/Math", name := "max", desc := "(II)I" } : Jvm.MethodName)) ∈ bg := bg_m1 186 rfl rfl
theorem tw_187 : (Jvm.Cond.static ({ cls := "java/lang/Math", name := "max", desc := "(II)I" } : Jvm.MethodName)) ∈ bg := bg_m1 187 rfl rfl
theorem tw_188 : (Jvm.Cond.code ({ cls := "java/lang/Math", name := "max", desc := "(II)I" } : Jvm.MethodName) prog_18_method_65_code (2 : Nat) (Option.some Jvm.ClassFile.FieldType.int)) ∈ bg := bg_m1 188 rfl rfl
theorem tw_189 : (Jvm.Cond.methodLink "FleetFloor" (153 : Nat) ({ cls := "FleetFloor$Air", name := "remove", desc := "(I)Z" } : Jvm.MethodName)) ∈ bg := bg_m1 189 rfl rfl
theorem tw_190 : (Jvm.Cond.instanceMethod ({ cls := "FleetFloor$Air", name := "remove", desc := "(I)Z" } : Jvm.MethodName)) ∈ bg := bg_m1 190 rfl rfl
theorem tw_191 : (Jvm.Cond.selects "FleetFloor$Air" ({ cls := "FleetFloor$Air", name := "remove", desc := "(I)Z" } : Jvm.MethodName) ({ cls := "FleetFloor$Air", name := "remove", desc := "(I)Z" } : Jvm.MethodName)) ∈ bg := bg_m1 191 rfl rfl
theorem tw_192 : (Jvm.Cond.code ({ cls := "FleetFloor$Air", name := "remove", desc := "(I)Z" } : Jvm.MethodName) prog_2_method_5_code (2 : Nat) (Option.some Jvm.ClassFile.FieldType.boolean)) ∈ bg := bg_m1 192 rfl rfl
theorem tw_193 : (Jvm.Cond.methodLink "FleetFloor$Air" (32 : Nat) ({ cls := "java/util/ArrayList", name := "remove", desc := "(I)Ljava/lang/Object;" } : Jvm.MethodName)) ∈ bg := bg_m1 193 rfl rfl
theorem tw_194 : (Jvm.Cond.instanceMethod ({ cls := "java/util/ArrayList", name := "remove", desc := "(I)Ljava/lang/Object;" } : Jvm.MethodName)) ∈ bg := bg_m1 194 rfl rfl
theorem tw_195 : (Jvm.Cond.selects "java/util/ArrayList" ({ cls := "java/util/ArrayList", name := "remove", desc := "(I)Ljava/lang/Object;" } : Jvm.MethodName) ({ cls := "java/util/ArrayList", name := "remove", desc := "(I)Ljava/lang/Object;" } : Jvm.MethodName)) ∈ bg := bg_m1 195 rfl rfl
theorem tw_196 : (Jvm.Cond.code ({ cls := "java/util/ArrayList", name := "remove", desc := "(I)Ljava/lang/Object;" } : Jvm.MethodName) prog_26_method_29_code (4 : Nat) (Option.some (Jvm.ClassFile.FieldType.object "java/lang/Object"))) ∈ bg := bg_m1 196 rfl rfl
theorem tw_197 : (Jvm.Cond.methodLink "java/util/ArrayList" (144 : Nat) ({ cls := "java/util/ArrayList", name := "fastRemove", desc := "([Ljava/lang/Object;I)V" } : Jvm.MethodName)) ∈ bg := bg_m1 197 rfl rfl
theorem tx_198 : (Jvm.Cond.privateMethod ({ cls := "java/util/ArrayList", name := "fastRemove", desc := "([Ljava/lang/Object;I)V" } : Jvm.MethodName)) ∈ lw_tbl := tb_m1 198 rfl
theorem tw_199 : (Jvm.Cond.instanceMethod ({ cls := "java/util/ArrayList", name := "fastRemove", desc := "([Ljava/lang/Object;I)V" } : Jvm.MethodName)) ∈ bg := bg_m1 199 rfl rfl
theorem tw_200 : (Jvm.Cond.code ({ cls := "java/util/ArrayList", name := "fastRemove", desc := "([Ljava/lang/Object;I)V" } : Jvm.MethodName) prog_26_method_39_code (4 : Nat) (Option.none : Option Jvm.ClassFile.FieldType)) ∈ bg := bg_m1 200 rfl rfl
theorem tw_201 : (Jvm.Cond.methodLink "java/util/ArrayList" (112 : Nat) ({ cls := "java/lang/System", name := "arraycopy", desc := "(Ljava/lang/Object;ILjava/lang/Object;II)V" } : Jvm.MethodName)) ∈ bg := bg_m1 201 rfl rfl
theorem tw_202 : (Jvm.Cond.static ({ cls := "java/lang/System", name := "arraycopy", desc := "(Ljava/lang/Object;ILjava/lang/Object;II)V" } : Jvm.MethodName)) ∈ bg := bg_m1 202 rfl rfl
theorem tx_203 : (Jvm.Cond.native ({ cls := "java/lang/System", name := "arraycopy", desc := "(Ljava/lang/Object;ILjava/lang/Object;II)V" } : Jvm.MethodName)) ∈ lw_tbl := tb_m1 203 rfl
theorem tw_204 : (Jvm.Cond.methodLink "FleetFloorLaw" (62 : Nat) ({ cls := "FleetFloor", name := "lose", desc := "(I)Z" } : Jvm.MethodName)) ∈ bg := bg_m1 204 rfl rfl
theorem tw_205 : (Jvm.Cond.instanceMethod ({ cls := "FleetFloor", name := "lose", desc := "(I)Z" } : Jvm.MethodName)) ∈ bg := bg_m1 205 rfl rfl
theorem tw_206 : (Jvm.Cond.selects "FleetFloor" ({ cls := "FleetFloor", name := "lose", desc := "(I)Z" } : Jvm.MethodName) ({ cls := "FleetFloor", name := "lose", desc := "(I)Z" } : Jvm.MethodName)) ∈ bg := bg_m1 206 rfl rfl
theorem tw_207 : (Jvm.Cond.code ({ cls := "FleetFloor", name := "lose", desc := "(I)Z" } : Jvm.MethodName) prog_1_method_9_code (2 : Nat) (Option.some Jvm.ClassFile.FieldType.boolean)) ∈ bg := bg_m1 207 rfl rfl
theorem tw_208 : (Jvm.Cond.methodLink "FleetFloorLaw" (66 : Nat) ({ cls := "FleetFloor", name := "twin", desc := "(I)Z" } : Jvm.MethodName)) ∈ bg := bg_m1 208 rfl rfl
theorem tw_209 : (Jvm.Cond.instanceMethod ({ cls := "FleetFloor", name := "twin", desc := "(I)Z" } : Jvm.MethodName)) ∈ bg := bg_m1 209 rfl rfl
theorem tw_210 : (Jvm.Cond.selects "FleetFloor" ({ cls := "FleetFloor", name := "twin", desc := "(I)Z" } : Jvm.MethodName) ({ cls := "FleetFloor", name := "twin", desc := "(I)Z" } : Jvm.MethodName)) ∈ bg := bg_m1 210 rfl rfl
theorem tw_211 : (Jvm.Cond.code ({ cls := "FleetFloor", name := "twin", desc := "(I)Z" } : Jvm.MethodName) prog_1_method_10_code (3 : Nat) (Option.some Jvm.ClassFile.FieldType.boolean)) ∈ bg := bg_m1 211 rfl rfl
theorem tw_212 : (Jvm.Cond.methodLink "FleetFloor" (156 : Nat) ({ cls := "FleetFloor$Air", name := "send", desc := "(LFleetFloor$Letter;)Z" } : Jvm.MethodName)) ∈ bg := bg_m1 212 rfl rfl
theorem tw_213 : (Jvm.Cond.instanceMethod ({ cls := "FleetFloor$Air", name := "send", desc := "(LFleetFloor$Letter;)Z" } : Jvm.MethodName)) ∈ bg := bg_m1 213 rfl rfl
theorem tw_214 : (Jvm.Cond.selects "FleetFloor$Air" ({ cls := "FleetFloor$Air", name := "send", desc := "(LFleetFloor$Letter;)Z" } : Jvm.MethodName) ({ cls := "FleetFloor$Air", name := "send", desc := "(LFleetFloor$Letter;)Z" } : Jvm.MethodName)) ∈ bg := bg_m1 214 rfl rfl
theorem tw_215 : (Jvm.Cond.code ({ cls := "FleetFloor$Air", name := "send", desc := "(LFleetFloor$Letter;)Z" } : Jvm.MethodName) prog_2_method_4_code (2 : Nat) (Option.some Jvm.ClassFile.FieldType.boolean)) ∈ bg := bg_m1 215 rfl rfl
theorem tw_216 : (Jvm.Cond.methodLink "FleetFloor$Air" (28 : Nat) ({ cls := "java/util/ArrayList", name := "add", desc := "(Ljava/lang/Object;)Z" } : Jvm.MethodName)) ∈ bg := bg_m1 216 rfl rfl
theorem tw_217 : (Jvm.Cond.instanceMethod ({ cls := "java/util/ArrayList", name := "add", desc := "(Ljava/lang/Object;)Z" } : Jvm.MethodName)) ∈ bg := bg_m1 217 rfl rfl
theorem tw_218 : (Jvm.Cond.selects "java/util/ArrayList" ({ cls := "java/util/ArrayList", name := "add", desc := "(Ljava/lang/Object;)Z" } : Jvm.MethodName) ({ cls := "java/util/ArrayList", name := "add", desc := "(Ljava/lang/Object;)Z" } : Jvm.MethodName)) ∈ bg := bg_m1 218 rfl rfl
theorem tw_219 : (Jvm.Cond.code ({ cls := "java/util/ArrayList", name := "add", desc := "(Ljava/lang/Object;)Z" } : Jvm.MethodName) prog_26_method_25_code (2 : Nat) (Option.some Jvm.ClassFile.FieldType.boolean)) ∈ bg := bg_m1 219 rfl rfl
theorem tw_220 : (Jvm.Cond.methodLink "java/util/ArrayList" (131 : Nat) ({ cls := "java/util/ArrayList", name := "add", desc := "(Ljava/lang/Object;[Ljava/lang/Object;I)V" } : Jvm.MethodName)) ∈ bg := bg_m1 220 rfl rfl
theorem tx_221 : (Jvm.Cond.privateMethod ({ cls := "java/util/ArrayList", name := "add", desc := "(Ljava/lang/Object;[Ljava/lang/Object;I)V" } : Jvm.MethodName)) ∈ lw_tbl := tb_m1 221 rfl
theorem tw_222 : (Jvm.Cond.instanceMethod ({ cls := "java/util/ArrayList", name := "add", desc := "(Ljava/lang/Object;[Ljava/lang/Object;I)V" } : Jvm.MethodName)) ∈ bg := bg_m1 222 rfl rfl
theorem tw_223 : (Jvm.Cond.code ({ cls := "java/util/ArrayList", name := "add", desc := "(Ljava/lang/Object;[Ljava/lang/Object;I)V" } : Jvm.MethodName) prog_26_method_24_code (4 : Nat) (Option.none : Option Jvm.ClassFile.FieldType)) ∈ bg := bg_m1 223 rfl rfl
theorem tw_224 : (Jvm.Cond.methodLink "java/util/ArrayList" (129 : Nat) ({ cls := "java/util/ArrayList", name := "grow", desc := "()[Ljava/lang/Object;" } : Jvm.MethodName)) ∈ bg := bg_m1 224 rfl rfl
theorem tx_225 : (Jvm.Cond.privateMethod ({ cls := "java/util/ArrayList", name := "grow", desc := "()[Ljava/lang/Object;" } : Jvm.MethodName)) ∈ lw_tbl := tb_m1 225 rfl
theorem tw_226 : (Jvm.Cond.instanceMethod ({ cls := "java/util/ArrayList", name := "grow", desc := "()[Ljava/lang/Object;" } : Jvm.MethodName)) ∈ bg := bg_m1 226 rfl rfl
theorem tw_227 : (Jvm.Cond.code ({ cls := "java/util/ArrayList", name := "grow", desc := "()[Ljava/lang/Object;" } : Jvm.MethodName) prog_26_method_7_code (1 : Nat) (Option.some (Jvm.ClassFile.FieldType.array (Jvm.ClassFile.FieldType.object "java/lang/Object")))) ∈ bg := bg_m1 227 rfl rfl
theorem tw_228 : (Jvm.Cond.methodLink "java/util/ArrayList" (69 : Nat) ({ cls := "java/util/ArrayList", name := "grow", desc := "(I)[Ljava/lang/Object;" } : Jvm.MethodName)) ∈ bg := bg_m1 228 rfl rfl
theorem tx_229 : (Jvm.Cond.privateMethod ({ cls := "java/util/ArrayList", name := "grow", desc := "(I)[Ljava/lang/Object;" } : Jvm.MethodName)) ∈ lw_tbl := tb_m1 229 rfl
theorem tw_230 : (Jvm.Cond.instanceMethod ({ cls := "java/util/ArrayList", name := "grow", desc := "(I)[Ljava/lang/Object;" } : Jvm.MethodName)) ∈ bg := bg_m1 230 rfl rfl
theorem tw_231 : (Jvm.Cond.code ({ cls := "java/util/ArrayList", name := "grow", desc := "(I)[Ljava/lang/Object;" } : Jvm.MethodName) prog_26_method_6_code (4 : Nat) (Option.some (Jvm.ClassFile.FieldType.array (Jvm.ClassFile.FieldType.object "java/lang/Object")))) ∈ bg := bg_m1 231 rfl rfl
theorem tw_232 : (Jvm.Cond.methodLink "java/util/ArrayList" (73 : Nat) ({ cls := "jdk/internal/util/ArraysSupport", name := "newLength", desc := "(III)I" } : Jvm.MethodName)) ∈ bg := bg_m1 232 rfl rfl
theorem tw_233 : (Jvm.Cond.static ({ cls := "jdk/internal/util/ArraysSupport", name := "newLength", desc := "(III)I" } : Jvm.MethodName)) ∈ bg := bg_m1 233 rfl rfl
theorem tw_234 : (Jvm.Cond.code ({ cls := "jdk/internal/util/ArraysSupport", name := "newLength", desc := "(III)I" } : Jvm.MethodName) prog_33_method_27_code (4 : Nat) (Option.some Jvm.ClassFile.FieldType.int)) ∈ bg := bg_m1 234 rfl rfl
theorem tw_235 : (Jvm.Cond.methodLink "jdk/internal/util/ArraysSupport" (194 : Nat) ({ cls := "java/lang/Math", name := "max", desc := "(II)I" } : Jvm.MethodName)) ∈ bg := bg_m1 235 rfl rfl
theorem tw_236 : (Jvm.Cond.constant "jdk/internal/util/ArraysSupport" (200 : Nat) (2147483639 : Int32)) ∈ bg := bg_m1 236 rfl rfl
theorem tw_237 : (Jvm.Cond.methodLink "jdk/internal/util/ArraysSupport" (201 : Nat) ({ cls := "jdk/internal/util/ArraysSupport", name := "hugeLength", desc := "(II)I" } : Jvm.MethodName)) ∈ bg := bg_m1 237 rfl rfl
theorem tw_238 : (Jvm.Cond.static ({ cls := "jdk/internal/util/ArraysSupport", name := "hugeLength", desc := "(II)I" } : Jvm.MethodName)) ∈ bg := bg_m1 238 rfl rfl
theorem tw_239 : (Jvm.Cond.code ({ cls := "jdk/internal/util/ArraysSupport", name := "hugeLength", desc := "(II)I" } : Jvm.MethodName) prog_33_method_28_code (3 : Nat) (Option.some Jvm.ClassFile.FieldType.int)) ∈ bg := bg_m1 239 rfl rfl
theorem tw_240 : (Jvm.Cond.methodLink "java/util/ArrayList" (66 : Nat) ({ cls := "java/util/Arrays", name := "copyOf", desc := "([Ljava/lang/Object;I)[Ljava/lang/Object;" } : Jvm.MethodName)) ∈ bg := bg_m2 0 rfl rfl
theorem tw_241 : (Jvm.Cond.static ({ cls := "java/util/Arrays", name := "copyOf", desc := "([Ljava/lang/Object;I)[Ljava/lang/Object;" } : Jvm.MethodName)) ∈ bg := bg_m2 1 rfl rfl
theorem tw_242 : (Jvm.Cond.code ({ cls := "java/util/Arrays", name := "copyOf", desc := "([Ljava/lang/Object;I)[Ljava/lang/Object;" } : Jvm.MethodName) prog_27_method_119_code (2 : Nat) (Option.some (Jvm.ClassFile.FieldType.array (Jvm.ClassFile.FieldType.object "java/lang/Object")))) ∈ bg := bg_m2 2 rfl rfl
theorem tw_243 : (Jvm.Cond.methodLink "java/util/Arrays" (86 : Nat) ({ cls := "java/lang/Object", name := "getClass", desc := "()Ljava/lang/Class;" } : Jvm.MethodName)) ∈ bg := bg_m2 3 rfl rfl
theorem tw_244 : (Jvm.Cond.instanceMethod ({ cls := "java/lang/Object", name := "getClass", desc := "()Ljava/lang/Class;" } : Jvm.MethodName)) ∈ bg := bg_m2 4 rfl rfl
theorem tw_245 : (Jvm.Cond.sameMethod "java/lang/Object" "java/lang/Object" "getClass" "()Ljava/lang/Class;") ∈ bg := bg_m2 5 rfl rfl
theorem tw_246 : (Jvm.Cond.selects "FleetFloor" ({ cls := "java/lang/Object", name := "getClass", desc := "()Ljava/lang/Class;" } : Jvm.MethodName) ({ cls := "java/lang/Object", name := "getClass", desc := "()Ljava/lang/Class;" } : Jvm.MethodName)) ∈ bg := bg_m2 6 rfl rfl
theorem tw_247 : (Jvm.Cond.selects "FleetFloor$Air" ({ cls := "java/lang/Object", name := "getClass", desc := "()Ljava/lang/Class;" } : Jvm.MethodName) ({ cls := "java/lang/Object", name := "getClass", desc := "()Ljava/lang/Class;" } : Jvm.MethodName)) ∈ bg := bg_m2 7 rfl rfl
theorem tw_248 : (Jvm.Cond.selects "FleetFloor$Cells" ({ cls := "java/lang/Object", name := "getClass", desc := "()Ljava/lang/Class;" } : Jvm.MethodName) ({ cls := "java/lang/Object", name := "getClass", desc := "()Ljava/lang/Class;" } : Jvm.MethodName)) ∈ bg := bg_m2 8 rfl rfl
theorem tw_249 : (Jvm.Cond.selects "FleetFloor$FloorMap" ({ cls := "java/lang/Object", name := "getClass", desc := "()Ljava/lang/Class;" } : Jvm.MethodName) ({ cls := "java/lang/Object", name := "getClass", desc := "()Ljava/lang/Class;" } : Jvm.MethodName)) ∈ bg := bg_m2 9 rfl rfl
theorem tw_250 : (Jvm.Cond.selects "FleetFloor$Letter" ({ cls := "java/lang/Object", name := "getClass", desc := "()Ljava/lang/Class;" } : Jvm.MethodName) ({ cls := "java/lang/Object", name := "getClass", desc := "()Ljava/lang/Class;" } : Jvm.MethodName)) ∈ bg := bg_m2 10 rfl rfl
theorem tw_251 : (Jvm.Cond.selects "FleetFloor$Move" ({ cls := "java/lang/Object", name := "getClass", desc := "()Ljava/lang/Class;" } : Jvm.MethodName) ({ cls := "java/lang/Object", name := "getClass", desc := "()Ljava/lang/Class;" } : Jvm.MethodName)) ∈ bg := bg_m2 11 rfl rfl
theorem tw_252 : (Jvm.Cond.selects "FleetFloor$Planner" ({ cls := "java/lang/Object", name := "getClass", desc := "()Ljava/lang/Class;" } : Jvm.MethodName) ({ cls := "java/lang/Object", name := "getClass", desc := "()Ljava/lang/Class;" } : Jvm.MethodName)) ∈ bg := bg_m2 12 rfl rfl
theorem tw_253 : (Jvm.Cond.selects "FleetFloor$Task" ({ cls := "java/lang/Object", name := "getClass", desc := "()Ljava/lang/Class;" } : Jvm.MethodName) ({ cls := "java/lang/Object", name := "getClass", desc := "()Ljava/lang/Class;" } : Jvm.MethodName)) ∈ bg := bg_m2 13 rfl rfl
theorem tw_254 : (Jvm.Cond.selects "FleetFloor$Vehicle" ({ cls := "java/lang/Object", name := "getClass", desc := "()Ljava/lang/Class;" } : Jvm.MethodName) ({ cls := "java/lang/Object", name := "getClass", desc := "()Ljava/lang/Class;" } : Jvm.MethodName)) ∈ bg := bg_m2 14 rfl rfl
theorem tw_255 : (Jvm.Cond.selects "FleetFloorModel" ({ cls := "java/lang/Object", name := "getClass", desc := "()Ljava/lang/Class;" } : Jvm.MethodName) ({ cls := "java/lang/Object", name := "getClass", desc := "()Ljava/lang/Class;" } : Jvm.MethodName)) ∈ bg := bg_m2 15 rfl rfl
theorem tw_256 : (Jvm.Cond.selects "java/lang/IllegalArgumentException" ({ cls := "java/lang/Object", name := "getClass", desc := "()Ljava/lang/Class;" } : Jvm.MethodName) ({ cls := "java/lang/Object", name := "getClass", desc := "()Ljava/lang/Class;" } : Jvm.MethodName)) ∈ bg := bg_m2 16 rfl rfl
theorem tw_257 : (Jvm.Cond.selects "java/lang/IllegalStateException" ({ cls := "java/lang/Object", name := "getClass", desc := "()Ljava/lang/Class;" } : Jvm.MethodName) ({ cls := "java/lang/Object", name := "getClass", desc := "()Ljava/lang/Class;" } : Jvm.MethodName)) ∈ bg := bg_m2 17 rfl rfl
theorem tw_258 : (Jvm.Cond.selects "java/util/ArrayList" ({ cls := "java/lang/Object", name := "getClass", desc := "()Ljava/lang/Class;" } : Jvm.MethodName) ({ cls := "java/lang/Object", name := "getClass", desc := "()Ljava/lang/Class;" } : Jvm.MethodName)) ∈ bg := bg_m2 18 rfl rfl
theorem tx_259 : (Jvm.Cond.native ({ cls := "java/lang/Object", name := "getClass", desc := "()Ljava/lang/Class;" } : Jvm.MethodName)) ∈ lw_tbl := tb_m2 19 rfl
theorem tw_260 : (Jvm.Cond.methodLink "java/util/Arrays" (300 : Nat) ({ cls := "java/util/Arrays", name := "copyOf", desc := "([Ljava/lang/Object;ILjava/lang/Class;)[Ljava/lang/Object;" } : Jvm.MethodName)) ∈ bg := bg_m2 20 rfl rfl
theorem tw_261 : (Jvm.Cond.static ({ cls := "java/util/Arrays", name := "copyOf", desc := "([Ljava/lang/Object;ILjava/lang/Class;)[Ljava/lang/Object;" } : Jvm.MethodName)) ∈ bg := bg_m2 21 rfl rfl
theorem tw_262 : (Jvm.Cond.code ({ cls := "java/util/Arrays", name := "copyOf", desc := "([Ljava/lang/Object;ILjava/lang/Class;)[Ljava/lang/Object;" } : Jvm.MethodName) prog_27_method_120_code (4 : Nat) (Option.some (Jvm.ClassFile.FieldType.array (Jvm.ClassFile.FieldType.object "java/lang/Object")))) ∈ bg := bg_m2 22 rfl rfl
theorem tw_263 : (Jvm.Cond.classLink "java/util/Arrays" (110 : Nat) "[Ljava/lang/Object;") ∈ bg := bg_m2 23 rfl rfl
theorem tx_264 : (Jvm.Cond.arrayOver (Jvm.ClassFile.FieldType.object "java/lang/Object")) ∈ lw_tbl := tb_m2 24 rfl
theorem tw_265 : (Jvm.Cond.classLink "java/util/Arrays" (2 : Nat) "java/lang/Object") ∈ bg := bg_m2 25 rfl rfl
theorem tw_266 : (Jvm.Cond.methodLink "java/util/Arrays" (304 : Nat) ({ cls := "java/lang/Math", name := "min", desc := "(II)I" } : Jvm.MethodName)) ∈ bg := bg_m2 26 rfl rfl
theorem tw_267 : (Jvm.Cond.static ({ cls := "java/lang/Math", name := "min", desc := "(II)I" } : Jvm.MethodName)) ∈ bg := bg_m2 27 rfl rfl
theorem tw_268 : (Jvm.Cond.code ({ cls := "java/lang/Math", name := "min", desc := "(II)I" } : Jvm.MethodName) prog_18_method_69_code (2 : Nat) (Option.some Jvm.ClassFile.FieldType.int)) ∈ bg := bg_m2 28 rfl rfl
theorem tw_269 : (Jvm.Cond.methodLink "java/util/Arrays" (150 : Nat) ({ cls := "java/lang/System", name := "arraycopy", desc := "(Ljava/lang/Object;ILjava/lang/Object;II)V" } : Jvm.MethodName)) ∈ bg := bg_m2 29 rfl rfl
theorem tw_270 : (Jvm.Cond.methodLink "java/util/ArrayList" (79 : Nat) ({ cls := "java/lang/Math", name := "max", desc := "(II)I" } : Jvm.MethodName)) ∈ bg := bg_m2 30 rfl rfl
theorem tw_271 : (Jvm.Cond.classLink "java/util/ArrayList" (7 : Nat) "java/lang/Object") ∈ bg := bg_m2 31 rfl rfl
theorem tw_272 : (Jvm.Cond.methodLink "FleetFloorLaw" (70 : Nat) ({ cls := "FleetFloor", name := "vehicle", desc := "(II)I" } : Jvm.MethodName)) ∈ bg := bg_m2 32 rfl rfl
theorem tw_273 : (Jvm.Cond.instanceMethod ({ cls := "FleetFloor", name := "vehicle", desc := "(II)I" } : Jvm.MethodName)) ∈ bg := bg_m2 33 rfl rfl
theorem tw_274 : (Jvm.Cond.selects "FleetFloor" ({ cls := "FleetFloor", name := "vehicle", desc := "(II)I" } : Jvm.MethodName) ({ cls := "FleetFloor", name := "vehicle", desc := "(II)I" } : Jvm.MethodName)) ∈ bg := bg_m2 34 rfl rfl
theorem tw_275 : (Jvm.Cond.code ({ cls := "FleetFloor", name := "vehicle", desc := "(II)I" } : Jvm.MethodName) prog_1_method_11_code (4 : Nat) (Option.some Jvm.ClassFile.FieldType.int)) ∈ bg := bg_m2 35 rfl rfl
theorem tw_276 : (Jvm.Cond.methodLink "FleetFloor" (163 : Nat) ({ cls := "FleetFloor$Vehicle", name := "placeAfter", desc := "(I)I" } : Jvm.MethodName)) ∈ bg := bg_m2 36 rfl rfl
theorem tw_277 : (Jvm.Cond.instanceMethod ({ cls := "FleetFloor$Vehicle", name := "placeAfter", desc := "(I)I" } : Jvm.MethodName)) ∈ bg := bg_m2 37 rfl rfl
theorem tw_278 : (Jvm.Cond.selects "FleetFloor$Vehicle" ({ cls := "FleetFloor$Vehicle", name := "placeAfter", desc := "(I)I" } : Jvm.MethodName) ({ cls := "FleetFloor$Vehicle", name := "placeAfter", desc := "(I)I" } : Jvm.MethodName)) ∈ bg := bg_m2 38 rfl rfl
theorem tw_279 : (Jvm.Cond.code ({ cls := "FleetFloor$Vehicle", name := "placeAfter", desc := "(I)I" } : Jvm.MethodName) prog_9_method_4_code (2 : Nat) (Option.some Jvm.ClassFile.FieldType.int)) ∈ bg := bg_m2 39 rfl rfl
theorem tw_280 : (Jvm.Cond.methodLink "FleetFloor$Vehicle" (47 : Nat) ({ cls := "java/util/ArrayList", name := "size", desc := "()I" } : Jvm.MethodName)) ∈ bg := bg_m2 40 rfl rfl
theorem tw_281 : (Jvm.Cond.methodLink "FleetFloor$Vehicle" (51 : Nat) ({ cls := "java/util/ArrayList", name := "get", desc := "(I)Ljava/lang/Object;" } : Jvm.MethodName)) ∈ bg := bg_m2 41 rfl rfl
theorem tw_282 : (Jvm.Cond.classLink "FleetFloor$Vehicle" (55 : Nat) "FleetFloor$Move") ∈ bg := bg_m2 42 rfl rfl
theorem tw_283 : (Jvm.Cond.methodLink "FleetFloor$Vehicle" (57 : Nat) ({ cls := "FleetFloor$Move", name := "place", desc := "()I" } : Jvm.MethodName)) ∈ bg := bg_m2 43 rfl rfl
theorem tw_284 : (Jvm.Cond.instanceMethod ({ cls := "FleetFloor$Move", name := "place", desc := "()I" } : Jvm.MethodName)) ∈ bg := bg_m2 44 rfl rfl
theorem tw_285 : (Jvm.Cond.selects "FleetFloor$Move" ({ cls := "FleetFloor$Move", name := "place", desc := "()I" } : Jvm.MethodName) ({ cls := "FleetFloor$Move", name := "place", desc := "()I" } : Jvm.MethodName)) ∈ bg := bg_m2 45 rfl rfl
theorem tw_286 : (Jvm.Cond.code ({ cls := "FleetFloor$Move", name := "place", desc := "()I" } : Jvm.MethodName) prog_6_method_5_code (1 : Nat) (Option.some Jvm.ClassFile.FieldType.int)) ∈ bg := bg_m2 46 rfl rfl
theorem tw_287 : (Jvm.Cond.methodLink "FleetFloor" (96 : Nat) ({ cls := "java/util/ArrayList", name := "size", desc := "()I" } : Jvm.MethodName)) ∈ bg := bg_m2 47 rfl rfl
theorem tw_288 : (Jvm.Cond.methodLink "FleetFloorLaw" (74 : Nat) ({ cls := "FleetFloor", name := "move", desc := "(III)I" } : Jvm.MethodName)) ∈ bg := bg_m2 48 rfl rfl
theorem tw_289 : (Jvm.Cond.instanceMethod ({ cls := "FleetFloor", name := "move", desc := "(III)I" } : Jvm.MethodName)) ∈ bg := bg_m2 49 rfl rfl
theorem tw_290 : (Jvm.Cond.selects "FleetFloor" ({ cls := "FleetFloor", name := "move", desc := "(III)I" } : Jvm.MethodName) ({ cls := "FleetFloor", name := "move", desc := "(III)I" } : Jvm.MethodName)) ∈ bg := bg_m2 50 rfl rfl
theorem tw_291 : (Jvm.Cond.code ({ cls := "FleetFloor", name := "move", desc := "(III)I" } : Jvm.MethodName) prog_1_method_12_code (6 : Nat) (Option.some Jvm.ClassFile.FieldType.int)) ∈ bg := bg_m2 51 rfl rfl
theorem tw_292 : (Jvm.Cond.methodLink "FleetFloor" (182 : Nat) ({ cls := "java/util/ArrayList", name := "get", desc := "(I)Ljava/lang/Object;" } : Jvm.MethodName)) ∈ bg := bg_m2 52 rfl rfl
theorem tw_293 : (Jvm.Cond.classLink "FleetFloor" (186 : Nat) "FleetFloor$Move") ∈ bg := bg_m2 53 rfl rfl
theorem tw_294 : (Jvm.Cond.methodLink "FleetFloor" (188 : Nat) ({ cls := "FleetFloor$Move", name := "place", desc := "()I" } : Jvm.MethodName)) ∈ bg := bg_m2 54 rfl rfl
theorem tw_295 : (Jvm.Cond.methodLink "FleetFloor" (191 : Nat) ({ cls := "FleetFloor$Move", name := "time", desc := "()I" } : Jvm.MethodName)) ∈ bg := bg_m2 55 rfl rfl
theorem tw_296 : (Jvm.Cond.instanceMethod ({ cls := "FleetFloor$Move", name := "time", desc := "()I" } : Jvm.MethodName)) ∈ bg := bg_m2 56 rfl rfl
theorem tw_297 : (Jvm.Cond.selects "FleetFloor$Move" ({ cls := "FleetFloor$Move", name := "time", desc := "()I" } : Jvm.MethodName) ({ cls := "FleetFloor$Move", name := "time", desc := "()I" } : Jvm.MethodName)) ∈ bg := bg_m2 57 rfl rfl
theorem tw_298 : (Jvm.Cond.code ({ cls := "FleetFloor$Move", name := "time", desc := "()I" } : Jvm.MethodName) prog_6_method_6_code (1 : Nat) (Option.some Jvm.ClassFile.FieldType.int)) ∈ bg := bg_m2 58 rfl rfl
theorem tw_299 : (Jvm.Cond.methodLink "FleetFloorLaw" (79 : Nat) ({ cls := "FleetFloor", name := "taskOf", desc := "(II)I" } : Jvm.MethodName)) ∈ bg := bg_m2 59 rfl rfl
theorem tw_300 : (Jvm.Cond.instanceMethod ({ cls := "FleetFloor", name := "taskOf", desc := "(II)I" } : Jvm.MethodName)) ∈ bg := bg_m2 60 rfl rfl
theorem tw_301 : (Jvm.Cond.selects "FleetFloor" ({ cls := "FleetFloor", name := "taskOf", desc := "(II)I" } : Jvm.MethodName) ({ cls := "FleetFloor", name := "taskOf", desc := "(II)I" } : Jvm.MethodName)) ∈ bg := bg_m2 61 rfl rfl
theorem tw_302 : (Jvm.Cond.code ({ cls := "FleetFloor", name := "taskOf", desc := "(II)I" } : Jvm.MethodName) prog_1_method_13_code (4 : Nat) (Option.some Jvm.ClassFile.FieldType.int)) ∈ bg := bg_m2 62 rfl rfl
theorem tw_303 : (Jvm.Cond.classLink "FleetFloor" (108 : Nat) "FleetFloor$Task") ∈ bg := bg_m2 63 rfl rfl
theorem tw_304 : (Jvm.Cond.methodLink "FleetFloorLaw" (83 : Nat) ({ cls := "FleetFloor", name := "count", desc := "(I)I" } : Jvm.MethodName)) ∈ bg := bg_m2 64 rfl rfl
theorem tw_305 : (Jvm.Cond.instanceMethod ({ cls := "FleetFloor", name := "count", desc := "(I)I" } : Jvm.MethodName)) ∈ bg := bg_m2 65 rfl rfl
theorem tw_306 : (Jvm.Cond.selects "FleetFloor" ({ cls := "FleetFloor", name := "count", desc := "(I)I" } : Jvm.MethodName) ({ cls := "FleetFloor", name := "count", desc := "(I)I" } : Jvm.MethodName)) ∈ bg := bg_m2 66 rfl rfl
theorem tw_307 : (Jvm.Cond.code ({ cls := "FleetFloor", name := "count", desc := "(I)I" } : Jvm.MethodName) prog_1_method_14_code (2 : Nat) (Option.some Jvm.ClassFile.FieldType.int)) ∈ bg := bg_m2 67 rfl rfl
theorem tw_308 : (Jvm.Cond.methodLink "FleetFloorLaw" (33 : Nat) ({ cls := "FleetFloorLaw", name := "open", desc := "(LFleetFloor;[J)I" } : Jvm.MethodName)) ∈ bg := bg_m2 68 rfl rfl
theorem tw_309 : (Jvm.Cond.static ({ cls := "FleetFloorLaw", name := "open", desc := "(LFleetFloor;[J)I" } : Jvm.MethodName)) ∈ bg := bg_m2 69 rfl rfl
theorem tx_310 : (Jvm.Cond.codeWith ({ cls := "FleetFloorLaw", name := "open", desc := "(LFleetFloor;[J)I" } : Jvm.MethodName) method_3_code (3 : Nat) (Option.some Jvm.ClassFile.FieldType.int) [((0 : Nat), (8 : Nat), (11 : Nat), (13 : Nat)), ((0 : Nat), (8 : Nat), (14 : Nat), (15 : Nat))]) ∈ lw_tbl := tb_m2 70 rfl
theorem tw_311 : (Jvm.Cond.classLink "FleetFloorLaw" (13 : Nat) "java/lang/IllegalArgumentException") ∈ bg := bg_m2 71 rfl rfl
theorem tw_312 : (Jvm.Cond.classLink "FleetFloorLaw" (15 : Nat) "java/lang/IllegalStateException") ∈ bg := bg_m2 72 rfl rfl
theorem tw_313 : (Jvm.Cond.methodLink "FleetFloorLaw" (7 : Nat) ({ cls := "FleetFloor", name := "open", desc := "()I" } : Jvm.MethodName)) ∈ bg := bg_m2 73 rfl rfl
theorem tw_314 : (Jvm.Cond.instanceMethod ({ cls := "FleetFloor", name := "open", desc := "()I" } : Jvm.MethodName)) ∈ bg := bg_m2 74 rfl rfl
theorem tw_315 : (Jvm.Cond.selects "FleetFloor" ({ cls := "FleetFloor", name := "open", desc := "()I" } : Jvm.MethodName) ({ cls := "FleetFloor", name := "open", desc := "()I" } : Jvm.MethodName)) ∈ bg := bg_m2 75 rfl rfl
theorem tw_316 : (Jvm.Cond.code ({ cls := "FleetFloor", name := "open", desc := "()I" } : Jvm.MethodName) prog_1_method_3_code (3 : Nat) (Option.some Jvm.ClassFile.FieldType.int)) ∈ bg := bg_m2 76 rfl rfl
theorem tw_317 : (Jvm.Cond.classLink "FleetFloor" (62 : Nat) "java/lang/IllegalStateException") ∈ bg := bg_m2 77 rfl rfl
theorem tw_318 : (Jvm.Cond.instantiable "java/lang/IllegalStateException" (6 : Nat)) ∈ bg := bg_m2 78 rfl rfl
theorem tx_319 : (Jvm.Cond.castable "java/lang/IllegalStateException" "java/lang/IllegalStateException") ∈ lw_tbl := tb_m2 79 rfl
theorem tx_320 : (Jvm.Cond.declares ({ cls := "java/lang/RuntimeException", name := "<init>", desc := "()V" } : Jvm.MethodName)) ∈ lw_tbl := tb_m2 80 rfl
theorem tx_321 : (Jvm.Cond.declares ({ cls := "java/lang/RuntimeException", name := "<init>", desc := "(Ljava/lang/String;)V" } : Jvm.MethodName)) ∈ lw_tbl := tb_m2 81 rfl
theorem tx_322 : (Jvm.Cond.declares ({ cls := "java/lang/Exception", name := "<init>", desc := "()V" } : Jvm.MethodName)) ∈ lw_tbl := tb_m2 82 rfl
theorem tx_323 : (Jvm.Cond.declares ({ cls := "java/lang/Exception", name := "<init>", desc := "(Ljava/lang/String;)V" } : Jvm.MethodName)) ∈ lw_tbl := tb_m2 83 rfl
theorem tx_324 : (Jvm.Cond.declares ({ cls := "java/lang/Throwable", name := "<init>", desc := "()V" } : Jvm.MethodName)) ∈ lw_tbl := tb_m2 84 rfl
theorem tx_325 : (Jvm.Cond.declares ({ cls := "java/lang/Throwable", name := "<init>", desc := "(Ljava/lang/String;)V" } : Jvm.MethodName)) ∈ lw_tbl := tb_m2 85 rfl
theorem tw_326 : (Jvm.Cond.selects "java/lang/IllegalStateException" ({ cls := "java/lang/Throwable", name := "fillInStackTrace", desc := "(I)Ljava/lang/Throwable;" } : Jvm.MethodName) ({ cls := "java/lang/Throwable", name := "fillInStackTrace", desc := "(I)Ljava/lang/Throwable;" } : Jvm.MethodName)) ∈ bg := bg_m2 86 rfl rfl
theorem tw_327 : (Jvm.Cond.selects "java/lang/IllegalStateException" ({ cls := "java/lang/Throwable", name := "fillInStackTrace", desc := "()Ljava/lang/Throwable;" } : Jvm.MethodName) ({ cls := "java/lang/Throwable", name := "fillInStackTrace", desc := "()Ljava/lang/Throwable;" } : Jvm.MethodName)) ∈ bg := bg_m2 87 rfl rfl
theorem tw_328 : (Jvm.Cond.lays "java/lang/IllegalStateException" "java/lang/Throwable" "cause" "Ljava/lang/Throwable;") ∈ bg := bg_m2 88 rfl rfl
theorem tw_329 : (Jvm.Cond.lays "java/lang/Throwable" "java/lang/Throwable" "cause" "Ljava/lang/Throwable;") ∈ bg := bg_m2 89 rfl rfl
theorem tw_330 : (Jvm.Cond.lays "java/lang/IllegalStateException" "java/lang/Throwable" "stackTrace" "[Ljava/lang/StackTraceElement;") ∈ bg := bg_m2 90 rfl rfl
theorem tw_331 : (Jvm.Cond.lays "java/lang/Throwable" "java/lang/Throwable" "stackTrace" "[Ljava/lang/StackTraceElement;") ∈ bg := bg_m2 91 rfl rfl
theorem tw_332 : (Jvm.Cond.lays "java/lang/IllegalStateException" "java/lang/Throwable" "suppressedExceptions" "Ljava/util/List;") ∈ bg := bg_m2 92 rfl rfl
theorem tw_333 : (Jvm.Cond.lays "java/lang/Throwable" "java/lang/Throwable" "suppressedExceptions" "Ljava/util/List;") ∈ bg := bg_m2 93 rfl rfl
theorem tw_334 : (Jvm.Cond.lays "java/lang/IllegalStateException" "java/lang/Throwable" "detailMessage" "Ljava/lang/String;") ∈ bg := bg_m2 94 rfl rfl
theorem tw_335 : (Jvm.Cond.lays "java/lang/Throwable" "java/lang/Throwable" "detailMessage" "Ljava/lang/String;") ∈ bg := bg_m2 95 rfl rfl
theorem tw_336 : (Jvm.Cond.lays "java/lang/IllegalStateException" "java/lang/Throwable" "backtrace" "Ljava/lang/Object;") ∈ bg := bg_m2 96 rfl rfl
theorem tw_337 : (Jvm.Cond.lays "java/lang/Throwable" "java/lang/Throwable" "backtrace" "Ljava/lang/Object;") ∈ bg := bg_m2 97 rfl rfl
theorem tw_338 : (Jvm.Cond.fieldLink "java/lang/Throwable" (198 : Nat) "java/lang/Throwable" "backtrace" "Ljava/lang/Object;") ∈ bg := bg_m2 98 rfl rfl
theorem tw_339 : (Jvm.Cond.superclass "java/lang/Throwable" "java/lang/Object") ∈ bg := bg_m2 99 rfl rfl
theorem tw_340 : (Jvm.Cond.instanceMethod ({ cls := "java/lang/Throwable", name := "<init>", desc := "()V" } : Jvm.MethodName)) ∈ bg := bg_m2 100 rfl rfl
theorem tw_341 : (Jvm.Cond.code ({ cls := "java/lang/Throwable", name := "<init>", desc := "()V" } : Jvm.MethodName) prog_23_method_1_code (1 : Nat) (Option.none : Option Jvm.ClassFile.FieldType)) ∈ bg := bg_m2 101 rfl rfl
theorem tw_342 : (Jvm.Cond.methodLink "java/lang/Throwable" (1 : Nat) ({ cls := "java/lang/Object", name := "<init>", desc := "()V" } : Jvm.MethodName)) ∈ bg := bg_m2 102 rfl rfl
theorem tw_343 : (Jvm.Cond.fieldLink "java/lang/Throwable" (13 : Nat) "java/lang/Throwable" "UNASSIGNED_STACK" "[Ljava/lang/StackTraceElement;") ∈ bg := bg_m2 103 rfl rfl
theorem tx_344 : (Jvm.Cond.laysStatic "java/lang/Throwable" "UNASSIGNED_STACK" "[Ljava/lang/StackTraceElement;") ∈ lw_tbl := tb_m2 104 rfl
theorem tw_345 : (Jvm.Cond.fieldLink "java/lang/Throwable" (20 : Nat) "java/lang/Throwable" "SUPPRESSED_SENTINEL" "Ljava/util/List;") ∈ bg := bg_m2 105 rfl rfl
theorem tx_346 : (Jvm.Cond.laysStatic "java/lang/Throwable" "SUPPRESSED_SENTINEL" "Ljava/util/List;") ∈ lw_tbl := tb_m2 106 rfl
theorem tw_347 : (Jvm.Cond.methodLink "java/lang/Throwable" (27 : Nat) ({ cls := "java/lang/Throwable", name := "fillInStackTrace", desc := "()Ljava/lang/Throwable;" } : Jvm.MethodName)) ∈ bg := bg_m2 107 rfl rfl
theorem tw_348 : (Jvm.Cond.instanceMethod ({ cls := "java/lang/Throwable", name := "fillInStackTrace", desc := "()Ljava/lang/Throwable;" } : Jvm.MethodName)) ∈ bg := bg_m2 108 rfl rfl
theorem tw_349 : (Jvm.Cond.sameMethod "java/lang/Throwable" "java/lang/Throwable" "fillInStackTrace" "()Ljava/lang/Throwable;") ∈ bg := bg_m2 109 rfl rfl
theorem tw_350 : (Jvm.Cond.selects "java/lang/IllegalArgumentException" ({ cls := "java/lang/Throwable", name := "fillInStackTrace", desc := "()Ljava/lang/Throwable;" } : Jvm.MethodName) ({ cls := "java/lang/Throwable", name := "fillInStackTrace", desc := "()Ljava/lang/Throwable;" } : Jvm.MethodName)) ∈ bg := bg_m2 110 rfl rfl
theorem tx_351 : (Jvm.Cond.codeSync ({ cls := "java/lang/Throwable", name := "fillInStackTrace", desc := "()Ljava/lang/Throwable;" } : Jvm.MethodName) prog_23_method_18_code (1 : Nat) (Option.some (Jvm.ClassFile.FieldType.object "java/lang/Throwable"))) ∈ lw_tbl := tb_m2 111 rfl
theorem tw_352 : (Jvm.Cond.methodLink "java/lang/Throwable" (202 : Nat) ({ cls := "java/lang/Throwable", name := "fillInStackTrace", desc := "(I)Ljava/lang/Throwable;" } : Jvm.MethodName)) ∈ bg := bg_m2 112 rfl rfl
theorem tx_353 : (Jvm.Cond.privateMethod ({ cls := "java/lang/Throwable", name := "fillInStackTrace", desc := "(I)Ljava/lang/Throwable;" } : Jvm.MethodName)) ∈ lw_tbl := tb_m2 113 rfl
theorem tw_354 : (Jvm.Cond.instanceMethod ({ cls := "java/lang/Throwable", name := "fillInStackTrace", desc := "(I)Ljava/lang/Throwable;" } : Jvm.MethodName)) ∈ bg := bg_m2 114 rfl rfl
theorem tw_355 : (Jvm.Cond.instantiable "java/lang/Throwable" (6 : Nat)) ∈ bg := bg_m2 115 rfl rfl
theorem tx_356 : (Jvm.Cond.native ({ cls := "java/lang/Throwable", name := "fillInStackTrace", desc := "(I)Ljava/lang/Throwable;" } : Jvm.MethodName)) ∈ lw_tbl := tb_m2 116 rfl
theorem tx_357 : (Jvm.Cond.stringRef "FleetFloor" (64 : Nat) "the floor is open already") ∈ lw_tbl := tb_m2 117 rfl
theorem tw_358 : (Jvm.Cond.methodLink "FleetFloor" (66 : Nat) ({ cls := "java/lang/IllegalStateException", name := "<init>", desc := "(Ljava/lang/String;)V" } : Jvm.MethodName)) ∈ bg := bg_m2 118 rfl rfl
theorem tw_359 : (Jvm.Cond.instanceMethod ({ cls := "java/lang/IllegalStateException", name := "<init>", desc := "(Ljava/lang/String;)V" } : Jvm.MethodName)) ∈ bg := bg_m2 119 rfl rfl
theorem tw_360 : (Jvm.Cond.code ({ cls := "java/lang/IllegalStateException", name := "<init>", desc := "(Ljava/lang/String;)V" } : Jvm.MethodName) prog_16_method_2_code (2 : Nat) (Option.none : Option Jvm.ClassFile.FieldType)) ∈ bg := bg_m2 120 rfl rfl
theorem tw_361 : (Jvm.Cond.methodLink "java/lang/IllegalStateException" (7 : Nat) ({ cls := "java/lang/RuntimeException", name := "<init>", desc := "(Ljava/lang/String;)V" } : Jvm.MethodName)) ∈ bg := bg_m2 121 rfl rfl
theorem tw_362 : (Jvm.Cond.instanceMethod ({ cls := "java/lang/RuntimeException", name := "<init>", desc := "(Ljava/lang/String;)V" } : Jvm.MethodName)) ∈ bg := bg_m2 122 rfl rfl
theorem tw_363 : (Jvm.Cond.code ({ cls := "java/lang/RuntimeException", name := "<init>", desc := "(Ljava/lang/String;)V" } : Jvm.MethodName) prog_20_method_2_code (2 : Nat) (Option.none : Option Jvm.ClassFile.FieldType)) ∈ bg := bg_m2 123 rfl rfl
theorem tw_364 : (Jvm.Cond.methodLink "java/lang/RuntimeException" (7 : Nat) ({ cls := "java/lang/Exception", name := "<init>", desc := "(Ljava/lang/String;)V" } : Jvm.MethodName)) ∈ bg := bg_m2 124 rfl rfl
theorem tw_365 : (Jvm.Cond.instanceMethod ({ cls := "java/lang/Exception", name := "<init>", desc := "(Ljava/lang/String;)V" } : Jvm.MethodName)) ∈ bg := bg_m2 125 rfl rfl
theorem tw_366 : (Jvm.Cond.code ({ cls := "java/lang/Exception", name := "<init>", desc := "(Ljava/lang/String;)V" } : Jvm.MethodName) prog_14_method_2_code (2 : Nat) (Option.none : Option Jvm.ClassFile.FieldType)) ∈ bg := bg_m2 126 rfl rfl
theorem tw_367 : (Jvm.Cond.methodLink "java/lang/Exception" (7 : Nat) ({ cls := "java/lang/Throwable", name := "<init>", desc := "(Ljava/lang/String;)V" } : Jvm.MethodName)) ∈ bg := bg_m2 127 rfl rfl
theorem tw_368 : (Jvm.Cond.instanceMethod ({ cls := "java/lang/Throwable", name := "<init>", desc := "(Ljava/lang/String;)V" } : Jvm.MethodName)) ∈ bg := bg_m2 128 rfl rfl
theorem tw_369 : (Jvm.Cond.code ({ cls := "java/lang/Throwable", name := "<init>", desc := "(Ljava/lang/String;)V" } : Jvm.MethodName) prog_23_method_2_code (2 : Nat) (Option.none : Option Jvm.ClassFile.FieldType)) ∈ bg := bg_m2 129 rfl rfl
theorem tw_370 : (Jvm.Cond.fieldLink "java/lang/Throwable" (198 : Nat) "java/lang/Throwable" "backtrace" "Ljava/lang/Object;") ∈ bg := bg_m2 130 rfl rfl
theorem tw_371 : (Jvm.Cond.fieldLink "java/lang/Throwable" (31 : Nat) "java/lang/Throwable" "detailMessage" "Ljava/lang/String;") ∈ bg := bg_m2 131 rfl rfl
theorem tw_372 : (Jvm.Cond.fieldLink "java/lang/Throwable" (7 : Nat) "java/lang/Throwable" "cause" "Ljava/lang/Throwable;") ∈ bg := bg_m2 132 rfl rfl
theorem tw_373 : (Jvm.Cond.fieldLink "java/lang/Throwable" (17 : Nat) "java/lang/Throwable" "stackTrace" "[Ljava/lang/StackTraceElement;") ∈ bg := bg_m2 133 rfl rfl
theorem tw_374 : (Jvm.Cond.fieldLink "java/lang/Throwable" (24 : Nat) "java/lang/Throwable" "suppressedExceptions" "Ljava/util/List;") ∈ bg := bg_m2 134 rfl rfl
theorem tw_375 : (Jvm.Cond.soleField "java/lang/Throwable" "backtrace") ∈ bg := bg_m2 135 rfl rfl
theorem tw_376 : (Jvm.Cond.soleField "java/lang/Throwable" "detailMessage") ∈ bg := bg_m2 136 rfl rfl
theorem tw_377 : (Jvm.Cond.soleField "java/lang/Throwable" "cause") ∈ bg := bg_m2 137 rfl rfl
theorem tw_378 : (Jvm.Cond.soleField "java/lang/Throwable" "stackTrace") ∈ bg := bg_m2 138 rfl rfl
theorem tw_379 : (Jvm.Cond.lays "java/lang/IllegalStateException" "java/lang/Throwable" "depth" "I") ∈ bg := bg_m2 139 rfl rfl
theorem tw_380 : (Jvm.Cond.soleField "java/lang/Throwable" "depth") ∈ bg := bg_m2 140 rfl rfl
theorem tw_381 : (Jvm.Cond.soleField "java/lang/Throwable" "suppressedExceptions") ∈ bg := bg_m2 141 rfl rfl
theorem tw_382 : (Jvm.Cond.superclass "java/lang/IllegalStateException" "java/lang/RuntimeException") ∈ bg := bg_m2 142 rfl rfl
theorem tw_383 : (Jvm.Cond.arrayClass Jvm.ClassFile.FieldType.byte) ∈ bg := bg_m2 143 rfl rfl
theorem tw_384 : (Jvm.Cond.methodLink "FleetFloor" (69 : Nat) ({ cls := "FleetFloor$FloorMap", name := "isGood", desc := "()Z" } : Jvm.MethodName)) ∈ bg := bg_m2 144 rfl rfl
theorem tw_385 : (Jvm.Cond.instanceMethod ({ cls := "FleetFloor$FloorMap", name := "isGood", desc := "()Z" } : Jvm.MethodName)) ∈ bg := bg_m2 145 rfl rfl
theorem tw_386 : (Jvm.Cond.selects "FleetFloor$FloorMap" ({ cls := "FleetFloor$FloorMap", name := "isGood", desc := "()Z" } : Jvm.MethodName) ({ cls := "FleetFloor$FloorMap", name := "isGood", desc := "()Z" } : Jvm.MethodName)) ∈ bg := bg_m2 146 rfl rfl
theorem tw_387 : (Jvm.Cond.code ({ cls := "FleetFloor$FloorMap", name := "isGood", desc := "()Z" } : Jvm.MethodName) prog_4_method_5_code (3 : Nat) (Option.some Jvm.ClassFile.FieldType.boolean)) ∈ bg := bg_m2 147 rfl rfl
theorem tw_388 : (Jvm.Cond.methodLink "FleetFloor$FloorMap" (15 : Nat) ({ cls := "FleetFloor$FloorMap", name := "countOf", desc := "(I)I" } : Jvm.MethodName)) ∈ bg := bg_m2 148 rfl rfl
theorem tx_389 : (Jvm.Cond.privateMethod ({ cls := "FleetFloor$FloorMap", name := "countOf", desc := "(I)I" } : Jvm.MethodName)) ∈ lw_tbl := tb_m2 149 rfl
theorem tw_390 : (Jvm.Cond.instanceMethod ({ cls := "FleetFloor$FloorMap", name := "countOf", desc := "(I)I" } : Jvm.MethodName)) ∈ bg := bg_m2 150 rfl rfl
theorem tw_391 : (Jvm.Cond.code ({ cls := "FleetFloor$FloorMap", name := "countOf", desc := "(I)I" } : Jvm.MethodName) prog_4_method_6_code (4 : Nat) (Option.some Jvm.ClassFile.FieldType.int)) ∈ bg := bg_m2 151 rfl rfl
theorem tw_392 : (Jvm.Cond.methodLink "FleetFloor$FloorMap" (25 : Nat) ({ cls := "FleetFloor$FloorMap", name := "isJoined", desc := "()Z" } : Jvm.MethodName)) ∈ bg := bg_m2 152 rfl rfl
theorem tx_393 : (Jvm.Cond.privateMethod ({ cls := "FleetFloor$FloorMap", name := "isJoined", desc := "()Z" } : Jvm.MethodName)) ∈ lw_tbl := tb_m2 153 rfl
theorem tw_394 : (Jvm.Cond.instanceMethod ({ cls := "FleetFloor$FloorMap", name := "isJoined", desc := "()Z" } : Jvm.MethodName)) ∈ bg := bg_m2 154 rfl rfl
theorem tw_395 : (Jvm.Cond.code ({ cls := "FleetFloor$FloorMap", name := "isJoined", desc := "()Z" } : Jvm.MethodName) prog_4_method_7_code (4 : Nat) (Option.some Jvm.ClassFile.FieldType.boolean)) ∈ bg := bg_m2 155 rfl rfl
theorem tw_396 : (Jvm.Cond.classLink "FleetFloor$FloorMap" (20 : Nat) "FleetFloor$Cells") ∈ bg := bg_m2 156 rfl rfl
theorem tw_397 : (Jvm.Cond.instantiable "FleetFloor$Cells" (2 : Nat)) ∈ bg := bg_m2 157 rfl rfl
theorem tx_398 : (Jvm.Cond.methodLinkNest "FleetFloor$FloorMap" (29 : Nat) ({ cls := "FleetFloor$Cells", name := "<init>", desc := "()V" } : Jvm.MethodName) "FleetFloor") ∈ lw_tbl := tb_m2 158 rfl
theorem tw_399 : (Jvm.Cond.instanceMethod ({ cls := "FleetFloor$Cells", name := "<init>", desc := "()V" } : Jvm.MethodName)) ∈ bg := bg_m2 159 rfl rfl
theorem tw_400 : (Jvm.Cond.code ({ cls := "FleetFloor$Cells", name := "<init>", desc := "()V" } : Jvm.MethodName) prog_3_method_1_code (1 : Nat) (Option.none : Option Jvm.ClassFile.FieldType)) ∈ bg := bg_m2 160 rfl rfl
theorem tw_401 : (Jvm.Cond.methodLink "FleetFloor$Cells" (5 : Nat) ({ cls := "java/lang/Object", name := "<init>", desc := "()V" } : Jvm.MethodName)) ∈ bg := bg_m2 161 rfl rfl
theorem tw_402 : (Jvm.Cond.fieldLink "FleetFloor$Cells" (11 : Nat) "FleetFloor$Cells" "upper" "J") ∈ bg := bg_m2 162 rfl rfl
theorem tw_403 : (Jvm.Cond.fieldLink "FleetFloor$Cells" (15 : Nat) "FleetFloor$Cells" "lower" "J") ∈ bg := bg_m2 163 rfl rfl
theorem tw_404 : (Jvm.Cond.lays "FleetFloor$Cells" "FleetFloor$Cells" "upper" "J") ∈ bg := bg_m2 164 rfl rfl
theorem tw_405 : (Jvm.Cond.soleField "FleetFloor$Cells" "upper") ∈ bg := bg_m2 165 rfl rfl
theorem tw_406 : (Jvm.Cond.lays "FleetFloor$Cells" "FleetFloor$Cells" "lower" "J") ∈ bg := bg_m2 166 rfl rfl
theorem tw_407 : (Jvm.Cond.soleField "FleetFloor$Cells" "lower") ∈ bg := bg_m2 167 rfl rfl
theorem tw_408 : (Jvm.Cond.superclass "FleetFloor$Cells" "java/lang/Object") ∈ bg := bg_m2 168 rfl rfl
theorem tw_409 : (Jvm.Cond.methodLink "FleetFloor$FloorMap" (30 : Nat) ({ cls := "FleetFloor$FloorMap", name := "collect", desc := "(ILFleetFloor$Cells;)V" } : Jvm.MethodName)) ∈ bg := bg_m2 169 rfl rfl
theorem tw_410 : (Jvm.Cond.instanceMethod ({ cls := "FleetFloor$FloorMap", name := "collect", desc := "(ILFleetFloor$Cells;)V" } : Jvm.MethodName)) ∈ bg := bg_m2 170 rfl rfl
theorem tw_411 : (Jvm.Cond.selects "FleetFloor$FloorMap" ({ cls := "FleetFloor$FloorMap", name := "collect", desc := "(ILFleetFloor$Cells;)V" } : Jvm.MethodName) ({ cls := "FleetFloor$FloorMap", name := "collect", desc := "(ILFleetFloor$Cells;)V" } : Jvm.MethodName)) ∈ bg := bg_m2 171 rfl rfl
theorem tw_412 : (Jvm.Cond.code ({ cls := "FleetFloor$FloorMap", name := "collect", desc := "(ILFleetFloor$Cells;)V" } : Jvm.MethodName) prog_4_method_4_code (4 : Nat) (Option.none : Option Jvm.ClassFile.FieldType)) ∈ bg := bg_m2 172 rfl rfl
theorem tw_413 : (Jvm.Cond.methodLink "FleetFloor$FloorMap" (19 : Nat) ({ cls := "FleetFloor$Cells", name := "put", desc := "(I)V" } : Jvm.MethodName)) ∈ bg := bg_m2 173 rfl rfl
theorem tw_414 : (Jvm.Cond.instanceMethod ({ cls := "FleetFloor$Cells", name := "put", desc := "(I)V" } : Jvm.MethodName)) ∈ bg := bg_m2 174 rfl rfl
theorem tw_415 : (Jvm.Cond.selects "FleetFloor$Cells" ({ cls := "FleetFloor$Cells", name := "put", desc := "(I)V" } : Jvm.MethodName) ({ cls := "FleetFloor$Cells", name := "put", desc := "(I)V" } : Jvm.MethodName)) ∈ bg := bg_m2 175 rfl rfl
theorem tw_416 : (Jvm.Cond.code ({ cls := "FleetFloor$Cells", name := "put", desc := "(I)V" } : Jvm.MethodName) prog_3_method_5_code (2 : Nat) (Option.none : Option Jvm.ClassFile.FieldType)) ∈ bg := bg_m2 176 rfl rfl
theorem tw_417 : (Jvm.Cond.methodLink "FleetFloor$FloorMap" (34 : Nat) ({ cls := "FleetFloor$Cells", name := "has", desc := "(I)Z" } : Jvm.MethodName)) ∈ bg := bg_m2 177 rfl rfl
theorem tw_418 : (Jvm.Cond.instanceMethod ({ cls := "FleetFloor$Cells", name := "has", desc := "(I)Z" } : Jvm.MethodName)) ∈ bg := bg_m2 178 rfl rfl
theorem tw_419 : (Jvm.Cond.selects "FleetFloor$Cells" ({ cls := "FleetFloor$Cells", name := "has", desc := "(I)Z" } : Jvm.MethodName) ({ cls := "FleetFloor$Cells", name := "has", desc := "(I)Z" } : Jvm.MethodName)) ∈ bg := bg_m2 179 rfl rfl
theorem tw_420 : (Jvm.Cond.code ({ cls := "FleetFloor$Cells", name := "has", desc := "(I)Z" } : Jvm.MethodName) prog_3_method_4_code (2 : Nat) (Option.some Jvm.ClassFile.FieldType.boolean)) ∈ bg := bg_m2 180 rfl rfl
theorem tw_421 : (Jvm.Cond.methodLink "FleetFloor$FloorMap" (38 : Nat) ({ cls := "FleetFloor$FloorMap", name := "reachesAll", desc := "(ILFleetFloor$Cells;LFleetFloor$Cells;)Z" } : Jvm.MethodName)) ∈ bg := bg_m2 181 rfl rfl
theorem tw_422 : (Jvm.Cond.static ({ cls := "FleetFloor$FloorMap", name := "reachesAll", desc := "(ILFleetFloor$Cells;LFleetFloor$Cells;)Z" } : Jvm.MethodName)) ∈ bg := bg_m2 182 rfl rfl
theorem tw_423 : (Jvm.Cond.code ({ cls := "FleetFloor$FloorMap", name := "reachesAll", desc := "(ILFleetFloor$Cells;LFleetFloor$Cells;)Z" } : Jvm.MethodName) prog_4_method_8_code (6 : Nat) (Option.some Jvm.ClassFile.FieldType.boolean)) ∈ bg := bg_m2 183 rfl rfl
theorem tw_424 : (Jvm.Cond.methodLink "FleetFloor$FloorMap" (42 : Nat) ({ cls := "FleetFloor$Cells", name := "becomeNeighboursOf", desc := "(LFleetFloor$Cells;)V" } : Jvm.MethodName)) ∈ bg := bg_m2 184 rfl rfl
theorem tw_425 : (Jvm.Cond.instanceMethod ({ cls := "FleetFloor$Cells", name := "becomeNeighboursOf", desc := "(LFleetFloor$Cells;)V" } : Jvm.MethodName)) ∈ bg := bg_m2 185 rfl rfl
theorem tw_426 : (Jvm.Cond.selects "FleetFloor$Cells" ({ cls := "FleetFloor$Cells", name := "becomeNeighboursOf", desc := "(LFleetFloor$Cells;)V" } : Jvm.MethodName) ({ cls := "FleetFloor$Cells", name := "becomeNeighboursOf", desc := "(LFleetFloor$Cells;)V" } : Jvm.MethodName)) ∈ bg := bg_m2 186 rfl rfl
theorem tw_427 : (Jvm.Cond.code ({ cls := "FleetFloor$Cells", name := "becomeNeighboursOf", desc := "(LFleetFloor$Cells;)V" } : Jvm.MethodName) prog_3_method_10_code (6 : Nat) (Option.none : Option Jvm.ClassFile.FieldType)) ∈ bg := bg_m2 187 rfl rfl
theorem tw_428 : (Jvm.Cond.methodLink "FleetFloor$Cells" (20 : Nat) ({ cls := "FleetFloor$Cells", name := "neighboursInHalf", desc := "(J)J" } : Jvm.MethodName)) ∈ bg := bg_m2 188 rfl rfl
theorem tw_429 : (Jvm.Cond.static ({ cls := "FleetFloor$Cells", name := "neighboursInHalf", desc := "(J)J" } : Jvm.MethodName)) ∈ bg := bg_m2 189 rfl rfl
theorem tw_430 : (Jvm.Cond.code ({ cls := "FleetFloor$Cells", name := "neighboursInHalf", desc := "(J)J" } : Jvm.MethodName) prog_3_method_11_code (2 : Nat) (Option.some Jvm.ClassFile.FieldType.long)) ∈ bg := bg_m2 190 rfl rfl
theorem tw_431 : (Jvm.Cond.constantLong "FleetFloor$Cells" (24 : Nat) (281474976710655 : Int64)) ∈ bg := bg_m2 191 rfl rfl
theorem tw_432 : (Jvm.Cond.constantLong "FleetFloor$Cells" (26 : Nat) (140703120226303 : Int64)) ∈ bg := bg_m2 192 rfl rfl
theorem tw_433 : (Jvm.Cond.constantLong "FleetFloor$Cells" (28 : Nat) (281406240452606 : Int64)) ∈ bg := bg_m2 193 rfl rfl
theorem tw_434 : (Jvm.Cond.methodLink "FleetFloor$FloorMap" (46 : Nat) ({ cls := "FleetFloor$Cells", name := "hasAll", desc := "(LFleetFloor$Cells;)Z" } : Jvm.MethodName)) ∈ bg := bg_m2 194 rfl rfl
theorem tw_435 : (Jvm.Cond.instanceMethod ({ cls := "FleetFloor$Cells", name := "hasAll", desc := "(LFleetFloor$Cells;)Z" } : Jvm.MethodName)) ∈ bg := bg_m2 195 rfl rfl
theorem tw_436 : (Jvm.Cond.selects "FleetFloor$Cells" ({ cls := "FleetFloor$Cells", name := "hasAll", desc := "(LFleetFloor$Cells;)Z" } : Jvm.MethodName) ({ cls := "FleetFloor$Cells", name := "hasAll", desc := "(LFleetFloor$Cells;)Z" } : Jvm.MethodName)) ∈ bg := bg_m2 196 rfl rfl
theorem tw_437 : (Jvm.Cond.code ({ cls := "FleetFloor$Cells", name := "hasAll", desc := "(LFleetFloor$Cells;)Z" } : Jvm.MethodName) prog_3_method_9_code (2 : Nat) (Option.some Jvm.ClassFile.FieldType.boolean)) ∈ bg := bg_m2 197 rfl rfl
theorem tw_438 : (Jvm.Cond.constantLong "FleetFloor$Cells" (18 : Nat) (-1 : Int64)) ∈ bg := bg_m2 198 rfl rfl
theorem tw_439 : (Jvm.Cond.methodLink "FleetFloor$FloorMap" (50 : Nat) ({ cls := "FleetFloor$Cells", name := "keep", desc := "(LFleetFloor$Cells;)V" } : Jvm.MethodName)) ∈ bg := bg_m2 199 rfl rfl
theorem tw_440 : (Jvm.Cond.instanceMethod ({ cls := "FleetFloor$Cells", name := "keep", desc := "(LFleetFloor$Cells;)V" } : Jvm.MethodName)) ∈ bg := bg_m2 200 rfl rfl
theorem tw_441 : (Jvm.Cond.selects "FleetFloor$Cells" ({ cls := "FleetFloor$Cells", name := "keep", desc := "(LFleetFloor$Cells;)V" } : Jvm.MethodName) ({ cls := "FleetFloor$Cells", name := "keep", desc := "(LFleetFloor$Cells;)V" } : Jvm.MethodName)) ∈ bg := bg_m2 201 rfl rfl
theorem tw_442 : (Jvm.Cond.code ({ cls := "FleetFloor$Cells", name := "keep", desc := "(LFleetFloor$Cells;)V" } : Jvm.MethodName) prog_3_method_8_code (2 : Nat) (Option.none : Option Jvm.ClassFile.FieldType)) ∈ bg := bg_m2 202 rfl rfl
theorem tw_443 : (Jvm.Cond.methodLink "FleetFloor$FloorMap" (53 : Nat) ({ cls := "FleetFloor$Cells", name := "join", desc := "(LFleetFloor$Cells;)V" } : Jvm.MethodName)) ∈ bg := bg_m2 203 rfl rfl
theorem tw_444 : (Jvm.Cond.instanceMethod ({ cls := "FleetFloor$Cells", name := "join", desc := "(LFleetFloor$Cells;)V" } : Jvm.MethodName)) ∈ bg := bg_m2 204 rfl rfl
theorem tw_445 : (Jvm.Cond.selects "FleetFloor$Cells" ({ cls := "FleetFloor$Cells", name := "join", desc := "(LFleetFloor$Cells;)V" } : Jvm.MethodName) ({ cls := "FleetFloor$Cells", name := "join", desc := "(LFleetFloor$Cells;)V" } : Jvm.MethodName)) ∈ bg := bg_m2 205 rfl rfl
theorem tw_446 : (Jvm.Cond.code ({ cls := "FleetFloor$Cells", name := "join", desc := "(LFleetFloor$Cells;)V" } : Jvm.MethodName) prog_3_method_7_code (2 : Nat) (Option.none : Option Jvm.ClassFile.FieldType)) ∈ bg := bg_m2 206 rfl rfl
theorem tw_447 : (Jvm.Cond.classLink "FleetFloor" (72 : Nat) "java/lang/IllegalArgumentException") ∈ bg := bg_m2 207 rfl rfl
theorem tw_448 : (Jvm.Cond.instantiable "java/lang/IllegalArgumentException" (6 : Nat)) ∈ bg := bg_m2 208 rfl rfl
theorem tx_449 : (Jvm.Cond.castable "java/lang/IllegalArgumentException" "java/lang/IllegalArgumentException") ∈ lw_tbl := tb_m2 209 rfl
theorem tw_450 : (Jvm.Cond.selects "java/lang/IllegalArgumentException" ({ cls := "java/lang/Throwable", name := "fillInStackTrace", desc := "(I)Ljava/lang/Throwable;" } : Jvm.MethodName) ({ cls := "java/lang/Throwable", name := "fillInStackTrace", desc := "(I)Ljava/lang/Throwable;" } : Jvm.MethodName)) ∈ bg := bg_m2 210 rfl rfl
theorem tw_451 : (Jvm.Cond.lays "java/lang/IllegalArgumentException" "java/lang/Throwable" "cause" "Ljava/lang/Throwable;") ∈ bg := bg_m2 211 rfl rfl
theorem tw_452 : (Jvm.Cond.lays "java/lang/IllegalArgumentException" "java/lang/Throwable" "stackTrace" "[Ljava/lang/StackTraceElement;") ∈ bg := bg_m2 212 rfl rfl
theorem tw_453 : (Jvm.Cond.lays "java/lang/IllegalArgumentException" "java/lang/Throwable" "suppressedExceptions" "Ljava/util/List;") ∈ bg := bg_m2 213 rfl rfl
theorem tw_454 : (Jvm.Cond.lays "java/lang/IllegalArgumentException" "java/lang/Throwable" "detailMessage" "Ljava/lang/String;") ∈ bg := bg_m2 214 rfl rfl
theorem tw_455 : (Jvm.Cond.lays "java/lang/IllegalArgumentException" "java/lang/Throwable" "backtrace" "Ljava/lang/Object;") ∈ bg := bg_m2 215 rfl rfl
theorem tx_456 : (Jvm.Cond.stringRef "FleetFloor" (74 : Nat) "the map is not good") ∈ lw_tbl := tb_m2 216 rfl
theorem tw_457 : (Jvm.Cond.methodLink "FleetFloor" (76 : Nat) ({ cls := "java/lang/IllegalArgumentException", name := "<init>", desc := "(Ljava/lang/String;)V" } : Jvm.MethodName)) ∈ bg := bg_m2 217 rfl rfl
theorem tw_458 : (Jvm.Cond.instanceMethod ({ cls := "java/lang/IllegalArgumentException", name := "<init>", desc := "(Ljava/lang/String;)V" } : Jvm.MethodName)) ∈ bg := bg_m2 218 rfl rfl
theorem tw_459 : (Jvm.Cond.code ({ cls := "java/lang/IllegalArgumentException", name := "<init>", desc := "(Ljava/lang/String;)V" } : Jvm.MethodName) prog_15_method_2_code (2 : Nat) (Option.none : Option Jvm.ClassFile.FieldType)) ∈ bg := bg_m2 219 rfl rfl
theorem tw_460 : (Jvm.Cond.methodLink "java/lang/IllegalArgumentException" (7 : Nat) ({ cls := "java/lang/RuntimeException", name := "<init>", desc := "(Ljava/lang/String;)V" } : Jvm.MethodName)) ∈ bg := bg_m2 220 rfl rfl
theorem tw_461 : (Jvm.Cond.lays "java/lang/IllegalArgumentException" "java/lang/Throwable" "depth" "I") ∈ bg := bg_m2 221 rfl rfl
theorem tw_462 : (Jvm.Cond.superclass "java/lang/IllegalArgumentException" "java/lang/RuntimeException") ∈ bg := bg_m2 222 rfl rfl
theorem tw_463 : (Jvm.Cond.methodLink "FleetFloor" (77 : Nat) ({ cls := "FleetFloor$FloorMap", name := "cellsOf", desc := "(I)[I" } : Jvm.MethodName)) ∈ bg := bg_m2 223 rfl rfl
theorem tw_464 : (Jvm.Cond.instanceMethod ({ cls := "FleetFloor$FloorMap", name := "cellsOf", desc := "(I)[I" } : Jvm.MethodName)) ∈ bg := bg_m2 224 rfl rfl
theorem tw_465 : (Jvm.Cond.selects "FleetFloor$FloorMap" ({ cls := "FleetFloor$FloorMap", name := "cellsOf", desc := "(I)[I" } : Jvm.MethodName) ({ cls := "FleetFloor$FloorMap", name := "cellsOf", desc := "(I)[I" } : Jvm.MethodName)) ∈ bg := bg_m2 225 rfl rfl
theorem tw_466 : (Jvm.Cond.code ({ cls := "FleetFloor$FloorMap", name := "cellsOf", desc := "(I)[I" } : Jvm.MethodName) prog_4_method_3_code (5 : Nat) (Option.some (Jvm.ClassFile.FieldType.array Jvm.ClassFile.FieldType.int))) ∈ bg := bg_m2 226 rfl rfl
theorem tw_467 : (Jvm.Cond.instantiable "FleetFloor$Vehicle" (10 : Nat)) ∈ bg := bg_m2 227 rfl rfl
theorem tw_468 : (Jvm.Cond.methodLink "FleetFloor" (81 : Nat) ({ cls := "FleetFloor$Vehicle", name := "<init>", desc := "(II)V" } : Jvm.MethodName)) ∈ bg := bg_m2 228 rfl rfl
theorem tw_469 : (Jvm.Cond.instanceMethod ({ cls := "FleetFloor$Vehicle", name := "<init>", desc := "(II)V" } : Jvm.MethodName)) ∈ bg := bg_m2 229 rfl rfl
theorem tw_470 : (Jvm.Cond.code ({ cls := "FleetFloor$Vehicle", name := "<init>", desc := "(II)V" } : Jvm.MethodName) prog_9_method_1_code (3 : Nat) (Option.none : Option Jvm.ClassFile.FieldType)) ∈ bg := bg_m2 230 rfl rfl
theorem tw_471 : (Jvm.Cond.methodLink "FleetFloor$Vehicle" (3 : Nat) ({ cls := "java/lang/Object", name := "<init>", desc := "()V" } : Jvm.MethodName)) ∈ bg := bg_m2 231 rfl rfl
theorem tw_472 : (Jvm.Cond.classLink "FleetFloor$Vehicle" (18 : Nat) "java/util/ArrayList") ∈ bg := bg_m2 232 rfl rfl
theorem tw_473 : (Jvm.Cond.methodLink "FleetFloor$Vehicle" (20 : Nat) ({ cls := "java/util/ArrayList", name := "<init>", desc := "()V" } : Jvm.MethodName)) ∈ bg := bg_m2 233 rfl rfl
theorem tw_474 : (Jvm.Cond.fieldLink "FleetFloor$Vehicle" (9 : Nat) "FleetFloor$Vehicle" "number" "I") ∈ bg := bg_m2 234 rfl rfl
theorem tx_475 : (Jvm.Cond.fieldLinkNest "FleetFloor" (218 : Nat) "FleetFloor$Vehicle" "number" "I" "FleetFloor") ∈ lw_tbl := tb_m2 235 rfl
theorem tw_476 : (Jvm.Cond.fieldLink "FleetFloor$Vehicle" (15 : Nat) "FleetFloor$Vehicle" "parking" "I") ∈ bg := bg_m2 236 rfl rfl
theorem tx_477 : (Jvm.Cond.fieldLinkNest "FleetFloor$Planner" (53 : Nat) "FleetFloor$Vehicle" "parking" "I" "FleetFloor") ∈ lw_tbl := tb_m2 237 rfl
theorem tw_478 : (Jvm.Cond.fieldLink "FleetFloor$Vehicle" (21 : Nat) "FleetFloor$Vehicle" "moves" "Ljava/util/ArrayList;") ∈ bg := bg_m2 238 rfl rfl
theorem tx_479 : (Jvm.Cond.fieldLinkNest "FleetFloor$Planner" (76 : Nat) "FleetFloor$Vehicle" "moves" "Ljava/util/ArrayList;" "FleetFloor") ∈ lw_tbl := tb_m2 239 rfl
theorem tx_480 : (Jvm.Cond.fieldLinkNest "FleetFloor" (176 : Nat) "FleetFloor$Vehicle" "moves" "Ljava/util/ArrayList;" "FleetFloor") ∈ lw_tbl := tb_m3 0 rfl
theorem tw_481 : (Jvm.Cond.fieldLink "FleetFloor$Vehicle" (25 : Nat) "FleetFloor$Vehicle" "made" "I") ∈ bg := bg_m3 1 rfl rfl
theorem tx_482 : (Jvm.Cond.fieldLinkNest "FleetFloor" (160 : Nat) "FleetFloor$Vehicle" "made" "I" "FleetFloor") ∈ lw_tbl := tb_m3 2 rfl
theorem tw_483 : (Jvm.Cond.fieldLink "FleetFloor$Vehicle" (28 : Nat) "FleetFloor$Vehicle" "allowed" "I") ∈ bg := bg_m3 3 rfl rfl
theorem tx_484 : (Jvm.Cond.fieldLinkNest "FleetFloor" (167 : Nat) "FleetFloor$Vehicle" "allowed" "I" "FleetFloor") ∈ lw_tbl := tb_m3 4 rfl
theorem tw_485 : (Jvm.Cond.fieldLink "FleetFloor$Vehicle" (31 : Nat) "FleetFloor$Vehicle" "known" "I") ∈ bg := bg_m3 5 rfl rfl
theorem tx_486 : (Jvm.Cond.fieldLinkNest "FleetFloor" (170 : Nat) "FleetFloor$Vehicle" "known" "I" "FleetFloor") ∈ lw_tbl := tb_m3 6 rfl
theorem tw_487 : (Jvm.Cond.fieldLink "FleetFloor$Vehicle" (34 : Nat) "FleetFloor$Vehicle" "granted" "I") ∈ bg := bg_m3 7 rfl rfl
theorem tx_488 : (Jvm.Cond.fieldLinkNest "FleetFloor" (173 : Nat) "FleetFloor$Vehicle" "granted" "I" "FleetFloor") ∈ lw_tbl := tb_m3 8 rfl
theorem tw_489 : (Jvm.Cond.fieldLink "FleetFloor$Vehicle" (37 : Nat) "FleetFloor$Vehicle" "latestTask" "I") ∈ bg := bg_m3 9 rfl rfl
theorem tx_490 : (Jvm.Cond.fieldLinkNest "FleetFloor" (179 : Nat) "FleetFloor$Vehicle" "latestTask" "I" "FleetFloor") ∈ lw_tbl := tb_m3 10 rfl
theorem tw_491 : (Jvm.Cond.fieldLink "FleetFloor$Vehicle" (40 : Nat) "FleetFloor$Vehicle" "finishAt" "I") ∈ bg := bg_m3 11 rfl rfl
theorem tx_492 : (Jvm.Cond.fieldLinkNest "FleetFloor$Planner" (97 : Nat) "FleetFloor$Vehicle" "finishAt" "I" "FleetFloor") ∈ lw_tbl := tb_m3 12 rfl
theorem tx_493 : (Jvm.Cond.fieldLinkNest "FleetFloor" (211 : Nat) "FleetFloor$Vehicle" "finishAt" "I" "FleetFloor") ∈ lw_tbl := tb_m3 13 rfl
theorem tw_494 : (Jvm.Cond.fieldLink "FleetFloor$Vehicle" (43 : Nat) "FleetFloor$Vehicle" "justMoved" "Z") ∈ bg := bg_m3 14 rfl rfl
theorem tx_495 : (Jvm.Cond.fieldLinkNest "FleetFloor" (203 : Nat) "FleetFloor$Vehicle" "justMoved" "Z" "FleetFloor") ∈ lw_tbl := tb_m3 15 rfl
theorem tw_496 : (Jvm.Cond.laysFinal "FleetFloor$Vehicle" "FleetFloor$Vehicle" "number" "I") ∈ bg := bg_m3 16 rfl rfl
theorem tw_497 : (Jvm.Cond.soleField "FleetFloor$Vehicle" "number") ∈ bg := bg_m3 17 rfl rfl
theorem tw_498 : (Jvm.Cond.laysFinal "FleetFloor$Vehicle" "FleetFloor$Vehicle" "parking" "I") ∈ bg := bg_m3 18 rfl rfl
theorem tw_499 : (Jvm.Cond.soleField "FleetFloor$Vehicle" "parking") ∈ bg := bg_m3 19 rfl rfl
theorem tw_500 : (Jvm.Cond.laysFinal "FleetFloor$Vehicle" "FleetFloor$Vehicle" "moves" "Ljava/util/ArrayList;") ∈ bg := bg_m3 20 rfl rfl
theorem tw_501 : (Jvm.Cond.soleField "FleetFloor$Vehicle" "moves") ∈ bg := bg_m3 21 rfl rfl
theorem tw_502 : (Jvm.Cond.lays "FleetFloor$Vehicle" "FleetFloor$Vehicle" "made" "I") ∈ bg := bg_m3 22 rfl rfl
theorem tw_503 : (Jvm.Cond.soleField "FleetFloor$Vehicle" "made") ∈ bg := bg_m3 23 rfl rfl
theorem tw_504 : (Jvm.Cond.lays "FleetFloor$Vehicle" "FleetFloor$Vehicle" "allowed" "I") ∈ bg := bg_m3 24 rfl rfl
theorem tw_505 : (Jvm.Cond.soleField "FleetFloor$Vehicle" "allowed") ∈ bg := bg_m3 25 rfl rfl
theorem tw_506 : (Jvm.Cond.lays "FleetFloor$Vehicle" "FleetFloor$Vehicle" "known" "I") ∈ bg := bg_m3 26 rfl rfl
theorem tw_507 : (Jvm.Cond.soleField "FleetFloor$Vehicle" "known") ∈ bg := bg_m3 27 rfl rfl
theorem tw_508 : (Jvm.Cond.lays "FleetFloor$Vehicle" "FleetFloor$Vehicle" "granted" "I") ∈ bg := bg_m3 28 rfl rfl
theorem tw_509 : (Jvm.Cond.soleField "FleetFloor$Vehicle" "granted") ∈ bg := bg_m3 29 rfl rfl
theorem tw_510 : (Jvm.Cond.lays "FleetFloor$Vehicle" "FleetFloor$Vehicle" "latestTask" "I") ∈ bg := bg_m3 30 rfl rfl
theorem tw_511 : (Jvm.Cond.soleField "FleetFloor$Vehicle" "latestTask") ∈ bg := bg_m3 31 rfl rfl
theorem tw_512 : (Jvm.Cond.lays "FleetFloor$Vehicle" "FleetFloor$Vehicle" "finishAt" "I") ∈ bg := bg_m3 32 rfl rfl
theorem tw_513 : (Jvm.Cond.soleField "FleetFloor$Vehicle" "finishAt") ∈ bg := bg_m3 33 rfl rfl
theorem tw_514 : (Jvm.Cond.lays "FleetFloor$Vehicle" "FleetFloor$Vehicle" "justMoved" "Z") ∈ bg := bg_m3 34 rfl rfl
theorem tw_515 : (Jvm.Cond.soleField "FleetFloor$Vehicle" "justMoved") ∈ bg := bg_m3 35 rfl rfl
theorem tw_516 : (Jvm.Cond.superclass "FleetFloor$Vehicle" "java/lang/Object") ∈ bg := bg_m3 36 rfl rfl
theorem tw_517 : (Jvm.Cond.classLink "FleetFloor" (84 : Nat) "FleetFloor$Cells") ∈ bg := bg_m3 37 rfl rfl
theorem tx_518 : (Jvm.Cond.methodLinkNest "FleetFloor" (86 : Nat) ({ cls := "FleetFloor$Cells", name := "<init>", desc := "()V" } : Jvm.MethodName) "FleetFloor") ∈ lw_tbl := tb_m3 38 rfl
theorem tw_519 : (Jvm.Cond.methodLink "FleetFloor" (87 : Nat) ({ cls := "FleetFloor$FloorMap", name := "collect", desc := "(ILFleetFloor$Cells;)V" } : Jvm.MethodName)) ∈ bg := bg_m3 39 rfl rfl
theorem tw_520 : (Jvm.Cond.classLink "FleetFloor" (91 : Nat) "FleetFloor$Planner") ∈ bg := bg_m3 40 rfl rfl
theorem tw_521 : (Jvm.Cond.instantiable "FleetFloor$Planner" (13 : Nat)) ∈ bg := bg_m3 41 rfl rfl
theorem tw_522 : (Jvm.Cond.methodLink "FleetFloor" (93 : Nat) ({ cls := "FleetFloor$Planner", name := "<init>", desc := "(LFleetFloor$Cells;[LFleetFloor$Vehicle;)V" } : Jvm.MethodName)) ∈ bg := bg_m3 42 rfl rfl
theorem tw_523 : (Jvm.Cond.instanceMethod ({ cls := "FleetFloor$Planner", name := "<init>", desc := "(LFleetFloor$Cells;[LFleetFloor$Vehicle;)V" } : Jvm.MethodName)) ∈ bg := bg_m3 43 rfl rfl
theorem tw_524 : (Jvm.Cond.code ({ cls := "FleetFloor$Planner", name := "<init>", desc := "(LFleetFloor$Cells;[LFleetFloor$Vehicle;)V" } : Jvm.MethodName) prog_7_method_1_code (4 : Nat) (Option.none : Option Jvm.ClassFile.FieldType)) ∈ bg := bg_m3 44 rfl rfl
theorem tw_525 : (Jvm.Cond.methodLink "FleetFloor$Planner" (3 : Nat) ({ cls := "java/lang/Object", name := "<init>", desc := "()V" } : Jvm.MethodName)) ∈ bg := bg_m3 45 rfl rfl
theorem tw_526 : (Jvm.Cond.classLink "FleetFloor$Planner" (19 : Nat) "FleetFloor$Cells") ∈ bg := bg_m3 46 rfl rfl
theorem tx_527 : (Jvm.Cond.arrayOver (Jvm.ClassFile.FieldType.object "FleetFloor$Cells")) ∈ lw_tbl := tb_m3 47 rfl
theorem tx_528 : (Jvm.Cond.methodLinkNest "FleetFloor$Planner" (28 : Nat) ({ cls := "FleetFloor$Cells", name := "<init>", desc := "()V" } : Jvm.MethodName) "FleetFloor") ∈ lw_tbl := tb_m3 48 rfl
theorem tw_529 : (Jvm.Cond.fieldLink "FleetFloor$Planner" (9 : Nat) "FleetFloor$Planner" "common" "LFleetFloor$Cells;") ∈ bg := bg_m3 49 rfl rfl
theorem tw_530 : (Jvm.Cond.fieldLink "FleetFloor$Planner" (15 : Nat) "FleetFloor$Planner" "vehicles" "[LFleetFloor$Vehicle;") ∈ bg := bg_m3 50 rfl rfl
theorem tw_531 : (Jvm.Cond.fieldLink "FleetFloor$Planner" (21 : Nat) "FleetFloor$Planner" "canEnter" "[LFleetFloor$Cells;") ∈ bg := bg_m3 51 rfl rfl
theorem tw_532 : (Jvm.Cond.fieldLink "FleetFloor$Planner" (25 : Nat) "FleetFloor$Planner" "canBe" "[LFleetFloor$Cells;") ∈ bg := bg_m3 52 rfl rfl
theorem tw_533 : (Jvm.Cond.fieldLink "FleetFloor$Planner" (29 : Nat) "FleetFloor$Planner" "reached" "[LFleetFloor$Cells;") ∈ bg := bg_m3 53 rfl rfl
theorem tw_534 : (Jvm.Cond.fieldLink "FleetFloor$Planner" (32 : Nat) "FleetFloor$Planner" "aim" "LFleetFloor$Cells;") ∈ bg := bg_m3 54 rfl rfl
theorem tw_535 : (Jvm.Cond.fieldLink "FleetFloor$Planner" (35 : Nat) "FleetFloor$Planner" "scratch" "LFleetFloor$Cells;") ∈ bg := bg_m3 55 rfl rfl
theorem tw_536 : (Jvm.Cond.fieldLink "FleetFloor$Planner" (38 : Nat) "FleetFloor$Planner" "way" "[I") ∈ bg := bg_m3 56 rfl rfl
theorem tw_537 : (Jvm.Cond.fieldLink "FleetFloor$Planner" (48 : Nat) "FleetFloor$Planner" "first" "I") ∈ bg := bg_m3 57 rfl rfl
theorem tw_538 : (Jvm.Cond.fieldLink "FleetFloor$Planner" (52 : Nat) "FleetFloor$Planner" "second" "I") ∈ bg := bg_m3 58 rfl rfl
theorem tw_539 : (Jvm.Cond.fieldLink "FleetFloor$Planner" (58 : Nat) "FleetFloor$Planner" "parking" "I") ∈ bg := bg_m3 59 rfl rfl
theorem tw_540 : (Jvm.Cond.fieldLink "FleetFloor$Planner" (67 : Nat) "FleetFloor$Planner" "end" "I") ∈ bg := bg_m3 60 rfl rfl
theorem tw_541 : (Jvm.Cond.fieldLink "FleetFloor$Planner" (91 : Nat) "FleetFloor$Planner" "finish" "I") ∈ bg := bg_m3 61 rfl rfl
theorem tw_542 : (Jvm.Cond.laysFinal "FleetFloor$Planner" "FleetFloor$Planner" "common" "LFleetFloor$Cells;") ∈ bg := bg_m3 62 rfl rfl
theorem tw_543 : (Jvm.Cond.soleField "FleetFloor$Planner" "common") ∈ bg := bg_m3 63 rfl rfl
theorem tw_544 : (Jvm.Cond.laysFinal "FleetFloor$Planner" "FleetFloor$Planner" "vehicles" "[LFleetFloor$Vehicle;") ∈ bg := bg_m3 64 rfl rfl
theorem tw_545 : (Jvm.Cond.soleField "FleetFloor$Planner" "vehicles") ∈ bg := bg_m3 65 rfl rfl
theorem tw_546 : (Jvm.Cond.laysFinal "FleetFloor$Planner" "FleetFloor$Planner" "canEnter" "[LFleetFloor$Cells;") ∈ bg := bg_m3 66 rfl rfl
theorem tw_547 : (Jvm.Cond.soleField "FleetFloor$Planner" "canEnter") ∈ bg := bg_m3 67 rfl rfl
theorem tw_548 : (Jvm.Cond.laysFinal "FleetFloor$Planner" "FleetFloor$Planner" "canBe" "[LFleetFloor$Cells;") ∈ bg := bg_m3 68 rfl rfl
theorem tw_549 : (Jvm.Cond.soleField "FleetFloor$Planner" "canBe") ∈ bg := bg_m3 69 rfl rfl
theorem tw_550 : (Jvm.Cond.laysFinal "FleetFloor$Planner" "FleetFloor$Planner" "reached" "[LFleetFloor$Cells;") ∈ bg := bg_m3 70 rfl rfl
theorem tw_551 : (Jvm.Cond.soleField "FleetFloor$Planner" "reached") ∈ bg := bg_m3 71 rfl rfl
theorem tw_552 : (Jvm.Cond.laysFinal "FleetFloor$Planner" "FleetFloor$Planner" "aim" "LFleetFloor$Cells;") ∈ bg := bg_m3 72 rfl rfl
theorem tw_553 : (Jvm.Cond.soleField "FleetFloor$Planner" "aim") ∈ bg := bg_m3 73 rfl rfl
theorem tw_554 : (Jvm.Cond.laysFinal "FleetFloor$Planner" "FleetFloor$Planner" "scratch" "LFleetFloor$Cells;") ∈ bg := bg_m3 74 rfl rfl
theorem tw_555 : (Jvm.Cond.soleField "FleetFloor$Planner" "scratch") ∈ bg := bg_m3 75 rfl rfl
theorem tw_556 : (Jvm.Cond.laysFinal "FleetFloor$Planner" "FleetFloor$Planner" "way" "[I") ∈ bg := bg_m3 76 rfl rfl
theorem tw_557 : (Jvm.Cond.soleField "FleetFloor$Planner" "way") ∈ bg := bg_m3 77 rfl rfl
theorem tw_558 : (Jvm.Cond.lays "FleetFloor$Planner" "FleetFloor$Planner" "first" "I") ∈ bg := bg_m3 78 rfl rfl
theorem tw_559 : (Jvm.Cond.soleField "FleetFloor$Planner" "first") ∈ bg := bg_m3 79 rfl rfl
theorem tw_560 : (Jvm.Cond.lays "FleetFloor$Planner" "FleetFloor$Planner" "second" "I") ∈ bg := bg_m3 80 rfl rfl
theorem tw_561 : (Jvm.Cond.soleField "FleetFloor$Planner" "second") ∈ bg := bg_m3 81 rfl rfl
theorem tw_562 : (Jvm.Cond.lays "FleetFloor$Planner" "FleetFloor$Planner" "parking" "I") ∈ bg := bg_m3 82 rfl rfl
theorem tw_563 : (Jvm.Cond.soleField "FleetFloor$Planner" "parking") ∈ bg := bg_m3 83 rfl rfl
theorem tw_564 : (Jvm.Cond.lays "FleetFloor$Planner" "FleetFloor$Planner" "end" "I") ∈ bg := bg_m3 84 rfl rfl
theorem tw_565 : (Jvm.Cond.soleField "FleetFloor$Planner" "end") ∈ bg := bg_m3 85 rfl rfl
theorem tw_566 : (Jvm.Cond.lays "FleetFloor$Planner" "FleetFloor$Planner" "finish" "I") ∈ bg := bg_m3 86 rfl rfl
theorem tw_567 : (Jvm.Cond.soleField "FleetFloor$Planner" "finish") ∈ bg := bg_m3 87 rfl rfl
theorem tw_568 : (Jvm.Cond.superclass "FleetFloor$Planner" "java/lang/Object") ∈ bg := bg_m3 88 rfl rfl
theorem tw_569 : (Jvm.Cond.methodLink "FleetFloorLaw" (42 : Nat) ({ cls := "FleetFloorLaw", name := "task", desc := "(LFleetFloor;II[J)I" } : Jvm.MethodName)) ∈ bg := bg_m3 89 rfl rfl
theorem tw_570 : (Jvm.Cond.static ({ cls := "FleetFloorLaw", name := "task", desc := "(LFleetFloor;II[J)I" } : Jvm.MethodName)) ∈ bg := bg_m3 90 rfl rfl
theorem tx_571 : (Jvm.Cond.codeWith ({ cls := "FleetFloorLaw", name := "task", desc := "(LFleetFloor;II[J)I" } : Jvm.MethodName) method_4_code (5 : Nat) (Option.some Jvm.ClassFile.FieldType.int) [((0 : Nat), (10 : Nat), (13 : Nat), (15 : Nat)), ((0 : Nat), (10 : Nat), (17 : Nat), (13 : Nat))]) ∈ lw_tbl := tb_m3 91 rfl
theorem tw_572 : (Jvm.Cond.methodLink "FleetFloorLaw" (17 : Nat) ({ cls := "FleetFloor", name := "task", desc := "(II)I" } : Jvm.MethodName)) ∈ bg := bg_m3 92 rfl rfl
theorem tw_573 : (Jvm.Cond.instanceMethod ({ cls := "FleetFloor", name := "task", desc := "(II)I" } : Jvm.MethodName)) ∈ bg := bg_m3 93 rfl rfl
theorem tw_574 : (Jvm.Cond.selects "FleetFloor" ({ cls := "FleetFloor", name := "task", desc := "(II)I" } : Jvm.MethodName) ({ cls := "FleetFloor", name := "task", desc := "(II)I" } : Jvm.MethodName)) ∈ bg := bg_m3 94 rfl rfl
theorem tw_575 : (Jvm.Cond.code ({ cls := "FleetFloor", name := "task", desc := "(II)I" } : Jvm.MethodName) prog_1_method_4_code (3 : Nat) (Option.some Jvm.ClassFile.FieldType.int)) ∈ bg := bg_m3 95 rfl rfl
theorem tx_576 : (Jvm.Cond.stringRef "FleetFloor" (100 : Nat) "the floor is not open, or there were all tasks") ∈ lw_tbl := tb_m3 96 rfl
theorem tw_577 : (Jvm.Cond.methodLink "FleetFloor" (102 : Nat) ({ cls := "FleetFloor", name := "isStation", desc := "(I)Z" } : Jvm.MethodName)) ∈ bg := bg_m3 97 rfl rfl
theorem tx_578 : (Jvm.Cond.privateMethod ({ cls := "FleetFloor", name := "isStation", desc := "(I)Z" } : Jvm.MethodName)) ∈ lw_tbl := tb_m3 98 rfl
theorem tw_579 : (Jvm.Cond.instanceMethod ({ cls := "FleetFloor", name := "isStation", desc := "(I)Z" } : Jvm.MethodName)) ∈ bg := bg_m3 99 rfl rfl
theorem tw_580 : (Jvm.Cond.code ({ cls := "FleetFloor", name := "isStation", desc := "(I)Z" } : Jvm.MethodName) prog_1_method_16_code (2 : Nat) (Option.some Jvm.ClassFile.FieldType.boolean)) ∈ bg := bg_m3 100 rfl rfl
theorem tx_581 : (Jvm.Cond.stringRef "FleetFloor" (106 : Nat) "there is no such station") ∈ lw_tbl := tb_m3 101 rfl
theorem tw_582 : (Jvm.Cond.instantiable "FleetFloor$Task" (4 : Nat)) ∈ bg := bg_m3 102 rfl rfl
theorem tw_583 : (Jvm.Cond.methodLink "FleetFloor" (110 : Nat) ({ cls := "FleetFloor$Task", name := "<init>", desc := "(II)V" } : Jvm.MethodName)) ∈ bg := bg_m3 103 rfl rfl
theorem tw_584 : (Jvm.Cond.instanceMethod ({ cls := "FleetFloor$Task", name := "<init>", desc := "(II)V" } : Jvm.MethodName)) ∈ bg := bg_m3 104 rfl rfl
theorem tw_585 : (Jvm.Cond.code ({ cls := "FleetFloor$Task", name := "<init>", desc := "(II)V" } : Jvm.MethodName) prog_8_method_1_code (3 : Nat) (Option.none : Option Jvm.ClassFile.FieldType)) ∈ bg := bg_m3 105 rfl rfl
theorem tw_586 : (Jvm.Cond.methodLink "FleetFloor$Task" (3 : Nat) ({ cls := "java/lang/Object", name := "<init>", desc := "()V" } : Jvm.MethodName)) ∈ bg := bg_m3 106 rfl rfl
theorem tw_587 : (Jvm.Cond.fieldLink "FleetFloor$Task" (9 : Nat) "FleetFloor$Task" "first" "I") ∈ bg := bg_m3 107 rfl rfl
theorem tx_588 : (Jvm.Cond.fieldLinkNest "FleetFloor$Planner" (42 : Nat) "FleetFloor$Task" "first" "I" "FleetFloor") ∈ lw_tbl := tb_m3 108 rfl
theorem tw_589 : (Jvm.Cond.fieldLink "FleetFloor$Task" (15 : Nat) "FleetFloor$Task" "second" "I") ∈ bg := bg_m3 109 rfl rfl
theorem tx_590 : (Jvm.Cond.fieldLinkNest "FleetFloor$Planner" (49 : Nat) "FleetFloor$Task" "second" "I" "FleetFloor") ∈ lw_tbl := tb_m3 110 rfl
theorem tw_591 : (Jvm.Cond.fieldLink "FleetFloor$Task" (18 : Nat) "FleetFloor$Task" "carrier" "I") ∈ bg := bg_m3 111 rfl rfl
theorem tx_592 : (Jvm.Cond.fieldLinkNest "FleetFloor" (194 : Nat) "FleetFloor$Task" "carrier" "I" "FleetFloor") ∈ lw_tbl := tb_m3 112 rfl
theorem tw_593 : (Jvm.Cond.fieldLink "FleetFloor$Task" (21 : Nat) "FleetFloor$Task" "finishedIn" "I") ∈ bg := bg_m3 113 rfl rfl
theorem tx_594 : (Jvm.Cond.fieldLinkNest "FleetFloor" (197 : Nat) "FleetFloor$Task" "finishedIn" "I" "FleetFloor") ∈ lw_tbl := tb_m3 114 rfl
theorem tw_595 : (Jvm.Cond.laysFinal "FleetFloor$Task" "FleetFloor$Task" "first" "I") ∈ bg := bg_m3 115 rfl rfl
theorem tw_596 : (Jvm.Cond.soleField "FleetFloor$Task" "first") ∈ bg := bg_m3 116 rfl rfl
theorem tw_597 : (Jvm.Cond.laysFinal "FleetFloor$Task" "FleetFloor$Task" "second" "I") ∈ bg := bg_m3 117 rfl rfl
theorem tw_598 : (Jvm.Cond.soleField "FleetFloor$Task" "second") ∈ bg := bg_m3 118 rfl rfl
theorem tw_599 : (Jvm.Cond.lays "FleetFloor$Task" "FleetFloor$Task" "carrier" "I") ∈ bg := bg_m3 119 rfl rfl
theorem tw_600 : (Jvm.Cond.soleField "FleetFloor$Task" "carrier") ∈ bg := bg_m3 120 rfl rfl
theorem tw_601 : (Jvm.Cond.lays "FleetFloor$Task" "FleetFloor$Task" "finishedIn" "I") ∈ bg := bg_m3 121 rfl rfl
theorem tw_602 : (Jvm.Cond.soleField "FleetFloor$Task" "finishedIn") ∈ bg := bg_m3 122 rfl rfl
theorem tw_603 : (Jvm.Cond.superclass "FleetFloor$Task" "java/lang/Object") ∈ bg := bg_m3 123 rfl rfl
theorem tw_604 : (Jvm.Cond.methodLink "FleetFloor" (111 : Nat) ({ cls := "java/util/ArrayList", name := "add", desc := "(Ljava/lang/Object;)Z" } : Jvm.MethodName)) ∈ bg := bg_m3 124 rfl rfl
theorem tw_605 : (Jvm.Cond.methodLink "FleetFloorLaw" (46 : Nat) ({ cls := "FleetFloorLaw", name := "tick", desc := "(LFleetFloor;[J)I" } : Jvm.MethodName)) ∈ bg := bg_m3 125 rfl rfl
theorem tw_606 : (Jvm.Cond.static ({ cls := "FleetFloorLaw", name := "tick", desc := "(LFleetFloor;[J)I" } : Jvm.MethodName)) ∈ bg := bg_m3 126 rfl rfl
theorem tx_607 : (Jvm.Cond.codeWith ({ cls := "FleetFloorLaw", name := "tick", desc := "(LFleetFloor;[J)I" } : Jvm.MethodName) method_5_code (3 : Nat) (Option.some Jvm.ClassFile.FieldType.int) [((0 : Nat), (8 : Nat), (11 : Nat), (15 : Nat))]) ∈ lw_tbl := tb_m3 127 rfl
theorem tw_608 : (Jvm.Cond.methodLink "FleetFloorLaw" (21 : Nat) ({ cls := "FleetFloor", name := "tick", desc := "()I" } : Jvm.MethodName)) ∈ bg := bg_m3 128 rfl rfl
theorem tw_609 : (Jvm.Cond.instanceMethod ({ cls := "FleetFloor", name := "tick", desc := "()I" } : Jvm.MethodName)) ∈ bg := bg_m3 129 rfl rfl
theorem tw_610 : (Jvm.Cond.selects "FleetFloor" ({ cls := "FleetFloor", name := "tick", desc := "()I" } : Jvm.MethodName) ({ cls := "FleetFloor", name := "tick", desc := "()I" } : Jvm.MethodName)) ∈ bg := bg_m3 130 rfl rfl
theorem tw_611 : (Jvm.Cond.code ({ cls := "FleetFloor", name := "tick", desc := "()I" } : Jvm.MethodName) prog_1_method_5_code (2 : Nat) (Option.some Jvm.ClassFile.FieldType.int)) ∈ bg := bg_m3 131 rfl rfl
theorem tx_612 : (Jvm.Cond.stringRef "FleetFloor" (115 : Nat) "the floor is not open") ∈ lw_tbl := tb_m3 132 rfl
theorem tw_613 : (Jvm.Cond.methodLink "FleetFloor" (117 : Nat) ({ cls := "FleetFloor", name := "makeMoves", desc := "()I" } : Jvm.MethodName)) ∈ bg := bg_m3 133 rfl rfl
theorem tx_614 : (Jvm.Cond.privateMethod ({ cls := "FleetFloor", name := "makeMoves", desc := "()I" } : Jvm.MethodName)) ∈ lw_tbl := tb_m3 134 rfl
theorem tw_615 : (Jvm.Cond.instanceMethod ({ cls := "FleetFloor", name := "makeMoves", desc := "()I" } : Jvm.MethodName)) ∈ bg := bg_m3 135 rfl rfl
theorem tw_616 : (Jvm.Cond.code ({ cls := "FleetFloor", name := "makeMoves", desc := "()I" } : Jvm.MethodName) prog_1_method_18_code (4 : Nat) (Option.some Jvm.ClassFile.FieldType.int)) ∈ bg := bg_m3 136 rfl rfl
theorem tw_617 : (Jvm.Cond.methodLink "FleetFloor" (200 : Nat) ({ cls := "FleetFloor$Vehicle", name := "canMove", desc := "()Z" } : Jvm.MethodName)) ∈ bg := bg_m3 137 rfl rfl
theorem tw_618 : (Jvm.Cond.instanceMethod ({ cls := "FleetFloor$Vehicle", name := "canMove", desc := "()Z" } : Jvm.MethodName)) ∈ bg := bg_m3 138 rfl rfl
theorem tw_619 : (Jvm.Cond.selects "FleetFloor$Vehicle" ({ cls := "FleetFloor$Vehicle", name := "canMove", desc := "()Z" } : Jvm.MethodName) ({ cls := "FleetFloor$Vehicle", name := "canMove", desc := "()Z" } : Jvm.MethodName)) ∈ bg := bg_m3 139 rfl rfl
theorem tw_620 : (Jvm.Cond.code ({ cls := "FleetFloor$Vehicle", name := "canMove", desc := "()Z" } : Jvm.MethodName) prog_9_method_3_code (1 : Nat) (Option.some Jvm.ClassFile.FieldType.boolean)) ∈ bg := bg_m3 140 rfl rfl
theorem tw_621 : (Jvm.Cond.methodLink "FleetFloor" (207 : Nat) ({ cls := "FleetFloor", name := "noteFinish", desc := "(LFleetFloor$Vehicle;)V" } : Jvm.MethodName)) ∈ bg := bg_m3 141 rfl rfl
theorem tx_622 : (Jvm.Cond.privateMethod ({ cls := "FleetFloor", name := "noteFinish", desc := "(LFleetFloor$Vehicle;)V" } : Jvm.MethodName)) ∈ lw_tbl := tb_m3 142 rfl
theorem tw_623 : (Jvm.Cond.instanceMethod ({ cls := "FleetFloor", name := "noteFinish", desc := "(LFleetFloor$Vehicle;)V" } : Jvm.MethodName)) ∈ bg := bg_m3 143 rfl rfl
theorem tw_624 : (Jvm.Cond.code ({ cls := "FleetFloor", name := "noteFinish", desc := "(LFleetFloor$Vehicle;)V" } : Jvm.MethodName) prog_1_method_19_code (2 : Nat) (Option.none : Option Jvm.ClassFile.FieldType)) ∈ bg := bg_m3 144 rfl rfl
theorem tw_625 : (Jvm.Cond.methodLink "FleetFloor" (120 : Nat) ({ cls := "FleetFloor", name := "sendDones", desc := "()V" } : Jvm.MethodName)) ∈ bg := bg_m3 145 rfl rfl
theorem tx_626 : (Jvm.Cond.privateMethod ({ cls := "FleetFloor", name := "sendDones", desc := "()V" } : Jvm.MethodName)) ∈ lw_tbl := tb_m3 146 rfl
theorem tw_627 : (Jvm.Cond.instanceMethod ({ cls := "FleetFloor", name := "sendDones", desc := "()V" } : Jvm.MethodName)) ∈ bg := bg_m3 147 rfl rfl
theorem tw_628 : (Jvm.Cond.code ({ cls := "FleetFloor", name := "sendDones", desc := "()V" } : Jvm.MethodName) prog_1_method_20_code (3 : Nat) (Option.none : Option Jvm.ClassFile.FieldType)) ∈ bg := bg_m3 148 rfl rfl
theorem tw_629 : (Jvm.Cond.methodLink "FleetFloor" (214 : Nat) ({ cls := "FleetFloor", name := "reportsNow", desc := "(LFleetFloor$Vehicle;)Z" } : Jvm.MethodName)) ∈ bg := bg_m3 149 rfl rfl
theorem tx_630 : (Jvm.Cond.privateMethod ({ cls := "FleetFloor", name := "reportsNow", desc := "(LFleetFloor$Vehicle;)Z" } : Jvm.MethodName)) ∈ lw_tbl := tb_m3 150 rfl
theorem tw_631 : (Jvm.Cond.instanceMethod ({ cls := "FleetFloor", name := "reportsNow", desc := "(LFleetFloor$Vehicle;)Z" } : Jvm.MethodName)) ∈ bg := bg_m3 151 rfl rfl
theorem tw_632 : (Jvm.Cond.code ({ cls := "FleetFloor", name := "reportsNow", desc := "(LFleetFloor$Vehicle;)Z" } : Jvm.MethodName) prog_1_method_21_code (2 : Nat) (Option.some Jvm.ClassFile.FieldType.boolean)) ∈ bg := bg_m3 152 rfl rfl
theorem tw_633 : (Jvm.Cond.classLink "FleetFloor" (135 : Nat) "FleetFloor$Letter") ∈ bg := bg_m3 153 rfl rfl
theorem tw_634 : (Jvm.Cond.instantiable "FleetFloor$Letter" (3 : Nat)) ∈ bg := bg_m3 154 rfl rfl
theorem tx_635 : (Jvm.Cond.methodLinkNest "FleetFloor" (220 : Nat) ({ cls := "FleetFloor$Letter", name := "<init>", desc := "(III)V" } : Jvm.MethodName) "FleetFloor") ∈ lw_tbl := tb_m3 155 rfl
theorem tw_636 : (Jvm.Cond.instanceMethod ({ cls := "FleetFloor$Letter", name := "<init>", desc := "(III)V" } : Jvm.MethodName)) ∈ bg := bg_m3 156 rfl rfl
theorem tw_637 : (Jvm.Cond.code ({ cls := "FleetFloor$Letter", name := "<init>", desc := "(III)V" } : Jvm.MethodName) prog_5_method_1_code (4 : Nat) (Option.none : Option Jvm.ClassFile.FieldType)) ∈ bg := bg_m3 157 rfl rfl
theorem tw_638 : (Jvm.Cond.methodLink "FleetFloor$Letter" (1 : Nat) ({ cls := "java/lang/Record", name := "<init>", desc := "()V" } : Jvm.MethodName)) ∈ bg := bg_m3 158 rfl rfl
theorem tw_639 : (Jvm.Cond.instanceMethod ({ cls := "java/lang/Record", name := "<init>", desc := "()V" } : Jvm.MethodName)) ∈ bg := bg_m3 159 rfl rfl
theorem tw_640 : (Jvm.Cond.code ({ cls := "java/lang/Record", name := "<init>", desc := "()V" } : Jvm.MethodName) prog_19_method_1_code (1 : Nat) (Option.none : Option Jvm.ClassFile.FieldType)) ∈ bg := bg_m3 160 rfl rfl
theorem tw_641 : (Jvm.Cond.methodLink "java/lang/Record" (1 : Nat) ({ cls := "java/lang/Object", name := "<init>", desc := "()V" } : Jvm.MethodName)) ∈ bg := bg_m3 161 rfl rfl
theorem tw_642 : (Jvm.Cond.fieldLink "FleetFloor$Letter" (7 : Nat) "FleetFloor$Letter" "kind" "I") ∈ bg := bg_m3 162 rfl rfl
theorem tw_643 : (Jvm.Cond.fieldLink "FleetFloor$Letter" (13 : Nat) "FleetFloor$Letter" "owner" "I") ∈ bg := bg_m3 163 rfl rfl
theorem tw_644 : (Jvm.Cond.fieldLink "FleetFloor$Letter" (16 : Nat) "FleetFloor$Letter" "number" "I") ∈ bg := bg_m3 164 rfl rfl
theorem tw_645 : (Jvm.Cond.laysFinal "FleetFloor$Letter" "FleetFloor$Letter" "kind" "I") ∈ bg := bg_m3 165 rfl rfl
theorem tw_646 : (Jvm.Cond.soleField "FleetFloor$Letter" "kind") ∈ bg := bg_m3 166 rfl rfl
theorem tw_647 : (Jvm.Cond.laysFinal "FleetFloor$Letter" "FleetFloor$Letter" "owner" "I") ∈ bg := bg_m3 167 rfl rfl
theorem tw_648 : (Jvm.Cond.soleField "FleetFloor$Letter" "owner") ∈ bg := bg_m3 168 rfl rfl
theorem tw_649 : (Jvm.Cond.laysFinal "FleetFloor$Letter" "FleetFloor$Letter" "number" "I") ∈ bg := bg_m3 169 rfl rfl
theorem tw_650 : (Jvm.Cond.soleField "FleetFloor$Letter" "number") ∈ bg := bg_m3 170 rfl rfl
theorem tw_651 : (Jvm.Cond.superclass "FleetFloor$Letter" "java/lang/Record") ∈ bg := bg_m3 171 rfl rfl
theorem tw_652 : (Jvm.Cond.methodLink "FleetFloor" (123 : Nat) ({ cls := "FleetFloor", name := "makePlans", desc := "()V" } : Jvm.MethodName)) ∈ bg := bg_m3 172 rfl rfl
theorem tx_653 : (Jvm.Cond.privateMethod ({ cls := "FleetFloor", name := "makePlans", desc := "()V" } : Jvm.MethodName)) ∈ lw_tbl := tb_m3 173 rfl
theorem tw_654 : (Jvm.Cond.instanceMethod ({ cls := "FleetFloor", name := "makePlans", desc := "()V" } : Jvm.MethodName)) ∈ bg := bg_m3 174 rfl rfl
theorem tw_655 : (Jvm.Cond.code ({ cls := "FleetFloor", name := "makePlans", desc := "()V" } : Jvm.MethodName) prog_1_method_22_code (3 : Nat) (Option.none : Option Jvm.ClassFile.FieldType)) ∈ bg := bg_m3 175 rfl rfl
theorem tw_656 : (Jvm.Cond.methodLink "FleetFloor" (223 : Nat) ({ cls := "FleetFloor", name := "lowestIdle", desc := "()LFleetFloor$Vehicle;" } : Jvm.MethodName)) ∈ bg := bg_m3 176 rfl rfl
theorem tx_657 : (Jvm.Cond.privateMethod ({ cls := "FleetFloor", name := "lowestIdle", desc := "()LFleetFloor$Vehicle;" } : Jvm.MethodName)) ∈ lw_tbl := tb_m3 177 rfl
theorem tw_658 : (Jvm.Cond.instanceMethod ({ cls := "FleetFloor", name := "lowestIdle", desc := "()LFleetFloor$Vehicle;" } : Jvm.MethodName)) ∈ bg := bg_m3 178 rfl rfl
theorem tw_659 : (Jvm.Cond.code ({ cls := "FleetFloor", name := "lowestIdle", desc := "()LFleetFloor$Vehicle;" } : Jvm.MethodName) prog_1_method_23_code (2 : Nat) (Option.some (Jvm.ClassFile.FieldType.object "FleetFloor$Vehicle"))) ∈ bg := bg_m3 179 rfl rfl
theorem tw_660 : (Jvm.Cond.methodLink "FleetFloor" (235 : Nat) ({ cls := "FleetFloor$Vehicle", name := "isIdle", desc := "()Z" } : Jvm.MethodName)) ∈ bg := bg_m3 180 rfl rfl
theorem tw_661 : (Jvm.Cond.instanceMethod ({ cls := "FleetFloor$Vehicle", name := "isIdle", desc := "()Z" } : Jvm.MethodName)) ∈ bg := bg_m3 181 rfl rfl
theorem tw_662 : (Jvm.Cond.selects "FleetFloor$Vehicle" ({ cls := "FleetFloor$Vehicle", name := "isIdle", desc := "()Z" } : Jvm.MethodName) ({ cls := "FleetFloor$Vehicle", name := "isIdle", desc := "()Z" } : Jvm.MethodName)) ∈ bg := bg_m3 182 rfl rfl
theorem tw_663 : (Jvm.Cond.code ({ cls := "FleetFloor$Vehicle", name := "isIdle", desc := "()Z" } : Jvm.MethodName) prog_9_method_2_code (1 : Nat) (Option.some Jvm.ClassFile.FieldType.boolean)) ∈ bg := bg_m3 183 rfl rfl
theorem tw_664 : (Jvm.Cond.methodLink "FleetFloor" (227 : Nat) ({ cls := "FleetFloor$Planner", name := "find", desc := "(LFleetFloor$Vehicle;LFleetFloor$Task;I)Z" } : Jvm.MethodName)) ∈ bg := bg_m3 184 rfl rfl
theorem tw_665 : (Jvm.Cond.instanceMethod ({ cls := "FleetFloor$Planner", name := "find", desc := "(LFleetFloor$Vehicle;LFleetFloor$Task;I)Z" } : Jvm.MethodName)) ∈ bg := bg_m3 185 rfl rfl
theorem tw_666 : (Jvm.Cond.selects "FleetFloor$Planner" ({ cls := "FleetFloor$Planner", name := "find", desc := "(LFleetFloor$Vehicle;LFleetFloor$Task;I)Z" } : Jvm.MethodName) ({ cls := "FleetFloor$Planner", name := "find", desc := "(LFleetFloor$Vehicle;LFleetFloor$Task;I)Z" } : Jvm.MethodName)) ∈ bg := bg_m3 186 rfl rfl
theorem tw_667 : (Jvm.Cond.code ({ cls := "FleetFloor$Planner", name := "find", desc := "(LFleetFloor$Vehicle;LFleetFloor$Task;I)Z" } : Jvm.MethodName) prog_7_method_2_code (4 : Nat) (Option.some Jvm.ClassFile.FieldType.boolean)) ∈ bg := bg_m3 187 rfl rfl
theorem tw_668 : (Jvm.Cond.methodLink "FleetFloor$Planner" (59 : Nat) ({ cls := "FleetFloor$Planner", name := "layOut", desc := "(LFleetFloor$Vehicle;I)V" } : Jvm.MethodName)) ∈ bg := bg_m3 188 rfl rfl
theorem tx_669 : (Jvm.Cond.privateMethod ({ cls := "FleetFloor$Planner", name := "layOut", desc := "(LFleetFloor$Vehicle;I)V" } : Jvm.MethodName)) ∈ lw_tbl := tb_m3 189 rfl
theorem tw_670 : (Jvm.Cond.instanceMethod ({ cls := "FleetFloor$Planner", name := "layOut", desc := "(LFleetFloor$Vehicle;I)V" } : Jvm.MethodName)) ∈ bg := bg_m3 190 rfl rfl
theorem tw_671 : (Jvm.Cond.code ({ cls := "FleetFloor$Planner", name := "layOut", desc := "(LFleetFloor$Vehicle;I)V" } : Jvm.MethodName) prog_7_method_4_code (4 : Nat) (Option.none : Option Jvm.ClassFile.FieldType)) ∈ bg := bg_m3 191 rfl rfl
theorem tw_672 : (Jvm.Cond.methodLink "FleetFloor$Planner" (100 : Nat) ({ cls := "FleetFloor$Cells", name := "copy", desc := "(LFleetFloor$Cells;)V" } : Jvm.MethodName)) ∈ bg := bg_m3 192 rfl rfl
theorem tw_673 : (Jvm.Cond.instanceMethod ({ cls := "FleetFloor$Cells", name := "copy", desc := "(LFleetFloor$Cells;)V" } : Jvm.MethodName)) ∈ bg := bg_m3 193 rfl rfl
theorem tw_674 : (Jvm.Cond.selects "FleetFloor$Cells" ({ cls := "FleetFloor$Cells", name := "copy", desc := "(LFleetFloor$Cells;)V" } : Jvm.MethodName) ({ cls := "FleetFloor$Cells", name := "copy", desc := "(LFleetFloor$Cells;)V" } : Jvm.MethodName)) ∈ bg := bg_m3 194 rfl rfl
theorem tw_675 : (Jvm.Cond.code ({ cls := "FleetFloor$Cells", name := "copy", desc := "(LFleetFloor$Cells;)V" } : Jvm.MethodName) prog_3_method_3_code (2 : Nat) (Option.none : Option Jvm.ClassFile.FieldType)) ∈ bg := bg_m3 195 rfl rfl
theorem tw_676 : (Jvm.Cond.methodLink "FleetFloor$Planner" (104 : Nat) ({ cls := "FleetFloor$Cells", name := "put", desc := "(I)V" } : Jvm.MethodName)) ∈ bg := bg_m3 196 rfl rfl
theorem tw_677 : (Jvm.Cond.methodLink "FleetFloor$Planner" (108 : Nat) ({ cls := "FleetFloor$Planner", name := "keepClearOf", desc := "(LFleetFloor$Vehicle;I)V" } : Jvm.MethodName)) ∈ bg := bg_m3 197 rfl rfl
theorem tx_678 : (Jvm.Cond.privateMethod ({ cls := "FleetFloor$Planner", name := "keepClearOf", desc := "(LFleetFloor$Vehicle;I)V" } : Jvm.MethodName)) ∈ lw_tbl := tb_m3 198 rfl
theorem tw_679 : (Jvm.Cond.instanceMethod ({ cls := "FleetFloor$Planner", name := "keepClearOf", desc := "(LFleetFloor$Vehicle;I)V" } : Jvm.MethodName)) ∈ bg := bg_m3 199 rfl rfl
theorem tw_680 : (Jvm.Cond.code ({ cls := "FleetFloor$Planner", name := "keepClearOf", desc := "(LFleetFloor$Vehicle;I)V" } : Jvm.MethodName) prog_7_method_5_code (6 : Nat) (Option.none : Option Jvm.ClassFile.FieldType)) ∈ bg := bg_m3 200 rfl rfl
theorem tw_681 : (Jvm.Cond.methodLink "FleetFloor$Planner" (114 : Nat) ({ cls := "FleetFloor$Vehicle", name := "movesUpTo", desc := "(I)I" } : Jvm.MethodName)) ∈ bg := bg_m3 201 rfl rfl
theorem tw_682 : (Jvm.Cond.instanceMethod ({ cls := "FleetFloor$Vehicle", name := "movesUpTo", desc := "(I)I" } : Jvm.MethodName)) ∈ bg := bg_m3 202 rfl rfl
theorem tw_683 : (Jvm.Cond.selects "FleetFloor$Vehicle" ({ cls := "FleetFloor$Vehicle", name := "movesUpTo", desc := "(I)I" } : Jvm.MethodName) ({ cls := "FleetFloor$Vehicle", name := "movesUpTo", desc := "(I)I" } : Jvm.MethodName)) ∈ bg := bg_m3 203 rfl rfl
theorem tw_684 : (Jvm.Cond.code ({ cls := "FleetFloor$Vehicle", name := "movesUpTo", desc := "(I)I" } : Jvm.MethodName) prog_9_method_5_code (3 : Nat) (Option.some Jvm.ClassFile.FieldType.int)) ∈ bg := bg_m3 204 rfl rfl
theorem tw_685 : (Jvm.Cond.methodLink "FleetFloor$Vehicle" (60 : Nat) ({ cls := "FleetFloor$Move", name := "time", desc := "()I" } : Jvm.MethodName)) ∈ bg := bg_m3 205 rfl rfl
theorem tw_686 : (Jvm.Cond.methodLink "FleetFloor$Planner" (118 : Nat) ({ cls := "FleetFloor$Vehicle", name := "placeAfter", desc := "(I)I" } : Jvm.MethodName)) ∈ bg := bg_m3 206 rfl rfl
theorem tw_687 : (Jvm.Cond.methodLink "FleetFloor$Planner" (121 : Nat) ({ cls := "FleetFloor$Cells", name := "drop", desc := "(I)V" } : Jvm.MethodName)) ∈ bg := bg_m3 207 rfl rfl
theorem tw_688 : (Jvm.Cond.instanceMethod ({ cls := "FleetFloor$Cells", name := "drop", desc := "(I)V" } : Jvm.MethodName)) ∈ bg := bg_m3 208 rfl rfl
theorem tw_689 : (Jvm.Cond.selects "FleetFloor$Cells" ({ cls := "FleetFloor$Cells", name := "drop", desc := "(I)V" } : Jvm.MethodName) ({ cls := "FleetFloor$Cells", name := "drop", desc := "(I)V" } : Jvm.MethodName)) ∈ bg := bg_m3 209 rfl rfl
theorem tw_690 : (Jvm.Cond.code ({ cls := "FleetFloor$Cells", name := "drop", desc := "(I)V" } : Jvm.MethodName) prog_3_method_6_code (2 : Nat) (Option.none : Option Jvm.ClassFile.FieldType)) ∈ bg := bg_m3 210 rfl rfl
theorem tw_691 : (Jvm.Cond.methodLink "FleetFloor$Planner" (94 : Nat) ({ cls := "java/util/ArrayList", name := "size", desc := "()I" } : Jvm.MethodName)) ∈ bg := bg_m3 211 rfl rfl
theorem tw_692 : (Jvm.Cond.methodLink "FleetFloor$Planner" (124 : Nat) ({ cls := "java/util/ArrayList", name := "get", desc := "(I)Ljava/lang/Object;" } : Jvm.MethodName)) ∈ bg := bg_m3 212 rfl rfl
theorem tw_693 : (Jvm.Cond.classLink "FleetFloor$Planner" (80 : Nat) "FleetFloor$Move") ∈ bg := bg_m3 213 rfl rfl
theorem tw_694 : (Jvm.Cond.methodLink "FleetFloor$Planner" (128 : Nat) ({ cls := "FleetFloor$Move", name := "time", desc := "()I" } : Jvm.MethodName)) ∈ bg := bg_m3 214 rfl rfl
theorem tw_695 : (Jvm.Cond.methodLink "FleetFloor$Planner" (111 : Nat) ({ cls := "FleetFloor$Cells", name := "keep", desc := "(LFleetFloor$Cells;)V" } : Jvm.MethodName)) ∈ bg := bg_m3 215 rfl rfl
theorem tw_696 : (Jvm.Cond.methodLink "FleetFloor$Planner" (63 : Nat) ({ cls := "FleetFloor$Planner", name := "spread", desc := "()I" } : Jvm.MethodName)) ∈ bg := bg_m3 216 rfl rfl
theorem tx_697 : (Jvm.Cond.privateMethod ({ cls := "FleetFloor$Planner", name := "spread", desc := "()I" } : Jvm.MethodName)) ∈ lw_tbl := tb_m3 217 rfl
theorem tw_698 : (Jvm.Cond.instanceMethod ({ cls := "FleetFloor$Planner", name := "spread", desc := "()I" } : Jvm.MethodName)) ∈ bg := bg_m3 218 rfl rfl
theorem tw_699 : (Jvm.Cond.code ({ cls := "FleetFloor$Planner", name := "spread", desc := "()I" } : Jvm.MethodName) prog_7_method_7_code (3 : Nat) (Option.some Jvm.ClassFile.FieldType.int)) ∈ bg := bg_m3 219 rfl rfl
theorem tw_700 : (Jvm.Cond.methodLink "FleetFloor$Planner" (131 : Nat) ({ cls := "FleetFloor$Planner", name := "at", desc := "(II)LFleetFloor$Cells;" } : Jvm.MethodName)) ∈ bg := bg_m3 220 rfl rfl
theorem tx_701 : (Jvm.Cond.privateMethod ({ cls := "FleetFloor$Planner", name := "at", desc := "(II)LFleetFloor$Cells;" } : Jvm.MethodName)) ∈ lw_tbl := tb_m3 221 rfl
theorem tw_702 : (Jvm.Cond.instanceMethod ({ cls := "FleetFloor$Planner", name := "at", desc := "(II)LFleetFloor$Cells;" } : Jvm.MethodName)) ∈ bg := bg_m3 222 rfl rfl
theorem tw_703 : (Jvm.Cond.code ({ cls := "FleetFloor$Planner", name := "at", desc := "(II)LFleetFloor$Cells;" } : Jvm.MethodName) prog_7_method_6_code (3 : Nat) (Option.some (Jvm.ClassFile.FieldType.object "FleetFloor$Cells"))) ∈ bg := bg_m3 223 rfl rfl
theorem tw_704 : (Jvm.Cond.methodLink "FleetFloor$Planner" (135 : Nat) ({ cls := "FleetFloor$Cells", name := "clear", desc := "()V" } : Jvm.MethodName)) ∈ bg := bg_m3 224 rfl rfl
theorem tw_705 : (Jvm.Cond.instanceMethod ({ cls := "FleetFloor$Cells", name := "clear", desc := "()V" } : Jvm.MethodName)) ∈ bg := bg_m3 225 rfl rfl
theorem tw_706 : (Jvm.Cond.selects "FleetFloor$Cells" ({ cls := "FleetFloor$Cells", name := "clear", desc := "()V" } : Jvm.MethodName) ({ cls := "FleetFloor$Cells", name := "clear", desc := "()V" } : Jvm.MethodName)) ∈ bg := bg_m3 226 rfl rfl
theorem tw_707 : (Jvm.Cond.code ({ cls := "FleetFloor$Cells", name := "clear", desc := "()V" } : Jvm.MethodName) prog_3_method_2_code (1 : Nat) (Option.none : Option Jvm.ClassFile.FieldType)) ∈ bg := bg_m3 227 rfl rfl
theorem tw_708 : (Jvm.Cond.methodLink "FleetFloor$Planner" (138 : Nat) ({ cls := "FleetFloor$Planner", name := "stepOn", desc := "(II)V" } : Jvm.MethodName)) ∈ bg := bg_m3 228 rfl rfl
theorem tx_709 : (Jvm.Cond.privateMethod ({ cls := "FleetFloor$Planner", name := "stepOn", desc := "(II)V" } : Jvm.MethodName)) ∈ lw_tbl := tb_m3 229 rfl
theorem tw_710 : (Jvm.Cond.instanceMethod ({ cls := "FleetFloor$Planner", name := "stepOn", desc := "(II)V" } : Jvm.MethodName)) ∈ bg := bg_m3 230 rfl rfl
theorem tw_711 : (Jvm.Cond.code ({ cls := "FleetFloor$Planner", name := "stepOn", desc := "(II)V" } : Jvm.MethodName) prog_7_method_8_code (5 : Nat) (Option.none : Option Jvm.ClassFile.FieldType)) ∈ bg := bg_m3 231 rfl rfl
theorem tw_712 : (Jvm.Cond.methodLink "FleetFloor$Planner" (148 : Nat) ({ cls := "FleetFloor$Cells", name := "becomeNeighboursOf", desc := "(LFleetFloor$Cells;)V" } : Jvm.MethodName)) ∈ bg := bg_m3 232 rfl rfl
theorem tw_713 : (Jvm.Cond.methodLink "FleetFloor$Planner" (151 : Nat) ({ cls := "FleetFloor$Cells", name := "join", desc := "(LFleetFloor$Cells;)V" } : Jvm.MethodName)) ∈ bg := bg_m3 233 rfl rfl
theorem tw_714 : (Jvm.Cond.methodLink "FleetFloor$Planner" (141 : Nat) ({ cls := "FleetFloor$Planner", name := "changeLeg", desc := "(II)V" } : Jvm.MethodName)) ∈ bg := bg_m3 234 rfl rfl
theorem tx_715 : (Jvm.Cond.privateMethod ({ cls := "FleetFloor$Planner", name := "changeLeg", desc := "(II)V" } : Jvm.MethodName)) ∈ lw_tbl := tb_m3 235 rfl
theorem tw_716 : (Jvm.Cond.instanceMethod ({ cls := "FleetFloor$Planner", name := "changeLeg", desc := "(II)V" } : Jvm.MethodName)) ∈ bg := bg_m3 236 rfl rfl
theorem tw_717 : (Jvm.Cond.code ({ cls := "FleetFloor$Planner", name := "changeLeg", desc := "(II)V" } : Jvm.MethodName) prog_7_method_9_code (3 : Nat) (Option.none : Option Jvm.ClassFile.FieldType)) ∈ bg := bg_m3 237 rfl rfl
theorem tw_718 : (Jvm.Cond.methodLink "FleetFloor$Planner" (154 : Nat) ({ cls := "FleetFloor$Planner", name := "goalOf", desc := "(I)I" } : Jvm.MethodName)) ∈ bg := bg_m3 238 rfl rfl
theorem tx_719 : (Jvm.Cond.privateMethod ({ cls := "FleetFloor$Planner", name := "goalOf", desc := "(I)I" } : Jvm.MethodName)) ∈ lw_tbl := tb_m3 239 rfl
theorem tw_720 : (Jvm.Cond.instanceMethod ({ cls := "FleetFloor$Planner", name := "goalOf", desc := "(I)I" } : Jvm.MethodName)) ∈ bg := bg_m4 0 rfl rfl
theorem tw_721 : (Jvm.Cond.code ({ cls := "FleetFloor$Planner", name := "goalOf", desc := "(I)I" } : Jvm.MethodName) prog_7_method_10_code (2 : Nat) (Option.some Jvm.ClassFile.FieldType.int)) ∈ bg := bg_m4 1 rfl rfl
theorem tw_722 : (Jvm.Cond.methodLink "FleetFloor$Planner" (144 : Nat) ({ cls := "FleetFloor$Cells", name := "has", desc := "(I)Z" } : Jvm.MethodName)) ∈ bg := bg_m4 2 rfl rfl
theorem tw_723 : (Jvm.Cond.methodLink "FleetFloor$Planner" (70 : Nat) ({ cls := "FleetFloor$Planner", name := "prune", desc := "()V" } : Jvm.MethodName)) ∈ bg := bg_m4 3 rfl rfl
theorem tx_724 : (Jvm.Cond.privateMethod ({ cls := "FleetFloor$Planner", name := "prune", desc := "()V" } : Jvm.MethodName)) ∈ lw_tbl := tb_m4 4 rfl
theorem tw_725 : (Jvm.Cond.instanceMethod ({ cls := "FleetFloor$Planner", name := "prune", desc := "()V" } : Jvm.MethodName)) ∈ bg := bg_m4 5 rfl rfl
theorem tw_726 : (Jvm.Cond.code ({ cls := "FleetFloor$Planner", name := "prune", desc := "()V" } : Jvm.MethodName) prog_7_method_11_code (4 : Nat) (Option.none : Option Jvm.ClassFile.FieldType)) ∈ bg := bg_m4 6 rfl rfl
theorem tw_727 : (Jvm.Cond.methodLink "FleetFloor$Planner" (157 : Nat) ({ cls := "FleetFloor$Planner", name := "keepThoseBefore", desc := "(II)V" } : Jvm.MethodName)) ∈ bg := bg_m4 7 rfl rfl
theorem tx_728 : (Jvm.Cond.privateMethod ({ cls := "FleetFloor$Planner", name := "keepThoseBefore", desc := "(II)V" } : Jvm.MethodName)) ∈ lw_tbl := tb_m4 8 rfl
theorem tw_729 : (Jvm.Cond.instanceMethod ({ cls := "FleetFloor$Planner", name := "keepThoseBefore", desc := "(II)V" } : Jvm.MethodName)) ∈ bg := bg_m4 9 rfl rfl
theorem tw_730 : (Jvm.Cond.code ({ cls := "FleetFloor$Planner", name := "keepThoseBefore", desc := "(II)V" } : Jvm.MethodName) prog_7_method_12_code (3 : Nat) (Option.none : Option Jvm.ClassFile.FieldType)) ∈ bg := bg_m4 10 rfl rfl
theorem tw_731 : (Jvm.Cond.methodLink "FleetFloor$Planner" (73 : Nat) ({ cls := "FleetFloor$Planner", name := "follow", desc := "()V" } : Jvm.MethodName)) ∈ bg := bg_m4 11 rfl rfl
theorem tx_732 : (Jvm.Cond.privateMethod ({ cls := "FleetFloor$Planner", name := "follow", desc := "()V" } : Jvm.MethodName)) ∈ lw_tbl := tb_m4 12 rfl
theorem tw_733 : (Jvm.Cond.instanceMethod ({ cls := "FleetFloor$Planner", name := "follow", desc := "()V" } : Jvm.MethodName)) ∈ bg := bg_m4 13 rfl rfl
theorem tw_734 : (Jvm.Cond.code ({ cls := "FleetFloor$Planner", name := "follow", desc := "()V" } : Jvm.MethodName) prog_7_method_13_code (4 : Nat) (Option.none : Option Jvm.ClassFile.FieldType)) ∈ bg := bg_m4 14 rfl rfl
theorem tw_735 : (Jvm.Cond.methodLink "FleetFloor$Planner" (160 : Nat) ({ cls := "FleetFloor$Planner", name := "lowestStep", desc := "(III)I" } : Jvm.MethodName)) ∈ bg := bg_m4 15 rfl rfl
theorem tx_736 : (Jvm.Cond.privateMethod ({ cls := "FleetFloor$Planner", name := "lowestStep", desc := "(III)I" } : Jvm.MethodName)) ∈ lw_tbl := tb_m4 16 rfl
theorem tw_737 : (Jvm.Cond.instanceMethod ({ cls := "FleetFloor$Planner", name := "lowestStep", desc := "(III)I" } : Jvm.MethodName)) ∈ bg := bg_m4 17 rfl rfl
theorem tw_738 : (Jvm.Cond.code ({ cls := "FleetFloor$Planner", name := "lowestStep", desc := "(III)I" } : Jvm.MethodName) prog_7_method_14_code (6 : Nat) (Option.some Jvm.ClassFile.FieldType.int)) ∈ bg := bg_m4 18 rfl rfl
theorem tx_739 : (Jvm.Cond.methodLinkNest "FleetFloor$Planner" (168 : Nat) ({ cls := "FleetFloor", name := "neighbour", desc := "(II)I" } : Jvm.MethodName) "FleetFloor") ∈ lw_tbl := tb_m4 19 rfl
theorem tw_740 : (Jvm.Cond.static ({ cls := "FleetFloor", name := "neighbour", desc := "(II)I" } : Jvm.MethodName)) ∈ bg := bg_m4 20 rfl rfl
theorem tw_741 : (Jvm.Cond.code ({ cls := "FleetFloor", name := "neighbour", desc := "(II)I" } : Jvm.MethodName) prog_1_method_26_code (4 : Nat) (Option.some Jvm.ClassFile.FieldType.int)) ∈ bg := bg_m4 21 rfl rfl
theorem tw_742 : (Jvm.Cond.methodLink "FleetFloor$Planner" (164 : Nat) ({ cls := "FleetFloor$Planner", name := "legAt", desc := "(II)I" } : Jvm.MethodName)) ∈ bg := bg_m4 22 rfl rfl
theorem tx_743 : (Jvm.Cond.privateMethod ({ cls := "FleetFloor$Planner", name := "legAt", desc := "(II)I" } : Jvm.MethodName)) ∈ lw_tbl := tb_m4 23 rfl
theorem tw_744 : (Jvm.Cond.instanceMethod ({ cls := "FleetFloor$Planner", name := "legAt", desc := "(II)I" } : Jvm.MethodName)) ∈ bg := bg_m4 24 rfl rfl
theorem tw_745 : (Jvm.Cond.code ({ cls := "FleetFloor$Planner", name := "legAt", desc := "(II)I" } : Jvm.MethodName) prog_7_method_15_code (4 : Nat) (Option.some Jvm.ClassFile.FieldType.int)) ∈ bg := bg_m4 25 rfl rfl
theorem tw_746 : (Jvm.Cond.methodLink "FleetFloor" (231 : Nat) ({ cls := "FleetFloor$Planner", name := "append", desc := "(LFleetFloor$Vehicle;I)V" } : Jvm.MethodName)) ∈ bg := bg_m4 26 rfl rfl
theorem tw_747 : (Jvm.Cond.instanceMethod ({ cls := "FleetFloor$Planner", name := "append", desc := "(LFleetFloor$Vehicle;I)V" } : Jvm.MethodName)) ∈ bg := bg_m4 27 rfl rfl
theorem tw_748 : (Jvm.Cond.selects "FleetFloor$Planner" ({ cls := "FleetFloor$Planner", name := "append", desc := "(LFleetFloor$Vehicle;I)V" } : Jvm.MethodName) ({ cls := "FleetFloor$Planner", name := "append", desc := "(LFleetFloor$Vehicle;I)V" } : Jvm.MethodName)) ∈ bg := bg_m4 28 rfl rfl
theorem tw_749 : (Jvm.Cond.code ({ cls := "FleetFloor$Planner", name := "append", desc := "(LFleetFloor$Vehicle;I)V" } : Jvm.MethodName) prog_7_method_3_code (4 : Nat) (Option.none : Option Jvm.ClassFile.FieldType)) ∈ bg := bg_m4 29 rfl rfl
theorem tw_750 : (Jvm.Cond.instantiable "FleetFloor$Move" (2 : Nat)) ∈ bg := bg_m4 30 rfl rfl
theorem tx_751 : (Jvm.Cond.methodLinkNest "FleetFloor$Planner" (82 : Nat) ({ cls := "FleetFloor$Move", name := "<init>", desc := "(II)V" } : Jvm.MethodName) "FleetFloor") ∈ lw_tbl := tb_m4 31 rfl
theorem tw_752 : (Jvm.Cond.instanceMethod ({ cls := "FleetFloor$Move", name := "<init>", desc := "(II)V" } : Jvm.MethodName)) ∈ bg := bg_m4 32 rfl rfl
theorem tw_753 : (Jvm.Cond.code ({ cls := "FleetFloor$Move", name := "<init>", desc := "(II)V" } : Jvm.MethodName) prog_6_method_1_code (3 : Nat) (Option.none : Option Jvm.ClassFile.FieldType)) ∈ bg := bg_m4 33 rfl rfl
theorem tw_754 : (Jvm.Cond.methodLink "FleetFloor$Move" (1 : Nat) ({ cls := "java/lang/Record", name := "<init>", desc := "()V" } : Jvm.MethodName)) ∈ bg := bg_m4 34 rfl rfl
theorem tw_755 : (Jvm.Cond.fieldLink "FleetFloor$Move" (7 : Nat) "FleetFloor$Move" "place" "I") ∈ bg := bg_m4 35 rfl rfl
theorem tw_756 : (Jvm.Cond.fieldLink "FleetFloor$Move" (13 : Nat) "FleetFloor$Move" "time" "I") ∈ bg := bg_m4 36 rfl rfl
theorem tw_757 : (Jvm.Cond.laysFinal "FleetFloor$Move" "FleetFloor$Move" "place" "I") ∈ bg := bg_m4 37 rfl rfl
theorem tw_758 : (Jvm.Cond.soleField "FleetFloor$Move" "place") ∈ bg := bg_m4 38 rfl rfl
theorem tw_759 : (Jvm.Cond.laysFinal "FleetFloor$Move" "FleetFloor$Move" "time" "I") ∈ bg := bg_m4 39 rfl rfl
theorem tw_760 : (Jvm.Cond.soleField "FleetFloor$Move" "time") ∈ bg := bg_m4 40 rfl rfl
theorem tw_761 : (Jvm.Cond.superclass "FleetFloor$Move" "java/lang/Record") ∈ bg := bg_m4 41 rfl rfl
theorem tw_762 : (Jvm.Cond.methodLink "FleetFloor$Planner" (85 : Nat) ({ cls := "java/util/ArrayList", name := "add", desc := "(Ljava/lang/Object;)Z" } : Jvm.MethodName)) ∈ bg := bg_m4 42 rfl rfl
theorem tw_763 : (Jvm.Cond.methodLink "FleetFloor" (126 : Nat) ({ cls := "FleetFloor", name := "grantMoves", desc := "()V" } : Jvm.MethodName)) ∈ bg := bg_m4 43 rfl rfl
theorem tx_764 : (Jvm.Cond.privateMethod ({ cls := "FleetFloor", name := "grantMoves", desc := "()V" } : Jvm.MethodName)) ∈ lw_tbl := tb_m4 44 rfl
theorem tw_765 : (Jvm.Cond.instanceMethod ({ cls := "FleetFloor", name := "grantMoves", desc := "()V" } : Jvm.MethodName)) ∈ bg := bg_m4 45 rfl rfl
theorem tw_766 : (Jvm.Cond.code ({ cls := "FleetFloor", name := "grantMoves", desc := "()V" } : Jvm.MethodName) prog_1_method_24_code (5 : Nat) (Option.none : Option Jvm.ClassFile.FieldType)) ∈ bg := bg_m4 46 rfl rfl
theorem tw_767 : (Jvm.Cond.methodLink "FleetFloor" (238 : Nat) ({ cls := "FleetFloor", name := "isFree", desc := "(LFleetFloor$Vehicle;LFleetFloor$Move;)Z" } : Jvm.MethodName)) ∈ bg := bg_m4 47 rfl rfl
theorem tx_768 : (Jvm.Cond.privateMethod ({ cls := "FleetFloor", name := "isFree", desc := "(LFleetFloor$Vehicle;LFleetFloor$Move;)Z" } : Jvm.MethodName)) ∈ lw_tbl := tb_m4 48 rfl
theorem tw_769 : (Jvm.Cond.instanceMethod ({ cls := "FleetFloor", name := "isFree", desc := "(LFleetFloor$Vehicle;LFleetFloor$Move;)Z" } : Jvm.MethodName)) ∈ bg := bg_m4 49 rfl rfl
theorem tw_770 : (Jvm.Cond.code ({ cls := "FleetFloor", name := "isFree", desc := "(LFleetFloor$Vehicle;LFleetFloor$Move;)Z" } : Jvm.MethodName) prog_1_method_25_code (4 : Nat) (Option.some Jvm.ClassFile.FieldType.boolean)) ∈ bg := bg_m4 50 rfl rfl
theorem tw_771 : (Jvm.Cond.methodLink "FleetFloor" (248 : Nat) ({ cls := "FleetFloor$Vehicle", name := "comesBefore", desc := "(LFleetFloor$Move;)Z" } : Jvm.MethodName)) ∈ bg := bg_m4 51 rfl rfl
theorem tw_772 : (Jvm.Cond.instanceMethod ({ cls := "FleetFloor$Vehicle", name := "comesBefore", desc := "(LFleetFloor$Move;)Z" } : Jvm.MethodName)) ∈ bg := bg_m4 52 rfl rfl
theorem tw_773 : (Jvm.Cond.selects "FleetFloor$Vehicle" ({ cls := "FleetFloor$Vehicle", name := "comesBefore", desc := "(LFleetFloor$Move;)Z" } : Jvm.MethodName) ({ cls := "FleetFloor$Vehicle", name := "comesBefore", desc := "(LFleetFloor$Move;)Z" } : Jvm.MethodName)) ∈ bg := bg_m4 53 rfl rfl
theorem tw_774 : (Jvm.Cond.code ({ cls := "FleetFloor$Vehicle", name := "comesBefore", desc := "(LFleetFloor$Move;)Z" } : Jvm.MethodName) prog_9_method_7_code (4 : Nat) (Option.some Jvm.ClassFile.FieldType.boolean)) ∈ bg := bg_m4 54 rfl rfl
theorem tw_775 : (Jvm.Cond.methodLink "FleetFloor" (242 : Nat) ({ cls := "java/lang/Math", name := "max", desc := "(II)I" } : Jvm.MethodName)) ∈ bg := bg_m4 55 rfl rfl
theorem tw_776 : (Jvm.Cond.classLink "FleetFloorLaw" (25 : Nat) "FleetFloorModel") ∈ bg := bg_m4 56 rfl rfl
theorem tw_777 : (Jvm.Cond.instantiable "FleetFloorModel" (40 : Nat)) ∈ bg := bg_m4 57 rfl rfl
theorem tw_778 : (Jvm.Cond.methodLink "FleetFloorLaw" (27 : Nat) ({ cls := "FleetFloorModel", name := "<init>", desc := "()V" } : Jvm.MethodName)) ∈ bg := bg_m4 58 rfl rfl
theorem tw_779 : (Jvm.Cond.instanceMethod ({ cls := "FleetFloorModel", name := "<init>", desc := "()V" } : Jvm.MethodName)) ∈ bg := bg_m4 59 rfl rfl
theorem tw_780 : (Jvm.Cond.code ({ cls := "FleetFloorModel", name := "<init>", desc := "()V" } : Jvm.MethodName) prog_11_method_1_code (1 : Nat) (Option.none : Option Jvm.ClassFile.FieldType)) ∈ bg := bg_m4 60 rfl rfl
theorem tw_781 : (Jvm.Cond.methodLink "FleetFloorModel" (1 : Nat) ({ cls := "java/lang/Object", name := "<init>", desc := "()V" } : Jvm.MethodName)) ∈ bg := bg_m4 61 rfl rfl
theorem tw_782 : (Jvm.Cond.fieldLink "FleetFloorModel" (96 : Nat) "FleetFloorModel" "thrown" "I") ∈ bg := bg_m4 62 rfl rfl
theorem tw_783 : (Jvm.Cond.fieldLink "FleetFloorModel" (100 : Nat) "FleetFloorModel" "open" "Z") ∈ bg := bg_m4 63 rfl rfl
theorem tw_784 : (Jvm.Cond.fieldLink "FleetFloorModel" (7 : Nat) "FleetFloorModel" "kinds" "[I") ∈ bg := bg_m4 64 rfl rfl
theorem tw_785 : (Jvm.Cond.fieldLink "FleetFloorModel" (124 : Nat) "FleetFloorModel" "stations" "I") ∈ bg := bg_m4 65 rfl rfl
theorem tw_786 : (Jvm.Cond.fieldLink "FleetFloorModel" (127 : Nat) "FleetFloorModel" "vehicles" "I") ∈ bg := bg_m4 66 rfl rfl
theorem tw_787 : (Jvm.Cond.fieldLink "FleetFloorModel" (13 : Nat) "FleetFloorModel" "stationAt" "[I") ∈ bg := bg_m4 67 rfl rfl
theorem tw_788 : (Jvm.Cond.fieldLink "FleetFloorModel" (16 : Nat) "FleetFloorModel" "parkingAt" "[I") ∈ bg := bg_m4 68 rfl rfl
theorem tw_789 : (Jvm.Cond.fieldLink "FleetFloorModel" (19 : Nat) "FleetFloorModel" "seen" "[Z") ∈ bg := bg_m4 69 rfl rfl
theorem tw_790 : (Jvm.Cond.fieldLink "FleetFloorModel" (23 : Nat) "FleetFloorModel" "pile" "[I") ∈ bg := bg_m4 70 rfl rfl
theorem tw_791 : (Jvm.Cond.fieldLink "FleetFloorModel" (130 : Nat) "FleetFloorModel" "tasks" "I") ∈ bg := bg_m4 71 rfl rfl
theorem tw_792 : (Jvm.Cond.fieldLink "FleetFloorModel" (133 : Nat) "FleetFloorModel" "planned" "I") ∈ bg := bg_m4 72 rfl rfl
theorem tw_793 : (Jvm.Cond.fieldLink "FleetFloorModel" (26 : Nat) "FleetFloorModel" "first" "[I") ∈ bg := bg_m4 73 rfl rfl
theorem tw_794 : (Jvm.Cond.fieldLink "FleetFloorModel" (29 : Nat) "FleetFloorModel" "second" "[I") ∈ bg := bg_m4 74 rfl rfl
theorem tw_795 : (Jvm.Cond.fieldLink "FleetFloorModel" (32 : Nat) "FleetFloorModel" "owner" "[I") ∈ bg := bg_m4 75 rfl rfl
theorem tw_796 : (Jvm.Cond.fieldLink "FleetFloorModel" (35 : Nat) "FleetFloorModel" "start" "[I") ∈ bg := bg_m4 76 rfl rfl
theorem tw_797 : (Jvm.Cond.fieldLink "FleetFloorModel" (38 : Nat) "FleetFloorModel" "many" "[I") ∈ bg := bg_m4 77 rfl rfl
theorem tw_798 : (Jvm.Cond.fieldLink "FleetFloorModel" (41 : Nat) "FleetFloorModel" "base" "[I") ∈ bg := bg_m4 78 rfl rfl
theorem tw_799 : (Jvm.Cond.fieldLink "FleetFloorModel" (44 : Nat) "FleetFloorModel" "finishing" "[I") ∈ bg := bg_m4 79 rfl rfl
theorem tw_800 : (Jvm.Cond.fieldLink "FleetFloorModel" (47 : Nat) "FleetFloorModel" "finished" "[I") ∈ bg := bg_m4 80 rfl rfl
theorem tw_801 : (Jvm.Cond.fieldLink "FleetFloorModel" (177 : Nat) "FleetFloorModel" "rowed" "I") ∈ bg := bg_m4 81 rfl rfl
theorem tw_802 : (Jvm.Cond.fieldLink "FleetFloorModel" (50 : Nat) "FleetFloorModel" "moveCell" "[I") ∈ bg := bg_m4 82 rfl rfl
theorem tw_803 : (Jvm.Cond.fieldLink "FleetFloorModel" (53 : Nat) "FleetFloorModel" "moveTime" "[I") ∈ bg := bg_m4 83 rfl rfl
theorem tw_804 : (Jvm.Cond.fieldLink "FleetFloorModel" (56 : Nat) "FleetFloorModel" "at" "[I") ∈ bg := bg_m4 84 rfl rfl
theorem tw_805 : (Jvm.Cond.fieldLink "FleetFloorModel" (59 : Nat) "FleetFloorModel" "made" "[I") ∈ bg := bg_m4 85 rfl rfl
theorem tw_806 : (Jvm.Cond.fieldLink "FleetFloorModel" (62 : Nat) "FleetFloorModel" "may" "[I") ∈ bg := bg_m4 86 rfl rfl
theorem tw_807 : (Jvm.Cond.fieldLink "FleetFloorModel" (65 : Nat) "FleetFloorModel" "known" "[I") ∈ bg := bg_m4 87 rfl rfl
theorem tw_808 : (Jvm.Cond.fieldLink "FleetFloorModel" (68 : Nat) "FleetFloorModel" "granted" "[I") ∈ bg := bg_m4 88 rfl rfl
theorem tw_809 : (Jvm.Cond.fieldLink "FleetFloorModel" (71 : Nat) "FleetFloorModel" "moves" "[I") ∈ bg := bg_m4 89 rfl rfl
theorem tw_810 : (Jvm.Cond.fieldLink "FleetFloorModel" (74 : Nat) "FleetFloorModel" "latest" "[I") ∈ bg := bg_m4 90 rfl rfl
theorem tw_811 : (Jvm.Cond.fieldLink "FleetFloorModel" (136 : Nat) "FleetFloorModel" "clock" "I") ∈ bg := bg_m4 91 rfl rfl
theorem tw_812 : (Jvm.Cond.fieldLink "FleetFloorModel" (212 : Nat) "FleetFloorModel" "ticks" "I") ∈ bg := bg_m4 92 rfl rfl
theorem tw_813 : (Jvm.Cond.fieldLink "FleetFloorModel" (215 : Nat) "FleetFloorModel" "letters" "I") ∈ bg := bg_m4 93 rfl rfl
theorem tw_814 : (Jvm.Cond.fieldLink "FleetFloorModel" (77 : Nat) "FleetFloorModel" "letterKind" "[I") ∈ bg := bg_m4 94 rfl rfl
theorem tw_815 : (Jvm.Cond.fieldLink "FleetFloorModel" (80 : Nat) "FleetFloorModel" "letterOf" "[I") ∈ bg := bg_m4 95 rfl rfl
theorem tw_816 : (Jvm.Cond.fieldLink "FleetFloorModel" (83 : Nat) "FleetFloorModel" "letterNumber" "[I") ∈ bg := bg_m4 96 rfl rfl
theorem tw_817 : (Jvm.Cond.fieldLink "FleetFloorModel" (86 : Nat) "FleetFloorModel" "noBeing" "[J") ∈ bg := bg_m4 97 rfl rfl
theorem tw_818 : (Jvm.Cond.fieldLink "FleetFloorModel" (90 : Nat) "FleetFloorModel" "noComing" "[J") ∈ bg := bg_m4 98 rfl rfl
theorem tw_819 : (Jvm.Cond.fieldLink "FleetFloorModel" (93 : Nat) "FleetFloorModel" "reached" "[J") ∈ bg := bg_m4 99 rfl rfl
theorem tw_820 : (Jvm.Cond.fieldLink "FleetFloorModel" (146 : Nat) "FleetFloorModel" "planner" "I") ∈ bg := bg_m4 100 rfl rfl
theorem tw_821 : (Jvm.Cond.lays "FleetFloorModel" "FleetFloorModel" "thrown" "I") ∈ bg := bg_m4 101 rfl rfl
theorem tw_822 : (Jvm.Cond.soleField "FleetFloorModel" "thrown") ∈ bg := bg_m4 102 rfl rfl
theorem tw_823 : (Jvm.Cond.lays "FleetFloorModel" "FleetFloorModel" "open" "Z") ∈ bg := bg_m4 103 rfl rfl
theorem tw_824 : (Jvm.Cond.soleField "FleetFloorModel" "open") ∈ bg := bg_m4 104 rfl rfl
theorem tw_825 : (Jvm.Cond.laysFinal "FleetFloorModel" "FleetFloorModel" "kinds" "[I") ∈ bg := bg_m4 105 rfl rfl
theorem tw_826 : (Jvm.Cond.soleField "FleetFloorModel" "kinds") ∈ bg := bg_m4 106 rfl rfl
theorem tw_827 : (Jvm.Cond.lays "FleetFloorModel" "FleetFloorModel" "stations" "I") ∈ bg := bg_m4 107 rfl rfl
theorem tw_828 : (Jvm.Cond.soleField "FleetFloorModel" "stations") ∈ bg := bg_m4 108 rfl rfl
theorem tw_829 : (Jvm.Cond.lays "FleetFloorModel" "FleetFloorModel" "vehicles" "I") ∈ bg := bg_m4 109 rfl rfl
theorem tw_830 : (Jvm.Cond.soleField "FleetFloorModel" "vehicles") ∈ bg := bg_m4 110 rfl rfl
theorem tw_831 : (Jvm.Cond.laysFinal "FleetFloorModel" "FleetFloorModel" "stationAt" "[I") ∈ bg := bg_m4 111 rfl rfl
theorem tw_832 : (Jvm.Cond.soleField "FleetFloorModel" "stationAt") ∈ bg := bg_m4 112 rfl rfl
theorem tw_833 : (Jvm.Cond.laysFinal "FleetFloorModel" "FleetFloorModel" "parkingAt" "[I") ∈ bg := bg_m4 113 rfl rfl
theorem tw_834 : (Jvm.Cond.soleField "FleetFloorModel" "parkingAt") ∈ bg := bg_m4 114 rfl rfl
theorem tw_835 : (Jvm.Cond.laysFinal "FleetFloorModel" "FleetFloorModel" "seen" "[Z") ∈ bg := bg_m4 115 rfl rfl
theorem tw_836 : (Jvm.Cond.soleField "FleetFloorModel" "seen") ∈ bg := bg_m4 116 rfl rfl
theorem tw_837 : (Jvm.Cond.laysFinal "FleetFloorModel" "FleetFloorModel" "pile" "[I") ∈ bg := bg_m4 117 rfl rfl
theorem tw_838 : (Jvm.Cond.soleField "FleetFloorModel" "pile") ∈ bg := bg_m4 118 rfl rfl
theorem tw_839 : (Jvm.Cond.lays "FleetFloorModel" "FleetFloorModel" "tasks" "I") ∈ bg := bg_m4 119 rfl rfl
theorem tw_840 : (Jvm.Cond.soleField "FleetFloorModel" "tasks") ∈ bg := bg_m4 120 rfl rfl
theorem tw_841 : (Jvm.Cond.lays "FleetFloorModel" "FleetFloorModel" "planned" "I") ∈ bg := bg_m4 121 rfl rfl
theorem tw_842 : (Jvm.Cond.soleField "FleetFloorModel" "planned") ∈ bg := bg_m4 122 rfl rfl
theorem tw_843 : (Jvm.Cond.laysFinal "FleetFloorModel" "FleetFloorModel" "first" "[I") ∈ bg := bg_m4 123 rfl rfl
theorem tw_844 : (Jvm.Cond.soleField "FleetFloorModel" "first") ∈ bg := bg_m4 124 rfl rfl
theorem tw_845 : (Jvm.Cond.laysFinal "FleetFloorModel" "FleetFloorModel" "second" "[I") ∈ bg := bg_m4 125 rfl rfl
theorem tw_846 : (Jvm.Cond.soleField "FleetFloorModel" "second") ∈ bg := bg_m4 126 rfl rfl
theorem tw_847 : (Jvm.Cond.laysFinal "FleetFloorModel" "FleetFloorModel" "owner" "[I") ∈ bg := bg_m4 127 rfl rfl
theorem tw_848 : (Jvm.Cond.soleField "FleetFloorModel" "owner") ∈ bg := bg_m4 128 rfl rfl
theorem tw_849 : (Jvm.Cond.laysFinal "FleetFloorModel" "FleetFloorModel" "start" "[I") ∈ bg := bg_m4 129 rfl rfl
theorem tw_850 : (Jvm.Cond.soleField "FleetFloorModel" "start") ∈ bg := bg_m4 130 rfl rfl
theorem tw_851 : (Jvm.Cond.laysFinal "FleetFloorModel" "FleetFloorModel" "many" "[I") ∈ bg := bg_m4 131 rfl rfl
theorem tw_852 : (Jvm.Cond.soleField "FleetFloorModel" "many") ∈ bg := bg_m4 132 rfl rfl
theorem tw_853 : (Jvm.Cond.laysFinal "FleetFloorModel" "FleetFloorModel" "base" "[I") ∈ bg := bg_m4 133 rfl rfl
theorem tw_854 : (Jvm.Cond.soleField "FleetFloorModel" "base") ∈ bg := bg_m4 134 rfl rfl
theorem tw_855 : (Jvm.Cond.laysFinal "FleetFloorModel" "FleetFloorModel" "finishing" "[I") ∈ bg := bg_m4 135 rfl rfl
theorem tw_856 : (Jvm.Cond.soleField "FleetFloorModel" "finishing") ∈ bg := bg_m4 136 rfl rfl
theorem tw_857 : (Jvm.Cond.laysFinal "FleetFloorModel" "FleetFloorModel" "finished" "[I") ∈ bg := bg_m4 137 rfl rfl
theorem tw_858 : (Jvm.Cond.soleField "FleetFloorModel" "finished") ∈ bg := bg_m4 138 rfl rfl
theorem tw_859 : (Jvm.Cond.lays "FleetFloorModel" "FleetFloorModel" "rowed" "I") ∈ bg := bg_m4 139 rfl rfl
theorem tw_860 : (Jvm.Cond.soleField "FleetFloorModel" "rowed") ∈ bg := bg_m4 140 rfl rfl
theorem tw_861 : (Jvm.Cond.laysFinal "FleetFloorModel" "FleetFloorModel" "moveCell" "[I") ∈ bg := bg_m4 141 rfl rfl
theorem tw_862 : (Jvm.Cond.soleField "FleetFloorModel" "moveCell") ∈ bg := bg_m4 142 rfl rfl
theorem tw_863 : (Jvm.Cond.laysFinal "FleetFloorModel" "FleetFloorModel" "moveTime" "[I") ∈ bg := bg_m4 143 rfl rfl
theorem tw_864 : (Jvm.Cond.soleField "FleetFloorModel" "moveTime") ∈ bg := bg_m4 144 rfl rfl
theorem tw_865 : (Jvm.Cond.laysFinal "FleetFloorModel" "FleetFloorModel" "at" "[I") ∈ bg := bg_m4 145 rfl rfl
theorem tw_866 : (Jvm.Cond.soleField "FleetFloorModel" "at") ∈ bg := bg_m4 146 rfl rfl
theorem tw_867 : (Jvm.Cond.laysFinal "FleetFloorModel" "FleetFloorModel" "made" "[I") ∈ bg := bg_m4 147 rfl rfl
theorem tw_868 : (Jvm.Cond.soleField "FleetFloorModel" "made") ∈ bg := bg_m4 148 rfl rfl
theorem tw_869 : (Jvm.Cond.laysFinal "FleetFloorModel" "FleetFloorModel" "may" "[I") ∈ bg := bg_m4 149 rfl rfl
theorem tw_870 : (Jvm.Cond.soleField "FleetFloorModel" "may") ∈ bg := bg_m4 150 rfl rfl
theorem tw_871 : (Jvm.Cond.laysFinal "FleetFloorModel" "FleetFloorModel" "known" "[I") ∈ bg := bg_m4 151 rfl rfl
theorem tw_872 : (Jvm.Cond.soleField "FleetFloorModel" "known") ∈ bg := bg_m4 152 rfl rfl
theorem tw_873 : (Jvm.Cond.laysFinal "FleetFloorModel" "FleetFloorModel" "granted" "[I") ∈ bg := bg_m4 153 rfl rfl
theorem tw_874 : (Jvm.Cond.soleField "FleetFloorModel" "granted") ∈ bg := bg_m4 154 rfl rfl
theorem tw_875 : (Jvm.Cond.laysFinal "FleetFloorModel" "FleetFloorModel" "moves" "[I") ∈ bg := bg_m4 155 rfl rfl
theorem tw_876 : (Jvm.Cond.soleField "FleetFloorModel" "moves") ∈ bg := bg_m4 156 rfl rfl
theorem tw_877 : (Jvm.Cond.laysFinal "FleetFloorModel" "FleetFloorModel" "latest" "[I") ∈ bg := bg_m4 157 rfl rfl
theorem tw_878 : (Jvm.Cond.soleField "FleetFloorModel" "latest") ∈ bg := bg_m4 158 rfl rfl
theorem tw_879 : (Jvm.Cond.lays "FleetFloorModel" "FleetFloorModel" "clock" "I") ∈ bg := bg_m4 159 rfl rfl
theorem tw_880 : (Jvm.Cond.soleField "FleetFloorModel" "clock") ∈ bg := bg_m4 160 rfl rfl
theorem tw_881 : (Jvm.Cond.lays "FleetFloorModel" "FleetFloorModel" "ticks" "I") ∈ bg := bg_m4 161 rfl rfl
theorem tw_882 : (Jvm.Cond.soleField "FleetFloorModel" "ticks") ∈ bg := bg_m4 162 rfl rfl
theorem tw_883 : (Jvm.Cond.lays "FleetFloorModel" "FleetFloorModel" "letters" "I") ∈ bg := bg_m4 163 rfl rfl
theorem tw_884 : (Jvm.Cond.soleField "FleetFloorModel" "letters") ∈ bg := bg_m4 164 rfl rfl
theorem tw_885 : (Jvm.Cond.laysFinal "FleetFloorModel" "FleetFloorModel" "letterKind" "[I") ∈ bg := bg_m4 165 rfl rfl
theorem tw_886 : (Jvm.Cond.soleField "FleetFloorModel" "letterKind") ∈ bg := bg_m4 166 rfl rfl
theorem tw_887 : (Jvm.Cond.laysFinal "FleetFloorModel" "FleetFloorModel" "letterOf" "[I") ∈ bg := bg_m4 167 rfl rfl
theorem tw_888 : (Jvm.Cond.soleField "FleetFloorModel" "letterOf") ∈ bg := bg_m4 168 rfl rfl
theorem tw_889 : (Jvm.Cond.laysFinal "FleetFloorModel" "FleetFloorModel" "letterNumber" "[I") ∈ bg := bg_m4 169 rfl rfl
theorem tw_890 : (Jvm.Cond.soleField "FleetFloorModel" "letterNumber") ∈ bg := bg_m4 170 rfl rfl
theorem tw_891 : (Jvm.Cond.laysFinal "FleetFloorModel" "FleetFloorModel" "noBeing" "[J") ∈ bg := bg_m4 171 rfl rfl
theorem tw_892 : (Jvm.Cond.soleField "FleetFloorModel" "noBeing") ∈ bg := bg_m4 172 rfl rfl
theorem tw_893 : (Jvm.Cond.laysFinal "FleetFloorModel" "FleetFloorModel" "noComing" "[J") ∈ bg := bg_m4 173 rfl rfl
theorem tw_894 : (Jvm.Cond.soleField "FleetFloorModel" "noComing") ∈ bg := bg_m4 174 rfl rfl
theorem tw_895 : (Jvm.Cond.laysFinal "FleetFloorModel" "FleetFloorModel" "reached" "[J") ∈ bg := bg_m4 175 rfl rfl
theorem tw_896 : (Jvm.Cond.soleField "FleetFloorModel" "reached") ∈ bg := bg_m4 176 rfl rfl
theorem tw_897 : (Jvm.Cond.lays "FleetFloorModel" "FleetFloorModel" "planner" "I") ∈ bg := bg_m4 177 rfl rfl
theorem tw_898 : (Jvm.Cond.soleField "FleetFloorModel" "planner") ∈ bg := bg_m4 178 rfl rfl
theorem tw_899 : (Jvm.Cond.lays "FleetFloorModel" "FleetFloorModel" "done" "I") ∈ bg := bg_m4 179 rfl rfl
theorem tw_900 : (Jvm.Cond.soleField "FleetFloorModel" "done") ∈ bg := bg_m4 180 rfl rfl
theorem tw_901 : (Jvm.Cond.superclass "FleetFloorModel" "java/lang/Object") ∈ bg := bg_m4 181 rfl rfl
theorem tw_902 : (Jvm.Cond.arrayClass Jvm.ClassFile.FieldType.boolean) ∈ bg := bg_m4 182 rfl rfl
theorem tw_903 : (Jvm.Cond.arrayClass Jvm.ClassFile.FieldType.long) ∈ bg := bg_m4 183 rfl rfl
theorem tw_904 : (Jvm.Cond.methodLink "FleetFloorLaw" (39 : Nat) ({ cls := "FleetFloorModel", name := "thrown", desc := "()I" } : Jvm.MethodName)) ∈ bg := bg_m4 184 rfl rfl
theorem tw_905 : (Jvm.Cond.instanceMethod ({ cls := "FleetFloorModel", name := "thrown", desc := "()I" } : Jvm.MethodName)) ∈ bg := bg_m4 185 rfl rfl
theorem tw_906 : (Jvm.Cond.selects "FleetFloorModel" ({ cls := "FleetFloorModel", name := "thrown", desc := "()I" } : Jvm.MethodName) ({ cls := "FleetFloorModel", name := "thrown", desc := "()I" } : Jvm.MethodName)) ∈ bg := bg_m4 186 rfl rfl
theorem tw_907 : (Jvm.Cond.code ({ cls := "FleetFloorModel", name := "thrown", desc := "()I" } : Jvm.MethodName) prog_11_method_2_code (1 : Nat) (Option.some Jvm.ClassFile.FieldType.int)) ∈ bg := bg_m4 187 rfl rfl
theorem tw_908 : (Jvm.Cond.methodLink "FleetFloorLaw" (32 : Nat) ({ cls := "FleetFloorModel", name := "cell", desc := "(II)Z" } : Jvm.MethodName)) ∈ bg := bg_m4 188 rfl rfl
theorem tw_909 : (Jvm.Cond.instanceMethod ({ cls := "FleetFloorModel", name := "cell", desc := "(II)Z" } : Jvm.MethodName)) ∈ bg := bg_m4 189 rfl rfl
theorem tw_910 : (Jvm.Cond.selects "FleetFloorModel" ({ cls := "FleetFloorModel", name := "cell", desc := "(II)Z" } : Jvm.MethodName) ({ cls := "FleetFloorModel", name := "cell", desc := "(II)Z" } : Jvm.MethodName)) ∈ bg := bg_m4 190 rfl rfl
theorem tw_911 : (Jvm.Cond.code ({ cls := "FleetFloorModel", name := "cell", desc := "(II)Z" } : Jvm.MethodName) prog_11_method_5_code (3 : Nat) (Option.some Jvm.ClassFile.FieldType.boolean)) ∈ bg := bg_m4 191 rfl rfl
theorem tw_912 : (Jvm.Cond.methodLink "FleetFloorModel" (104 : Nat) ({ cls := "FleetFloorModel", name := "in", desc := "(III)Z" } : Jvm.MethodName)) ∈ bg := bg_m4 192 rfl rfl
theorem tw_913 : (Jvm.Cond.static ({ cls := "FleetFloorModel", name := "in", desc := "(III)Z" } : Jvm.MethodName)) ∈ bg := bg_m4 193 rfl rfl
theorem tw_914 : (Jvm.Cond.code ({ cls := "FleetFloorModel", name := "in", desc := "(III)Z" } : Jvm.MethodName) prog_11_method_4_code (3 : Nat) (Option.some Jvm.ClassFile.FieldType.boolean)) ∈ bg := bg_m4 194 rfl rfl
theorem tw_915 : (Jvm.Cond.methodLink "FleetFloorLaw" (38 : Nat) ({ cls := "FleetFloorModel", name := "open", desc := "()I" } : Jvm.MethodName)) ∈ bg := bg_m4 195 rfl rfl
theorem tw_916 : (Jvm.Cond.instanceMethod ({ cls := "FleetFloorModel", name := "open", desc := "()I" } : Jvm.MethodName)) ∈ bg := bg_m4 196 rfl rfl
theorem tw_917 : (Jvm.Cond.selects "FleetFloorModel" ({ cls := "FleetFloorModel", name := "open", desc := "()I" } : Jvm.MethodName) ({ cls := "FleetFloorModel", name := "open", desc := "()I" } : Jvm.MethodName)) ∈ bg := bg_m4 197 rfl rfl
theorem tw_918 : (Jvm.Cond.code ({ cls := "FleetFloorModel", name := "open", desc := "()I" } : Jvm.MethodName) prog_11_method_9_code (2 : Nat) (Option.some Jvm.ClassFile.FieldType.int)) ∈ bg := bg_m4 198 rfl rfl
theorem tw_919 : (Jvm.Cond.methodLink "FleetFloorModel" (116 : Nat) ({ cls := "FleetFloorModel", name := "isGood", desc := "()Z" } : Jvm.MethodName)) ∈ bg := bg_m4 199 rfl rfl
theorem tx_920 : (Jvm.Cond.privateMethod ({ cls := "FleetFloorModel", name := "isGood", desc := "()Z" } : Jvm.MethodName)) ∈ lw_tbl := tb_m4 200 rfl
theorem tw_921 : (Jvm.Cond.instanceMethod ({ cls := "FleetFloorModel", name := "isGood", desc := "()Z" } : Jvm.MethodName)) ∈ bg := bg_m4 201 rfl rfl
theorem tw_922 : (Jvm.Cond.code ({ cls := "FleetFloorModel", name := "isGood", desc := "()Z" } : Jvm.MethodName) prog_11_method_8_code (5 : Nat) (Option.some Jvm.ClassFile.FieldType.boolean)) ∈ bg := bg_m4 202 rfl rfl
theorem tw_923 : (Jvm.Cond.methodLink "FleetFloorModel" (112 : Nat) ({ cls := "FleetFloorModel", name := "leadsToAll", desc := "(I)Z" } : Jvm.MethodName)) ∈ bg := bg_m4 203 rfl rfl
theorem tx_924 : (Jvm.Cond.privateMethod ({ cls := "FleetFloorModel", name := "leadsToAll", desc := "(I)Z" } : Jvm.MethodName)) ∈ lw_tbl := tb_m4 204 rfl
theorem tw_925 : (Jvm.Cond.instanceMethod ({ cls := "FleetFloorModel", name := "leadsToAll", desc := "(I)Z" } : Jvm.MethodName)) ∈ bg := bg_m4 205 rfl rfl
theorem tw_926 : (Jvm.Cond.code ({ cls := "FleetFloorModel", name := "leadsToAll", desc := "(I)Z" } : Jvm.MethodName) prog_11_method_7_code (6 : Nat) (Option.some Jvm.ClassFile.FieldType.boolean)) ∈ bg := bg_m4 206 rfl rfl
theorem tw_927 : (Jvm.Cond.methodLink "FleetFloorModel" (108 : Nat) ({ cls := "FleetFloorModel", name := "neighbour", desc := "(II)I" } : Jvm.MethodName)) ∈ bg := bg_m4 207 rfl rfl
theorem tw_928 : (Jvm.Cond.static ({ cls := "FleetFloorModel", name := "neighbour", desc := "(II)I" } : Jvm.MethodName)) ∈ bg := bg_m4 208 rfl rfl
theorem tw_929 : (Jvm.Cond.code ({ cls := "FleetFloorModel", name := "neighbour", desc := "(II)I" } : Jvm.MethodName) prog_11_method_6_code (3 : Nat) (Option.some Jvm.ClassFile.FieldType.int)) ∈ bg := bg_m4 209 rfl rfl
theorem tw_930 : (Jvm.Cond.methodLink "FleetFloorModel" (120 : Nat) ({ cls := "FleetFloorModel", name := "throwing", desc := "(ZZ)Z" } : Jvm.MethodName)) ∈ bg := bg_m4 210 rfl rfl
theorem tx_931 : (Jvm.Cond.privateMethod ({ cls := "FleetFloorModel", name := "throwing", desc := "(ZZ)Z" } : Jvm.MethodName)) ∈ lw_tbl := tb_m4 211 rfl
theorem tw_932 : (Jvm.Cond.instanceMethod ({ cls := "FleetFloorModel", name := "throwing", desc := "(ZZ)Z" } : Jvm.MethodName)) ∈ bg := bg_m4 212 rfl rfl
theorem tw_933 : (Jvm.Cond.code ({ cls := "FleetFloorModel", name := "throwing", desc := "(ZZ)Z" } : Jvm.MethodName) prog_11_method_3_code (3 : Nat) (Option.some Jvm.ClassFile.FieldType.boolean)) ∈ bg := bg_m4 213 rfl rfl
theorem tw_934 : (Jvm.Cond.methodLink "FleetFloorLaw" (45 : Nat) ({ cls := "FleetFloorModel", name := "task", desc := "(II)I" } : Jvm.MethodName)) ∈ bg := bg_m4 214 rfl rfl
theorem tw_935 : (Jvm.Cond.instanceMethod ({ cls := "FleetFloorModel", name := "task", desc := "(II)I" } : Jvm.MethodName)) ∈ bg := bg_m4 215 rfl rfl
theorem tw_936 : (Jvm.Cond.selects "FleetFloorModel" ({ cls := "FleetFloorModel", name := "task", desc := "(II)I" } : Jvm.MethodName) ({ cls := "FleetFloorModel", name := "task", desc := "(II)I" } : Jvm.MethodName)) ∈ bg := bg_m4 216 rfl rfl
theorem tw_937 : (Jvm.Cond.code ({ cls := "FleetFloorModel", name := "task", desc := "(II)I" } : Jvm.MethodName) prog_11_method_10_code (3 : Nat) (Option.some Jvm.ClassFile.FieldType.int)) ∈ bg := bg_m4 217 rfl rfl
theorem tw_938 : (Jvm.Cond.methodLink "FleetFloorLaw" (52 : Nat) ({ cls := "FleetFloorModel", name := "letters", desc := "()I" } : Jvm.MethodName)) ∈ bg := bg_m4 218 rfl rfl
theorem tw_939 : (Jvm.Cond.instanceMethod ({ cls := "FleetFloorModel", name := "letters", desc := "()I" } : Jvm.MethodName)) ∈ bg := bg_m4 219 rfl rfl
theorem tw_940 : (Jvm.Cond.selects "FleetFloorModel" ({ cls := "FleetFloorModel", name := "letters", desc := "()I" } : Jvm.MethodName) ({ cls := "FleetFloorModel", name := "letters", desc := "()I" } : Jvm.MethodName)) ∈ bg := bg_m4 220 rfl rfl
theorem tw_941 : (Jvm.Cond.code ({ cls := "FleetFloorModel", name := "letters", desc := "()I" } : Jvm.MethodName) prog_11_method_31_code (1 : Nat) (Option.some Jvm.ClassFile.FieldType.int)) ∈ bg := bg_m4 221 rfl rfl
theorem tw_942 : (Jvm.Cond.methodLink "FleetFloorLaw" (56 : Nat) ({ cls := "FleetFloorModel", name := "letter", desc := "(II)I" } : Jvm.MethodName)) ∈ bg := bg_m4 222 rfl rfl
theorem tw_943 : (Jvm.Cond.instanceMethod ({ cls := "FleetFloorModel", name := "letter", desc := "(II)I" } : Jvm.MethodName)) ∈ bg := bg_m4 223 rfl rfl
theorem tw_944 : (Jvm.Cond.selects "FleetFloorModel" ({ cls := "FleetFloorModel", name := "letter", desc := "(II)I" } : Jvm.MethodName) ({ cls := "FleetFloorModel", name := "letter", desc := "(II)I" } : Jvm.MethodName)) ∈ bg := bg_m4 224 rfl rfl
theorem tw_945 : (Jvm.Cond.code ({ cls := "FleetFloorModel", name := "letter", desc := "(II)I" } : Jvm.MethodName) prog_11_method_33_code (3 : Nat) (Option.some Jvm.ClassFile.FieldType.int)) ∈ bg := bg_m4 225 rfl rfl
theorem tw_946 : (Jvm.Cond.methodLink "FleetFloorModel" (218 : Nat) ({ cls := "FleetFloorModel", name := "isLetter", desc := "(I)Z" } : Jvm.MethodName)) ∈ bg := bg_m4 226 rfl rfl
theorem tx_947 : (Jvm.Cond.privateMethod ({ cls := "FleetFloorModel", name := "isLetter", desc := "(I)Z" } : Jvm.MethodName)) ∈ lw_tbl := tb_m4 227 rfl
theorem tw_948 : (Jvm.Cond.instanceMethod ({ cls := "FleetFloorModel", name := "isLetter", desc := "(I)Z" } : Jvm.MethodName)) ∈ bg := bg_m4 228 rfl rfl
theorem tw_949 : (Jvm.Cond.code ({ cls := "FleetFloorModel", name := "isLetter", desc := "(I)Z" } : Jvm.MethodName) prog_11_method_32_code (2 : Nat) (Option.some Jvm.ClassFile.FieldType.boolean)) ∈ bg := bg_m4 229 rfl rfl
theorem tw_950 : (Jvm.Cond.methodLink "FleetFloorLaw" (61 : Nat) ({ cls := "FleetFloorModel", name := "deliver", desc := "(I)Z" } : Jvm.MethodName)) ∈ bg := bg_m4 230 rfl rfl
theorem tw_951 : (Jvm.Cond.instanceMethod ({ cls := "FleetFloorModel", name := "deliver", desc := "(I)Z" } : Jvm.MethodName)) ∈ bg := bg_m4 231 rfl rfl
theorem tw_952 : (Jvm.Cond.selects "FleetFloorModel" ({ cls := "FleetFloorModel", name := "deliver", desc := "(I)Z" } : Jvm.MethodName) ({ cls := "FleetFloorModel", name := "deliver", desc := "(I)Z" } : Jvm.MethodName)) ∈ bg := bg_m4 232 rfl rfl
theorem tw_953 : (Jvm.Cond.code ({ cls := "FleetFloorModel", name := "deliver", desc := "(I)Z" } : Jvm.MethodName) prog_11_method_35_code (4 : Nat) (Option.some Jvm.ClassFile.FieldType.boolean)) ∈ bg := bg_m4 233 rfl rfl
theorem tw_954 : (Jvm.Cond.methodLink "FleetFloorModel" (221 : Nat) ({ cls := "FleetFloorModel", name := "remove", desc := "(I)V" } : Jvm.MethodName)) ∈ bg := bg_m4 234 rfl rfl
theorem tx_955 : (Jvm.Cond.privateMethod ({ cls := "FleetFloorModel", name := "remove", desc := "(I)V" } : Jvm.MethodName)) ∈ lw_tbl := tb_m4 235 rfl
theorem tw_956 : (Jvm.Cond.instanceMethod ({ cls := "FleetFloorModel", name := "remove", desc := "(I)V" } : Jvm.MethodName)) ∈ bg := bg_m4 236 rfl rfl
theorem tw_957 : (Jvm.Cond.code ({ cls := "FleetFloorModel", name := "remove", desc := "(I)V" } : Jvm.MethodName) prog_11_method_34_code (3 : Nat) (Option.none : Option Jvm.ClassFile.FieldType)) ∈ bg := bg_m4 237 rfl rfl
theorem tw_958 : (Jvm.Cond.methodLink "FleetFloorLaw" (65 : Nat) ({ cls := "FleetFloorModel", name := "lose", desc := "(I)Z" } : Jvm.MethodName)) ∈ bg := bg_m4 238 rfl rfl
theorem tw_959 : (Jvm.Cond.instanceMethod ({ cls := "FleetFloorModel", name := "lose", desc := "(I)Z" } : Jvm.MethodName)) ∈ bg := bg_m4 239 rfl rfl
theorem tw_960 : (Jvm.Cond.selects "FleetFloorModel" ({ cls := "FleetFloorModel", name := "lose", desc := "(I)Z" } : Jvm.MethodName) ({ cls := "FleetFloorModel", name := "lose", desc := "(I)Z" } : Jvm.MethodName)) ∈ bg := bg_m5 0 rfl rfl
theorem tw_961 : (Jvm.Cond.code ({ cls := "FleetFloorModel", name := "lose", desc := "(I)Z" } : Jvm.MethodName) prog_11_method_36_code (2 : Nat) (Option.some Jvm.ClassFile.FieldType.boolean)) ∈ bg := bg_m5 1 rfl rfl
theorem tw_962 : (Jvm.Cond.methodLink "FleetFloorLaw" (69 : Nat) ({ cls := "FleetFloorModel", name := "twin", desc := "(I)Z" } : Jvm.MethodName)) ∈ bg := bg_m5 2 rfl rfl
theorem tw_963 : (Jvm.Cond.instanceMethod ({ cls := "FleetFloorModel", name := "twin", desc := "(I)Z" } : Jvm.MethodName)) ∈ bg := bg_m5 3 rfl rfl
theorem tw_964 : (Jvm.Cond.selects "FleetFloorModel" ({ cls := "FleetFloorModel", name := "twin", desc := "(I)Z" } : Jvm.MethodName) ({ cls := "FleetFloorModel", name := "twin", desc := "(I)Z" } : Jvm.MethodName)) ∈ bg := bg_m5 4 rfl rfl
theorem tw_965 : (Jvm.Cond.code ({ cls := "FleetFloorModel", name := "twin", desc := "(I)Z" } : Jvm.MethodName) prog_11_method_37_code (2 : Nat) (Option.some Jvm.ClassFile.FieldType.boolean)) ∈ bg := bg_m5 5 rfl rfl
theorem tw_966 : (Jvm.Cond.methodLink "FleetFloorModel" (208 : Nat) ({ cls := "FleetFloorModel", name := "send", desc := "(III)V" } : Jvm.MethodName)) ∈ bg := bg_m5 6 rfl rfl
theorem tx_967 : (Jvm.Cond.privateMethod ({ cls := "FleetFloorModel", name := "send", desc := "(III)V" } : Jvm.MethodName)) ∈ lw_tbl := tb_m5 7 rfl
theorem tw_968 : (Jvm.Cond.instanceMethod ({ cls := "FleetFloorModel", name := "send", desc := "(III)V" } : Jvm.MethodName)) ∈ bg := bg_m5 8 rfl rfl
theorem tw_969 : (Jvm.Cond.code ({ cls := "FleetFloorModel", name := "send", desc := "(III)V" } : Jvm.MethodName) prog_11_method_30_code (4 : Nat) (Option.none : Option Jvm.ClassFile.FieldType)) ∈ bg := bg_m5 9 rfl rfl
theorem tw_970 : (Jvm.Cond.methodLink "FleetFloorLaw" (48 : Nat) ({ cls := "FleetFloorModel", name := "tick", desc := "()I" } : Jvm.MethodName)) ∈ bg := bg_m5 10 rfl rfl
theorem tw_971 : (Jvm.Cond.instanceMethod ({ cls := "FleetFloorModel", name := "tick", desc := "()I" } : Jvm.MethodName)) ∈ bg := bg_m5 11 rfl rfl
theorem tw_972 : (Jvm.Cond.selects "FleetFloorModel" ({ cls := "FleetFloorModel", name := "tick", desc := "()I" } : Jvm.MethodName) ({ cls := "FleetFloorModel", name := "tick", desc := "()I" } : Jvm.MethodName)) ∈ bg := bg_m5 12 rfl rfl
theorem tw_973 : (Jvm.Cond.code ({ cls := "FleetFloorModel", name := "tick", desc := "()I" } : Jvm.MethodName) prog_11_method_39_code (4 : Nat) (Option.some Jvm.ClassFile.FieldType.int)) ∈ bg := bg_m5 13 rfl rfl
theorem tw_974 : (Jvm.Cond.methodLink "FleetFloorModel" (224 : Nat) ({ cls := "FleetFloorModel", name := "go", desc := "(I)V" } : Jvm.MethodName)) ∈ bg := bg_m5 14 rfl rfl
theorem tx_975 : (Jvm.Cond.privateMethod ({ cls := "FleetFloorModel", name := "go", desc := "(I)V" } : Jvm.MethodName)) ∈ lw_tbl := tb_m5 15 rfl
theorem tw_976 : (Jvm.Cond.instanceMethod ({ cls := "FleetFloorModel", name := "go", desc := "(I)V" } : Jvm.MethodName)) ∈ bg := bg_m5 16 rfl rfl
theorem tw_977 : (Jvm.Cond.code ({ cls := "FleetFloorModel", name := "go", desc := "(I)V" } : Jvm.MethodName) prog_11_method_38_code (3 : Nat) (Option.none : Option Jvm.ClassFile.FieldType)) ∈ bg := bg_m5 17 rfl rfl
theorem tw_978 : (Jvm.Cond.methodLink "FleetFloorModel" (139 : Nat) ({ cls := "FleetFloorModel", name := "placeOf", desc := "(II)I" } : Jvm.MethodName)) ∈ bg := bg_m5 18 rfl rfl
theorem tx_979 : (Jvm.Cond.privateMethod ({ cls := "FleetFloorModel", name := "placeOf", desc := "(II)I" } : Jvm.MethodName)) ∈ lw_tbl := tb_m5 19 rfl
theorem tw_980 : (Jvm.Cond.instanceMethod ({ cls := "FleetFloorModel", name := "placeOf", desc := "(II)I" } : Jvm.MethodName)) ∈ bg := bg_m5 20 rfl rfl
theorem tw_981 : (Jvm.Cond.code ({ cls := "FleetFloorModel", name := "placeOf", desc := "(II)I" } : Jvm.MethodName) prog_11_method_11_code (4 : Nat) (Option.some Jvm.ClassFile.FieldType.int)) ∈ bg := bg_m5 21 rfl rfl
theorem tw_982 : (Jvm.Cond.methodLink "FleetFloorModel" (205 : Nat) ({ cls := "FleetFloorModel", name := "isTurn", desc := "(I)Z" } : Jvm.MethodName)) ∈ bg := bg_m5 22 rfl rfl
theorem tx_983 : (Jvm.Cond.privateMethod ({ cls := "FleetFloorModel", name := "isTurn", desc := "(I)Z" } : Jvm.MethodName)) ∈ lw_tbl := tb_m5 23 rfl
theorem tw_984 : (Jvm.Cond.instanceMethod ({ cls := "FleetFloorModel", name := "isTurn", desc := "(I)Z" } : Jvm.MethodName)) ∈ bg := bg_m5 24 rfl rfl
theorem tw_985 : (Jvm.Cond.code ({ cls := "FleetFloorModel", name := "isTurn", desc := "(I)Z" } : Jvm.MethodName) prog_11_method_29_code (2 : Nat) (Option.some Jvm.ClassFile.FieldType.boolean)) ∈ bg := bg_m5 25 rfl rfl
theorem tw_986 : (Jvm.Cond.methodLink "FleetFloorModel" (227 : Nat) ({ cls := "FleetFloorModel", name := "planAll", desc := "()V" } : Jvm.MethodName)) ∈ bg := bg_m5 26 rfl rfl
theorem tx_987 : (Jvm.Cond.privateMethod ({ cls := "FleetFloorModel", name := "planAll", desc := "()V" } : Jvm.MethodName)) ∈ lw_tbl := tb_m5 27 rfl
theorem tw_988 : (Jvm.Cond.instanceMethod ({ cls := "FleetFloorModel", name := "planAll", desc := "()V" } : Jvm.MethodName)) ∈ bg := bg_m5 28 rfl rfl
theorem tw_989 : (Jvm.Cond.code ({ cls := "FleetFloorModel", name := "planAll", desc := "()V" } : Jvm.MethodName) prog_11_method_26_code (3 : Nat) (Option.none : Option Jvm.ClassFile.FieldType)) ∈ bg := bg_m5 29 rfl rfl
theorem tw_990 : (Jvm.Cond.methodLink "FleetFloorModel" (194 : Nat) ({ cls := "FleetFloorModel", name := "idle", desc := "()I" } : Jvm.MethodName)) ∈ bg := bg_m5 30 rfl rfl
theorem tx_991 : (Jvm.Cond.privateMethod ({ cls := "FleetFloorModel", name := "idle", desc := "()I" } : Jvm.MethodName)) ∈ lw_tbl := tb_m5 31 rfl
theorem tw_992 : (Jvm.Cond.instanceMethod ({ cls := "FleetFloorModel", name := "idle", desc := "()I" } : Jvm.MethodName)) ∈ bg := bg_m5 32 rfl rfl
theorem tw_993 : (Jvm.Cond.code ({ cls := "FleetFloorModel", name := "idle", desc := "()I" } : Jvm.MethodName) prog_11_method_25_code (2 : Nat) (Option.some Jvm.ClassFile.FieldType.int)) ∈ bg := bg_m5 33 rfl rfl
theorem tw_994 : (Jvm.Cond.methodLink "FleetFloorModel" (198 : Nat) ({ cls := "FleetFloorModel", name := "plans", desc := "(II)Z" } : Jvm.MethodName)) ∈ bg := bg_m5 34 rfl rfl
theorem tx_995 : (Jvm.Cond.privateMethod ({ cls := "FleetFloorModel", name := "plans", desc := "(II)Z" } : Jvm.MethodName)) ∈ lw_tbl := tb_m5 35 rfl
theorem tw_996 : (Jvm.Cond.instanceMethod ({ cls := "FleetFloorModel", name := "plans", desc := "(II)Z" } : Jvm.MethodName)) ∈ bg := bg_m5 36 rfl rfl
theorem tw_997 : (Jvm.Cond.code ({ cls := "FleetFloorModel", name := "plans", desc := "(II)Z" } : Jvm.MethodName) prog_11_method_24_code (4 : Nat) (Option.some Jvm.ClassFile.FieldType.boolean)) ∈ bg := bg_m5 37 rfl rfl
theorem tw_998 : (Jvm.Cond.methodLink "FleetFloorModel" (180 : Nat) ({ cls := "FleetFloorModel", name := "forbidAll", desc := "()V" } : Jvm.MethodName)) ∈ bg := bg_m5 38 rfl rfl
theorem tx_999 : (Jvm.Cond.privateMethod ({ cls := "FleetFloorModel", name := "forbidAll", desc := "()V" } : Jvm.MethodName)) ∈ lw_tbl := tb_m5 39 rfl
theorem tw_1000 : (Jvm.Cond.instanceMethod ({ cls := "FleetFloorModel", name := "forbidAll", desc := "()V" } : Jvm.MethodName)) ∈ bg := bg_m5 40 rfl rfl
theorem tw_1001 : (Jvm.Cond.code ({ cls := "FleetFloorModel", name := "forbidAll", desc := "()V" } : Jvm.MethodName) prog_11_method_15_code (2 : Nat) (Option.none : Option Jvm.ClassFile.FieldType)) ∈ bg := bg_m5 41 rfl rfl
theorem tw_1002 : (Jvm.Cond.methodLink "FleetFloorModel" (149 : Nat) ({ cls := "FleetFloorModel", name := "forbid", desc := "(I)V" } : Jvm.MethodName)) ∈ bg := bg_m5 42 rfl rfl
theorem tx_1003 : (Jvm.Cond.privateMethod ({ cls := "FleetFloorModel", name := "forbid", desc := "(I)V" } : Jvm.MethodName)) ∈ lw_tbl := tb_m5 43 rfl
theorem tw_1004 : (Jvm.Cond.instanceMethod ({ cls := "FleetFloorModel", name := "forbid", desc := "(I)V" } : Jvm.MethodName)) ∈ bg := bg_m5 44 rfl rfl
theorem tw_1005 : (Jvm.Cond.code ({ cls := "FleetFloorModel", name := "forbid", desc := "(I)V" } : Jvm.MethodName) prog_11_method_14_code (7 : Nat) (Option.none : Option Jvm.ClassFile.FieldType)) ∈ bg := bg_m5 45 rfl rfl
theorem tw_1006 : (Jvm.Cond.methodLink "FleetFloorModel" (142 : Nat) ({ cls := "FleetFloorModel", name := "add", desc := "([JII)V" } : Jvm.MethodName)) ∈ bg := bg_m5 46 rfl rfl
theorem tw_1007 : (Jvm.Cond.static ({ cls := "FleetFloorModel", name := "add", desc := "([JII)V" } : Jvm.MethodName)) ∈ bg := bg_m5 47 rfl rfl
theorem tw_1008 : (Jvm.Cond.code ({ cls := "FleetFloorModel", name := "add", desc := "([JII)V" } : Jvm.MethodName) prog_11_method_13_code (3 : Nat) (Option.none : Option Jvm.ClassFile.FieldType)) ∈ bg := bg_m5 48 rfl rfl
theorem tw_1009 : (Jvm.Cond.methodLink "FleetFloorModel" (183 : Nat) ({ cls := "FleetFloorModel", name := "spread", desc := "(I)I" } : Jvm.MethodName)) ∈ bg := bg_m5 49 rfl rfl
theorem tx_1010 : (Jvm.Cond.privateMethod ({ cls := "FleetFloorModel", name := "spread", desc := "(I)I" } : Jvm.MethodName)) ∈ lw_tbl := tb_m5 50 rfl
theorem tw_1011 : (Jvm.Cond.instanceMethod ({ cls := "FleetFloorModel", name := "spread", desc := "(I)I" } : Jvm.MethodName)) ∈ bg := bg_m5 51 rfl rfl
theorem tw_1012 : (Jvm.Cond.code ({ cls := "FleetFloorModel", name := "spread", desc := "(I)I" } : Jvm.MethodName) prog_11_method_19_code (6 : Nat) (Option.some Jvm.ClassFile.FieldType.int)) ∈ bg := bg_m5 52 rfl rfl
theorem tw_1013 : (Jvm.Cond.methodLink "FleetFloorModel" (156 : Nat) ({ cls := "FleetFloorModel", name := "isIn", desc := "([JII)Z" } : Jvm.MethodName)) ∈ bg := bg_m5 53 rfl rfl
theorem tw_1014 : (Jvm.Cond.static ({ cls := "FleetFloorModel", name := "isIn", desc := "([JII)Z" } : Jvm.MethodName)) ∈ bg := bg_m5 54 rfl rfl
theorem tw_1015 : (Jvm.Cond.code ({ cls := "FleetFloorModel", name := "isIn", desc := "([JII)Z" } : Jvm.MethodName) prog_11_method_12_code (3 : Nat) (Option.some Jvm.ClassFile.FieldType.boolean)) ∈ bg := bg_m5 55 rfl rfl
theorem tw_1016 : (Jvm.Cond.methodLink "FleetFloorModel" (160 : Nat) ({ cls := "FleetFloorModel", name := "spreadFrom", desc := "(IIII)V" } : Jvm.MethodName)) ∈ bg := bg_m5 56 rfl rfl
theorem tx_1017 : (Jvm.Cond.privateMethod ({ cls := "FleetFloorModel", name := "spreadFrom", desc := "(IIII)V" } : Jvm.MethodName)) ∈ lw_tbl := tb_m5 57 rfl
theorem tw_1018 : (Jvm.Cond.instanceMethod ({ cls := "FleetFloorModel", name := "spreadFrom", desc := "(IIII)V" } : Jvm.MethodName)) ∈ bg := bg_m5 58 rfl rfl
theorem tw_1019 : (Jvm.Cond.code ({ cls := "FleetFloorModel", name := "spreadFrom", desc := "(IIII)V" } : Jvm.MethodName) prog_11_method_20_code (7 : Nat) (Option.none : Option Jvm.ClassFile.FieldType)) ∈ bg := bg_m5 59 rfl rfl
theorem tw_1020 : (Jvm.Cond.methodLink "FleetFloorModel" (164 : Nat) ({ cls := "FleetFloorModel", name := "goes", desc := "(III)I" } : Jvm.MethodName)) ∈ bg := bg_m5 60 rfl rfl
theorem tx_1021 : (Jvm.Cond.privateMethod ({ cls := "FleetFloorModel", name := "goes", desc := "(III)I" } : Jvm.MethodName)) ∈ lw_tbl := tb_m5 61 rfl
theorem tw_1022 : (Jvm.Cond.instanceMethod ({ cls := "FleetFloorModel", name := "goes", desc := "(III)I" } : Jvm.MethodName)) ∈ bg := bg_m5 62 rfl rfl
theorem tw_1023 : (Jvm.Cond.code ({ cls := "FleetFloorModel", name := "goes", desc := "(III)I" } : Jvm.MethodName) prog_11_method_17_code (5 : Nat) (Option.some Jvm.ClassFile.FieldType.int)) ∈ bg := bg_m5 63 rfl rfl
theorem tw_1024 : (Jvm.Cond.methodLink "FleetFloorModel" (153 : Nat) ({ cls := "FleetFloorModel", name := "isOthers", desc := "(I)Z" } : Jvm.MethodName)) ∈ bg := bg_m5 64 rfl rfl
theorem tx_1025 : (Jvm.Cond.privateMethod ({ cls := "FleetFloorModel", name := "isOthers", desc := "(I)Z" } : Jvm.MethodName)) ∈ lw_tbl := tb_m5 65 rfl
theorem tw_1026 : (Jvm.Cond.instanceMethod ({ cls := "FleetFloorModel", name := "isOthers", desc := "(I)Z" } : Jvm.MethodName)) ∈ bg := bg_m5 66 rfl rfl
theorem tw_1027 : (Jvm.Cond.code ({ cls := "FleetFloorModel", name := "isOthers", desc := "(I)Z" } : Jvm.MethodName) prog_11_method_16_code (2 : Nat) (Option.some Jvm.ClassFile.FieldType.boolean)) ∈ bg := bg_m5 67 rfl rfl
theorem tw_1028 : (Jvm.Cond.methodLink "FleetFloorModel" (168 : Nat) ({ cls := "FleetFloorModel", name := "doneAt", desc := "(III)I" } : Jvm.MethodName)) ∈ bg := bg_m5 68 rfl rfl
theorem tx_1029 : (Jvm.Cond.privateMethod ({ cls := "FleetFloorModel", name := "doneAt", desc := "(III)I" } : Jvm.MethodName)) ∈ lw_tbl := tb_m5 69 rfl
theorem tw_1030 : (Jvm.Cond.instanceMethod ({ cls := "FleetFloorModel", name := "doneAt", desc := "(III)I" } : Jvm.MethodName)) ∈ bg := bg_m5 70 rfl rfl
theorem tw_1031 : (Jvm.Cond.code ({ cls := "FleetFloorModel", name := "doneAt", desc := "(III)I" } : Jvm.MethodName) prog_11_method_18_code (5 : Nat) (Option.some Jvm.ClassFile.FieldType.int)) ∈ bg := bg_m5 71 rfl rfl
theorem tw_1032 : (Jvm.Cond.methodLink "FleetFloorModel" (187 : Nat) ({ cls := "FleetFloorModel", name := "narrow", desc := "(II)V" } : Jvm.MethodName)) ∈ bg := bg_m5 72 rfl rfl
theorem tx_1033 : (Jvm.Cond.privateMethod ({ cls := "FleetFloorModel", name := "narrow", desc := "(II)V" } : Jvm.MethodName)) ∈ lw_tbl := tb_m5 73 rfl
theorem tw_1034 : (Jvm.Cond.instanceMethod ({ cls := "FleetFloorModel", name := "narrow", desc := "(II)V" } : Jvm.MethodName)) ∈ bg := bg_m5 74 rfl rfl
theorem tw_1035 : (Jvm.Cond.code ({ cls := "FleetFloorModel", name := "narrow", desc := "(II)V" } : Jvm.MethodName) prog_11_method_22_code (6 : Nat) (Option.none : Option Jvm.ClassFile.FieldType)) ∈ bg := bg_m5 75 rfl rfl
theorem tw_1036 : (Jvm.Cond.methodLink "FleetFloorModel" (171 : Nat) ({ cls := "FleetFloorModel", name := "lowest", desc := "(IIII)I" } : Jvm.MethodName)) ∈ bg := bg_m5 76 rfl rfl
theorem tx_1037 : (Jvm.Cond.privateMethod ({ cls := "FleetFloorModel", name := "lowest", desc := "(IIII)I" } : Jvm.MethodName)) ∈ lw_tbl := tb_m5 77 rfl
theorem tw_1038 : (Jvm.Cond.instanceMethod ({ cls := "FleetFloorModel", name := "lowest", desc := "(IIII)I" } : Jvm.MethodName)) ∈ bg := bg_m5 78 rfl rfl
theorem tw_1039 : (Jvm.Cond.code ({ cls := "FleetFloorModel", name := "lowest", desc := "(IIII)I" } : Jvm.MethodName) prog_11_method_21_code (7 : Nat) (Option.some Jvm.ClassFile.FieldType.int)) ∈ bg := bg_m5 79 rfl rfl
theorem tw_1040 : (Jvm.Cond.constantLong "FleetFloorModel" (175 : Nat) (-1 : Int64)) ∈ bg := bg_m5 80 rfl rfl
theorem tw_1041 : (Jvm.Cond.methodLink "FleetFloorModel" (191 : Nat) ({ cls := "FleetFloorModel", name := "take", desc := "(II)V" } : Jvm.MethodName)) ∈ bg := bg_m5 81 rfl rfl
theorem tx_1042 : (Jvm.Cond.privateMethod ({ cls := "FleetFloorModel", name := "take", desc := "(II)V" } : Jvm.MethodName)) ∈ lw_tbl := tb_m5 82 rfl
theorem tw_1043 : (Jvm.Cond.instanceMethod ({ cls := "FleetFloorModel", name := "take", desc := "(II)V" } : Jvm.MethodName)) ∈ bg := bg_m5 83 rfl rfl
theorem tw_1044 : (Jvm.Cond.code ({ cls := "FleetFloorModel", name := "take", desc := "(II)V" } : Jvm.MethodName) prog_11_method_23_code (8 : Nat) (Option.none : Option Jvm.ClassFile.FieldType)) ∈ bg := bg_m5 84 rfl rfl
theorem tw_1045 : (Jvm.Cond.methodLink "FleetFloorModel" (230 : Nat) ({ cls := "FleetFloorModel", name := "grant", desc := "(I)V" } : Jvm.MethodName)) ∈ bg := bg_m5 85 rfl rfl
theorem tx_1046 : (Jvm.Cond.privateMethod ({ cls := "FleetFloorModel", name := "grant", desc := "(I)V" } : Jvm.MethodName)) ∈ lw_tbl := tb_m5 86 rfl
theorem tw_1047 : (Jvm.Cond.instanceMethod ({ cls := "FleetFloorModel", name := "grant", desc := "(I)V" } : Jvm.MethodName)) ∈ bg := bg_m5 87 rfl rfl
theorem tw_1048 : (Jvm.Cond.code ({ cls := "FleetFloorModel", name := "grant", desc := "(I)V" } : Jvm.MethodName) prog_11_method_28_code (5 : Nat) (Option.none : Option Jvm.ClassFile.FieldType)) ∈ bg := bg_m5 88 rfl rfl
theorem tw_1049 : (Jvm.Cond.methodLink "FleetFloorModel" (202 : Nat) ({ cls := "FleetFloorModel", name := "isFree", desc := "(III)Z" } : Jvm.MethodName)) ∈ bg := bg_m5 89 rfl rfl
theorem tx_1050 : (Jvm.Cond.privateMethod ({ cls := "FleetFloorModel", name := "isFree", desc := "(III)Z" } : Jvm.MethodName)) ∈ lw_tbl := tb_m5 90 rfl
theorem tw_1051 : (Jvm.Cond.instanceMethod ({ cls := "FleetFloorModel", name := "isFree", desc := "(III)Z" } : Jvm.MethodName)) ∈ bg := bg_m5 91 rfl rfl
theorem tw_1052 : (Jvm.Cond.code ({ cls := "FleetFloorModel", name := "isFree", desc := "(III)Z" } : Jvm.MethodName) prog_11_method_27_code (8 : Nat) (Option.some Jvm.ClassFile.FieldType.boolean)) ∈ bg := bg_m5 92 rfl rfl
theorem tw_1053 : (Jvm.Cond.methodLink "FleetFloorLaw" (73 : Nat) ({ cls := "FleetFloorModel", name := "vehicle", desc := "(II)I" } : Jvm.MethodName)) ∈ bg := bg_m5 93 rfl rfl
theorem tw_1054 : (Jvm.Cond.instanceMethod ({ cls := "FleetFloorModel", name := "vehicle", desc := "(II)I" } : Jvm.MethodName)) ∈ bg := bg_m5 94 rfl rfl
theorem tw_1055 : (Jvm.Cond.selects "FleetFloorModel" ({ cls := "FleetFloorModel", name := "vehicle", desc := "(II)I" } : Jvm.MethodName) ({ cls := "FleetFloorModel", name := "vehicle", desc := "(II)I" } : Jvm.MethodName)) ∈ bg := bg_m5 95 rfl rfl
theorem tw_1056 : (Jvm.Cond.code ({ cls := "FleetFloorModel", name := "vehicle", desc := "(II)I" } : Jvm.MethodName) prog_11_method_40_code (3 : Nat) (Option.some Jvm.ClassFile.FieldType.int)) ∈ bg := bg_m5 96 rfl rfl
theorem tw_1057 : (Jvm.Cond.methodLink "FleetFloorLaw" (78 : Nat) ({ cls := "FleetFloorModel", name := "move", desc := "(III)I" } : Jvm.MethodName)) ∈ bg := bg_m5 97 rfl rfl
theorem tw_1058 : (Jvm.Cond.instanceMethod ({ cls := "FleetFloorModel", name := "move", desc := "(III)I" } : Jvm.MethodName)) ∈ bg := bg_m5 98 rfl rfl
theorem tw_1059 : (Jvm.Cond.selects "FleetFloorModel" ({ cls := "FleetFloorModel", name := "move", desc := "(III)I" } : Jvm.MethodName) ({ cls := "FleetFloorModel", name := "move", desc := "(III)I" } : Jvm.MethodName)) ∈ bg := bg_m5 99 rfl rfl
theorem tw_1060 : (Jvm.Cond.code ({ cls := "FleetFloorModel", name := "move", desc := "(III)I" } : Jvm.MethodName) prog_11_method_41_code (5 : Nat) (Option.some Jvm.ClassFile.FieldType.int)) ∈ bg := bg_m5 100 rfl rfl
theorem tw_1061 : (Jvm.Cond.methodLink "FleetFloorLaw" (82 : Nat) ({ cls := "FleetFloorModel", name := "taskOf", desc := "(II)I" } : Jvm.MethodName)) ∈ bg := bg_m5 101 rfl rfl
theorem tw_1062 : (Jvm.Cond.instanceMethod ({ cls := "FleetFloorModel", name := "taskOf", desc := "(II)I" } : Jvm.MethodName)) ∈ bg := bg_m5 102 rfl rfl
theorem tw_1063 : (Jvm.Cond.selects "FleetFloorModel" ({ cls := "FleetFloorModel", name := "taskOf", desc := "(II)I" } : Jvm.MethodName) ({ cls := "FleetFloorModel", name := "taskOf", desc := "(II)I" } : Jvm.MethodName)) ∈ bg := bg_m5 103 rfl rfl
theorem tw_1064 : (Jvm.Cond.code ({ cls := "FleetFloorModel", name := "taskOf", desc := "(II)I" } : Jvm.MethodName) prog_11_method_42_code (3 : Nat) (Option.some Jvm.ClassFile.FieldType.int)) ∈ bg := bg_m5 104 rfl rfl
theorem tw_1065 : (Jvm.Cond.methodLink "FleetFloorLaw" (87 : Nat) ({ cls := "FleetFloorModel", name := "count", desc := "(I)I" } : Jvm.MethodName)) ∈ bg := bg_m5 105 rfl rfl
theorem tw_1066 : (Jvm.Cond.instanceMethod ({ cls := "FleetFloorModel", name := "count", desc := "(I)I" } : Jvm.MethodName)) ∈ bg := bg_m5 106 rfl rfl
theorem tw_1067 : (Jvm.Cond.selects "FleetFloorModel" ({ cls := "FleetFloorModel", name := "count", desc := "(I)I" } : Jvm.MethodName) ({ cls := "FleetFloorModel", name := "count", desc := "(I)I" } : Jvm.MethodName)) ∈ bg := bg_m5 107 rfl rfl
theorem tw_1068 : (Jvm.Cond.code ({ cls := "FleetFloorModel", name := "count", desc := "(I)I" } : Jvm.MethodName) prog_11_method_43_code (2 : Nat) (Option.some Jvm.ClassFile.FieldType.int)) ∈ bg := bg_m5 108 rfl rfl
theorem tw_1069 : (Jvm.Cond.sameMethod "java/lang/Throwable" "java/lang/Throwable" "fillInStackTrace" "(I)Ljava/lang/Throwable;") ∈ bg := bg_m5 109 rfl rfl
theorem tx_1070 : (Jvm.Cond.castable "FleetFloor$Letter" "FleetFloor$Letter") ∈ lw_tbl := tb_m5 110 rfl
theorem tx_1071 : (Jvm.Cond.castable "FleetFloor$Move" "FleetFloor$Move") ∈ lw_tbl := tb_m5 111 rfl
theorem tx_1072 : (Jvm.Cond.castable "FleetFloor$Task" "FleetFloor$Task") ∈ lw_tbl := tb_m5 112 rfl
theorem tw_1073 : (Jvm.Cond.sameMethod "[Ljava/lang/Object;" "java/lang/Object" "getClass" "()Ljava/lang/Class;") ∈ bg := bg_m5 113 rfl rfl
theorem tw_1074 : (Jvm.Cond.selects "[Ljava/lang/Object;" ({ cls := "java/lang/Object", name := "getClass", desc := "()Ljava/lang/Class;" } : Jvm.MethodName) ({ cls := "java/lang/Object", name := "getClass", desc := "()Ljava/lang/Class;" } : Jvm.MethodName)) ∈ bg := bg_m5 114 rfl rfl
theorem tx_1075 : (Jvm.Cond.declares ({ cls := "java/lang/Object", name := "getClass", desc := "()Ljava/lang/Class;" } : Jvm.MethodName)) ∈ lw_tbl := tb_m5 115 rfl
theorem tx_1076 : (Jvm.Cond.castable "FleetFloor" "java/lang/Object") ∈ lw_tbl := tb_m5 116 rfl
theorem tx_1077 : (Jvm.Cond.castable "FleetFloor$FloorMap" "java/lang/Object") ∈ lw_tbl := tb_m5 117 rfl
theorem tx_1078 : (Jvm.Cond.castable "FleetFloor$Air" "java/lang/Object") ∈ lw_tbl := tb_m5 118 rfl
theorem tx_1079 : (Jvm.Cond.castable "FleetFloorModel" "java/lang/Object") ∈ lw_tbl := tb_m5 119 rfl
theorem tx_1080 : (Jvm.Cond.castable "FleetFloor$Cells" "java/lang/Object") ∈ lw_tbl := tb_m5 120 rfl
theorem tx_1081 : (Jvm.Cond.castable "FleetFloor$Vehicle" "java/lang/Object") ∈ lw_tbl := tb_m5 121 rfl
theorem tx_1082 : (Jvm.Cond.castable "FleetFloor$Planner" "java/lang/Object") ∈ lw_tbl := tb_m5 122 rfl
theorem tx_1083 : (Jvm.Cond.castable "FleetFloor$Task" "java/lang/Object") ∈ lw_tbl := tb_m5 123 rfl
theorem tx_1084 : (Jvm.Cond.castable "FleetFloor$Letter" "java/lang/Object") ∈ lw_tbl := tb_m5 124 rfl
theorem tx_1085 : (Jvm.Cond.castable "FleetFloor$Move" "java/lang/Object") ∈ lw_tbl := tb_m5 125 rfl
theorem tx_1086 : (Jvm.Cond.castable "java/lang/String" "java/lang/Object") ∈ lw_tbl := tb_m5 126 rfl
theorem ts_0 : Cond.selects "FleetFloor" ⟨"FleetFloor", "isOpen", "()Z"⟩ ⟨"FleetFloor", "isOpen", "()Z"⟩ ∈ bg := bg_s 0 rfl rfl
theorem ts_1 : Cond.selects "FleetFloor" ⟨"FleetFloor", "vehicleNumbered", "(I)LFleetFloor$Vehicle;"⟩ ⟨"FleetFloor", "vehicleNumbered", "(I)LFleetFloor$Vehicle;"⟩ ∈ bg := bg_s 1 rfl rfl
theorem ts_2 : Cond.selects "java/util/ArrayList" ⟨"java/util/ArrayList", "fastRemove", "([Ljava/lang/Object;I)V"⟩ ⟨"java/util/ArrayList", "fastRemove", "([Ljava/lang/Object;I)V"⟩ ∈ bg := bg_s 2 rfl rfl
theorem ts_3 : Cond.selects "java/util/ArrayList" ⟨"java/util/ArrayList", "add", "(Ljava/lang/Object;[Ljava/lang/Object;I)V"⟩ ⟨"java/util/ArrayList", "add", "(Ljava/lang/Object;[Ljava/lang/Object;I)V"⟩ ∈ bg := bg_s 3 rfl rfl
theorem ts_4 : Cond.selects "java/util/ArrayList" ⟨"java/util/ArrayList", "grow", "()[Ljava/lang/Object;"⟩ ⟨"java/util/ArrayList", "grow", "()[Ljava/lang/Object;"⟩ ∈ bg := bg_s 4 rfl rfl
theorem ts_5 : Cond.selects "java/util/ArrayList" ⟨"java/util/ArrayList", "grow", "(I)[Ljava/lang/Object;"⟩ ⟨"java/util/ArrayList", "grow", "(I)[Ljava/lang/Object;"⟩ ∈ bg := bg_s 5 rfl rfl
theorem ts_6 : Cond.selects "java/lang/Throwable" ⟨"java/lang/Throwable", "fillInStackTrace", "(I)Ljava/lang/Throwable;"⟩ ⟨"java/lang/Throwable", "fillInStackTrace", "(I)Ljava/lang/Throwable;"⟩ ∈ bg := bg_s 6 rfl rfl
theorem ts_7 : Cond.selects "FleetFloor$FloorMap" ⟨"FleetFloor$FloorMap", "countOf", "(I)I"⟩ ⟨"FleetFloor$FloorMap", "countOf", "(I)I"⟩ ∈ bg := bg_s 7 rfl rfl
theorem ts_8 : Cond.selects "FleetFloor$FloorMap" ⟨"FleetFloor$FloorMap", "isJoined", "()Z"⟩ ⟨"FleetFloor$FloorMap", "isJoined", "()Z"⟩ ∈ bg := bg_s 8 rfl rfl
theorem ts_9 : Cond.selects "FleetFloor" ⟨"FleetFloor", "isStation", "(I)Z"⟩ ⟨"FleetFloor", "isStation", "(I)Z"⟩ ∈ bg := bg_s 9 rfl rfl
theorem ts_10 : Cond.selects "FleetFloor" ⟨"FleetFloor", "makeMoves", "()I"⟩ ⟨"FleetFloor", "makeMoves", "()I"⟩ ∈ bg := bg_s 10 rfl rfl
theorem ts_11 : Cond.selects "FleetFloor" ⟨"FleetFloor", "noteFinish", "(LFleetFloor$Vehicle;)V"⟩ ⟨"FleetFloor", "noteFinish", "(LFleetFloor$Vehicle;)V"⟩ ∈ bg := bg_s 11 rfl rfl
theorem ts_12 : Cond.selects "FleetFloor" ⟨"FleetFloor", "sendDones", "()V"⟩ ⟨"FleetFloor", "sendDones", "()V"⟩ ∈ bg := bg_s 12 rfl rfl
theorem ts_13 : Cond.selects "FleetFloor" ⟨"FleetFloor", "reportsNow", "(LFleetFloor$Vehicle;)Z"⟩ ⟨"FleetFloor", "reportsNow", "(LFleetFloor$Vehicle;)Z"⟩ ∈ bg := bg_s 13 rfl rfl
theorem ts_14 : Cond.selects "FleetFloor" ⟨"FleetFloor", "makePlans", "()V"⟩ ⟨"FleetFloor", "makePlans", "()V"⟩ ∈ bg := bg_s 14 rfl rfl
theorem ts_15 : Cond.selects "FleetFloor" ⟨"FleetFloor", "lowestIdle", "()LFleetFloor$Vehicle;"⟩ ⟨"FleetFloor", "lowestIdle", "()LFleetFloor$Vehicle;"⟩ ∈ bg := bg_s 15 rfl rfl
theorem ts_16 : Cond.selects "FleetFloor$Planner" ⟨"FleetFloor$Planner", "layOut", "(LFleetFloor$Vehicle;I)V"⟩ ⟨"FleetFloor$Planner", "layOut", "(LFleetFloor$Vehicle;I)V"⟩ ∈ bg := bg_s 16 rfl rfl
theorem ts_17 : Cond.selects "FleetFloor$Planner" ⟨"FleetFloor$Planner", "keepClearOf", "(LFleetFloor$Vehicle;I)V"⟩ ⟨"FleetFloor$Planner", "keepClearOf", "(LFleetFloor$Vehicle;I)V"⟩ ∈ bg := bg_s 17 rfl rfl
theorem ts_18 : Cond.selects "FleetFloor$Planner" ⟨"FleetFloor$Planner", "spread", "()I"⟩ ⟨"FleetFloor$Planner", "spread", "()I"⟩ ∈ bg := bg_s 18 rfl rfl
theorem ts_19 : Cond.selects "FleetFloor$Planner" ⟨"FleetFloor$Planner", "at", "(II)LFleetFloor$Cells;"⟩ ⟨"FleetFloor$Planner", "at", "(II)LFleetFloor$Cells;"⟩ ∈ bg := bg_s 19 rfl rfl
theorem ts_20 : Cond.selects "FleetFloor$Planner" ⟨"FleetFloor$Planner", "stepOn", "(II)V"⟩ ⟨"FleetFloor$Planner", "stepOn", "(II)V"⟩ ∈ bg := bg_s 20 rfl rfl
theorem ts_21 : Cond.selects "FleetFloor$Planner" ⟨"FleetFloor$Planner", "changeLeg", "(II)V"⟩ ⟨"FleetFloor$Planner", "changeLeg", "(II)V"⟩ ∈ bg := bg_s 21 rfl rfl
theorem ts_22 : Cond.selects "FleetFloor$Planner" ⟨"FleetFloor$Planner", "goalOf", "(I)I"⟩ ⟨"FleetFloor$Planner", "goalOf", "(I)I"⟩ ∈ bg := bg_s 22 rfl rfl
theorem ts_23 : Cond.selects "FleetFloor$Planner" ⟨"FleetFloor$Planner", "prune", "()V"⟩ ⟨"FleetFloor$Planner", "prune", "()V"⟩ ∈ bg := bg_s 23 rfl rfl
theorem ts_24 : Cond.selects "FleetFloor$Planner" ⟨"FleetFloor$Planner", "keepThoseBefore", "(II)V"⟩ ⟨"FleetFloor$Planner", "keepThoseBefore", "(II)V"⟩ ∈ bg := bg_s 24 rfl rfl
theorem ts_25 : Cond.selects "FleetFloor$Planner" ⟨"FleetFloor$Planner", "follow", "()V"⟩ ⟨"FleetFloor$Planner", "follow", "()V"⟩ ∈ bg := bg_s 25 rfl rfl
theorem ts_26 : Cond.selects "FleetFloor$Planner" ⟨"FleetFloor$Planner", "lowestStep", "(III)I"⟩ ⟨"FleetFloor$Planner", "lowestStep", "(III)I"⟩ ∈ bg := bg_s 26 rfl rfl
theorem ts_27 : Cond.selects "FleetFloor$Planner" ⟨"FleetFloor$Planner", "legAt", "(II)I"⟩ ⟨"FleetFloor$Planner", "legAt", "(II)I"⟩ ∈ bg := bg_s 27 rfl rfl
theorem ts_28 : Cond.selects "FleetFloor" ⟨"FleetFloor", "grantMoves", "()V"⟩ ⟨"FleetFloor", "grantMoves", "()V"⟩ ∈ bg := bg_s 28 rfl rfl
theorem ts_29 : Cond.selects "FleetFloor" ⟨"FleetFloor", "isFree", "(LFleetFloor$Vehicle;LFleetFloor$Move;)Z"⟩ ⟨"FleetFloor", "isFree", "(LFleetFloor$Vehicle;LFleetFloor$Move;)Z"⟩ ∈ bg := bg_s 29 rfl rfl
theorem ts_30 : Cond.selects "FleetFloorModel" ⟨"FleetFloorModel", "isGood", "()Z"⟩ ⟨"FleetFloorModel", "isGood", "()Z"⟩ ∈ bg := bg_s 30 rfl rfl
theorem ts_31 : Cond.selects "FleetFloorModel" ⟨"FleetFloorModel", "leadsToAll", "(I)Z"⟩ ⟨"FleetFloorModel", "leadsToAll", "(I)Z"⟩ ∈ bg := bg_s 31 rfl rfl
theorem ts_32 : Cond.selects "FleetFloorModel" ⟨"FleetFloorModel", "throwing", "(ZZ)Z"⟩ ⟨"FleetFloorModel", "throwing", "(ZZ)Z"⟩ ∈ bg := bg_s 32 rfl rfl
theorem ts_33 : Cond.selects "FleetFloorModel" ⟨"FleetFloorModel", "isLetter", "(I)Z"⟩ ⟨"FleetFloorModel", "isLetter", "(I)Z"⟩ ∈ bg := bg_s 33 rfl rfl
theorem ts_34 : Cond.selects "FleetFloorModel" ⟨"FleetFloorModel", "remove", "(I)V"⟩ ⟨"FleetFloorModel", "remove", "(I)V"⟩ ∈ bg := bg_s 34 rfl rfl
theorem ts_35 : Cond.selects "FleetFloorModel" ⟨"FleetFloorModel", "send", "(III)V"⟩ ⟨"FleetFloorModel", "send", "(III)V"⟩ ∈ bg := bg_s 35 rfl rfl
theorem ts_36 : Cond.selects "FleetFloorModel" ⟨"FleetFloorModel", "go", "(I)V"⟩ ⟨"FleetFloorModel", "go", "(I)V"⟩ ∈ bg := bg_s 36 rfl rfl
theorem ts_37 : Cond.selects "FleetFloorModel" ⟨"FleetFloorModel", "placeOf", "(II)I"⟩ ⟨"FleetFloorModel", "placeOf", "(II)I"⟩ ∈ bg := bg_s 37 rfl rfl
theorem ts_38 : Cond.selects "FleetFloorModel" ⟨"FleetFloorModel", "isTurn", "(I)Z"⟩ ⟨"FleetFloorModel", "isTurn", "(I)Z"⟩ ∈ bg := bg_s 38 rfl rfl
theorem ts_39 : Cond.selects "FleetFloorModel" ⟨"FleetFloorModel", "planAll", "()V"⟩ ⟨"FleetFloorModel", "planAll", "()V"⟩ ∈ bg := bg_s 39 rfl rfl
theorem ts_40 : Cond.selects "FleetFloorModel" ⟨"FleetFloorModel", "idle", "()I"⟩ ⟨"FleetFloorModel", "idle", "()I"⟩ ∈ bg := bg_s 40 rfl rfl
theorem ts_41 : Cond.selects "FleetFloorModel" ⟨"FleetFloorModel", "plans", "(II)Z"⟩ ⟨"FleetFloorModel", "plans", "(II)Z"⟩ ∈ bg := bg_s 41 rfl rfl
theorem ts_42 : Cond.selects "FleetFloorModel" ⟨"FleetFloorModel", "forbidAll", "()V"⟩ ⟨"FleetFloorModel", "forbidAll", "()V"⟩ ∈ bg := bg_s 42 rfl rfl
theorem ts_43 : Cond.selects "FleetFloorModel" ⟨"FleetFloorModel", "forbid", "(I)V"⟩ ⟨"FleetFloorModel", "forbid", "(I)V"⟩ ∈ bg := bg_s 43 rfl rfl
theorem ts_44 : Cond.selects "FleetFloorModel" ⟨"FleetFloorModel", "spread", "(I)I"⟩ ⟨"FleetFloorModel", "spread", "(I)I"⟩ ∈ bg := bg_s 44 rfl rfl
theorem ts_45 : Cond.selects "FleetFloorModel" ⟨"FleetFloorModel", "spreadFrom", "(IIII)V"⟩ ⟨"FleetFloorModel", "spreadFrom", "(IIII)V"⟩ ∈ bg := bg_s 45 rfl rfl
theorem ts_46 : Cond.selects "FleetFloorModel" ⟨"FleetFloorModel", "goes", "(III)I"⟩ ⟨"FleetFloorModel", "goes", "(III)I"⟩ ∈ bg := bg_s 46 rfl rfl
theorem ts_47 : Cond.selects "FleetFloorModel" ⟨"FleetFloorModel", "isOthers", "(I)Z"⟩ ⟨"FleetFloorModel", "isOthers", "(I)Z"⟩ ∈ bg := bg_s 47 rfl rfl
theorem ts_48 : Cond.selects "FleetFloorModel" ⟨"FleetFloorModel", "doneAt", "(III)I"⟩ ⟨"FleetFloorModel", "doneAt", "(III)I"⟩ ∈ bg := bg_s 48 rfl rfl
theorem ts_49 : Cond.selects "FleetFloorModel" ⟨"FleetFloorModel", "narrow", "(II)V"⟩ ⟨"FleetFloorModel", "narrow", "(II)V"⟩ ∈ bg := bg_s 49 rfl rfl
theorem ts_50 : Cond.selects "FleetFloorModel" ⟨"FleetFloorModel", "lowest", "(IIII)I"⟩ ⟨"FleetFloorModel", "lowest", "(IIII)I"⟩ ∈ bg := bg_s 50 rfl rfl
theorem ts_51 : Cond.selects "FleetFloorModel" ⟨"FleetFloorModel", "take", "(II)V"⟩ ⟨"FleetFloorModel", "take", "(II)V"⟩ ∈ bg := bg_s 51 rfl rfl
theorem ts_52 : Cond.selects "FleetFloorModel" ⟨"FleetFloorModel", "grant", "(I)V"⟩ ⟨"FleetFloorModel", "grant", "(I)V"⟩ ∈ bg := bg_s 52 rfl rfl
theorem ts_53 : Cond.selects "FleetFloorModel" ⟨"FleetFloorModel", "isFree", "(III)Z"⟩ ⟨"FleetFloorModel", "isFree", "(III)Z"⟩ ∈ bg := bg_s 53 rfl rfl
end
section
def T_FF : u_T := fun k => match k with
  | 0 => ("FleetFloor", "map", "LFleetFloor$FloorMap;", true)
  | 1 => ("FleetFloor", "air", "LFleetFloor$Air;", true)
  | 2 => ("FleetFloor", "tasks", "Ljava/util/ArrayList;", true)
  | 3 => ("FleetFloor", "vehicles", "[LFleetFloor$Vehicle;", false)
  | 4 => ("FleetFloor", "stations", "[I", false)
  | 5 => ("FleetFloor", "planner", "LFleetFloor$Planner;", false)
  | 6 => ("FleetFloor", "planned", "I", false)
  | 7 => ("FleetFloor", "tickToCome", "I", false)
  | _ => ("FleetFloor", "planClock", "I", false)
def ty_FF : Nat → FieldType := fun k => match k with
  | 0 => .object "FleetFloor$FloorMap"
  | 1 => .object "FleetFloor$Air"
  | 2 => .object "java/util/ArrayList"
  | 3 => .array (.object "FleetFloor$Vehicle")
  | 4 => .array .int
  | 5 => .object "FleetFloor$Planner"
  | 6 => .int
  | 7 => .int
  | _ => .int
theorem n_FF : ∀ a, a < 9 → ∀ b, b < 9 → a ≠ b → (T_FF a).2.1 ≠ (T_FF b).2.1 := by decide +kernel
theorem ok_FF : ∀ k, k < 9 → parseFieldDescriptor (T_FF k).2.2.1 = some (ty_FF k) := by decide +kernel
theorem in_FF : ∀ w ∈ u_ws "FleetFloor" T_FF 9, w ∈ bg := by
  show ∀ w ∈ [u_lay "FleetFloor" T_FF 0, u_lay "FleetFloor" T_FF 1, u_lay "FleetFloor" T_FF 2, u_lay "FleetFloor" T_FF 3, u_lay "FleetFloor" T_FF 4, u_lay "FleetFloor" T_FF 5, u_lay "FleetFloor" T_FF 6, u_lay "FleetFloor" T_FF 7, u_lay "FleetFloor" T_FF 8], w ∈ bg
  exact List.forall_mem_cons.mpr ⟨tw_94, List.forall_mem_cons.mpr ⟨tw_96, List.forall_mem_cons.mpr ⟨tw_98, List.forall_mem_cons.mpr ⟨tw_100, List.forall_mem_cons.mpr ⟨tw_102, List.forall_mem_cons.mpr ⟨tw_104, List.forall_mem_cons.mpr ⟨tw_106, List.forall_mem_cons.mpr ⟨tw_108, List.forall_mem_cons.mpr ⟨tw_110, fun _ h => absurd h List.not_mem_nil⟩⟩⟩⟩⟩⟩⟩⟩⟩
def T_Map : u_T := fun k => match k with
  | _ => ("FleetFloor$FloorMap", "kinds", "[I", true)
def ty_Map : Nat → FieldType := fun k => match k with
  | _ => .array .int
theorem n_Map : ∀ a, a < 1 → ∀ b, b < 1 → a ≠ b → (T_Map a).2.1 ≠ (T_Map b).2.1 := by decide +kernel
theorem ok_Map : ∀ k, k < 1 → parseFieldDescriptor (T_Map k).2.2.1 = some (ty_Map k) := by decide +kernel
theorem in_Map : ∀ w ∈ u_ws "FleetFloor$FloorMap" T_Map 1, w ∈ bg := by
  show ∀ w ∈ [u_lay "FleetFloor$FloorMap" T_Map 0], w ∈ bg
  exact List.forall_mem_cons.mpr ⟨tw_41, fun _ h => absurd h List.not_mem_nil⟩
def T_Air : u_T := fun k => match k with
  | _ => ("FleetFloor$Air", "flying", "Ljava/util/ArrayList;", true)
def ty_Air : Nat → FieldType := fun k => match k with
  | _ => .object "java/util/ArrayList"
theorem n_Air : ∀ a, a < 1 → ∀ b, b < 1 → a ≠ b → (T_Air a).2.1 ≠ (T_Air b).2.1 := by decide +kernel
theorem ok_Air : ∀ k, k < 1 → parseFieldDescriptor (T_Air k).2.2.1 = some (ty_Air k) := by decide +kernel
theorem in_Air : ∀ w ∈ u_ws "FleetFloor$Air" T_Air 1, w ∈ bg := by
  show ∀ w ∈ [u_lay "FleetFloor$Air" T_Air 0], w ∈ bg
  exact List.forall_mem_cons.mpr ⟨tw_78, fun _ h => absurd h List.not_mem_nil⟩
def T_AL : u_T := fun k => match k with
  | 0 => ("java/util/ArrayList", "elementData", "[Ljava/lang/Object;", false)
  | 1 => ("java/util/ArrayList", "size", "I", false)
  | _ => ("java/util/AbstractList", "modCount", "I", false)
def ty_AL : Nat → FieldType := fun k => match k with
  | 0 => .array (.object "java/lang/Object")
  | 1 => .int
  | _ => .int
theorem n_AL : ∀ a, a < 3 → ∀ b, b < 3 → a ≠ b → (T_AL a).2.1 ≠ (T_AL b).2.1 := by decide +kernel
theorem ok_AL : ∀ k, k < 3 → parseFieldDescriptor (T_AL k).2.2.1 = some (ty_AL k) := by decide +kernel
theorem in_AL : ∀ w ∈ u_ws "java/util/ArrayList" T_AL 3, w ∈ bg := by
  show ∀ w ∈ [u_lay "java/util/ArrayList" T_AL 0, u_lay "java/util/ArrayList" T_AL 1, u_lay "java/util/ArrayList" T_AL 2], w ∈ bg
  exact List.forall_mem_cons.mpr ⟨tw_70, List.forall_mem_cons.mpr ⟨tw_72, List.forall_mem_cons.mpr ⟨tw_74, fun _ h => absurd h List.not_mem_nil⟩⟩⟩
def T_Cel : u_T := fun k => match k with
  | 0 => ("FleetFloor$Cells", "upper", "J", false)
  | _ => ("FleetFloor$Cells", "lower", "J", false)
def ty_Cel : Nat → FieldType := fun k => match k with
  | 0 => .long
  | _ => .long
theorem n_Cel : ∀ a, a < 2 → ∀ b, b < 2 → a ≠ b → (T_Cel a).2.1 ≠ (T_Cel b).2.1 := by decide +kernel
theorem ok_Cel : ∀ k, k < 2 → parseFieldDescriptor (T_Cel k).2.2.1 = some (ty_Cel k) := by decide +kernel
theorem in_Cel : ∀ w ∈ u_ws "FleetFloor$Cells" T_Cel 2, w ∈ bg := by
  show ∀ w ∈ [u_lay "FleetFloor$Cells" T_Cel 0, u_lay "FleetFloor$Cells" T_Cel 1], w ∈ bg
  exact List.forall_mem_cons.mpr ⟨tw_404, List.forall_mem_cons.mpr ⟨tw_406, fun _ h => absurd h List.not_mem_nil⟩⟩
def T_Let : u_T := fun k => match k with
  | 0 => ("FleetFloor$Letter", "kind", "I", true)
  | 1 => ("FleetFloor$Letter", "owner", "I", true)
  | _ => ("FleetFloor$Letter", "number", "I", true)
def ty_Let : Nat → FieldType := fun k => match k with
  | 0 => .int
  | 1 => .int
  | _ => .int
theorem n_Let : ∀ a, a < 3 → ∀ b, b < 3 → a ≠ b → (T_Let a).2.1 ≠ (T_Let b).2.1 := by decide +kernel
theorem ok_Let : ∀ k, k < 3 → parseFieldDescriptor (T_Let k).2.2.1 = some (ty_Let k) := by decide +kernel
theorem in_Let : ∀ w ∈ u_ws "FleetFloor$Letter" T_Let 3, w ∈ bg := by
  show ∀ w ∈ [u_lay "FleetFloor$Letter" T_Let 0, u_lay "FleetFloor$Letter" T_Let 1, u_lay "FleetFloor$Letter" T_Let 2], w ∈ bg
  exact List.forall_mem_cons.mpr ⟨tw_645, List.forall_mem_cons.mpr ⟨tw_647, List.forall_mem_cons.mpr ⟨tw_649, fun _ h => absurd h List.not_mem_nil⟩⟩⟩
def T_Mov : u_T := fun k => match k with
  | 0 => ("FleetFloor$Move", "place", "I", true)
  | _ => ("FleetFloor$Move", "time", "I", true)
def ty_Mov : Nat → FieldType := fun k => match k with
  | 0 => .int
  | _ => .int
theorem n_Mov : ∀ a, a < 2 → ∀ b, b < 2 → a ≠ b → (T_Mov a).2.1 ≠ (T_Mov b).2.1 := by decide +kernel
theorem ok_Mov : ∀ k, k < 2 → parseFieldDescriptor (T_Mov k).2.2.1 = some (ty_Mov k) := by decide +kernel
theorem in_Mov : ∀ w ∈ u_ws "FleetFloor$Move" T_Mov 2, w ∈ bg := by
  show ∀ w ∈ [u_lay "FleetFloor$Move" T_Mov 0, u_lay "FleetFloor$Move" T_Mov 1], w ∈ bg
  exact List.forall_mem_cons.mpr ⟨tw_757, List.forall_mem_cons.mpr ⟨tw_759, fun _ h => absurd h List.not_mem_nil⟩⟩
def T_Tsk : u_T := fun k => match k with
  | 0 => ("FleetFloor$Task", "first", "I", true)
  | 1 => ("FleetFloor$Task", "second", "I", true)
  | 2 => ("FleetFloor$Task", "carrier", "I", false)
  | _ => ("FleetFloor$Task", "finishedIn", "I", false)
def ty_Tsk : Nat → FieldType := fun k => match k with
  | 0 => .int
  | 1 => .int
  | 2 => .int
  | _ => .int
theorem n_Tsk : ∀ a, a < 4 → ∀ b, b < 4 → a ≠ b → (T_Tsk a).2.1 ≠ (T_Tsk b).2.1 := by decide +kernel
theorem ok_Tsk : ∀ k, k < 4 → parseFieldDescriptor (T_Tsk k).2.2.1 = some (ty_Tsk k) := by decide +kernel
theorem in_Tsk : ∀ w ∈ u_ws "FleetFloor$Task" T_Tsk 4, w ∈ bg := by
  show ∀ w ∈ [u_lay "FleetFloor$Task" T_Tsk 0, u_lay "FleetFloor$Task" T_Tsk 1, u_lay "FleetFloor$Task" T_Tsk 2, u_lay "FleetFloor$Task" T_Tsk 3], w ∈ bg
  exact List.forall_mem_cons.mpr ⟨tw_595, List.forall_mem_cons.mpr ⟨tw_597, List.forall_mem_cons.mpr ⟨tw_599, List.forall_mem_cons.mpr ⟨tw_601, fun _ h => absurd h List.not_mem_nil⟩⟩⟩⟩
def T_Veh : u_T := fun k => match k with
  | 0 => ("FleetFloor$Vehicle", "number", "I", true)
  | 1 => ("FleetFloor$Vehicle", "parking", "I", true)
  | 2 => ("FleetFloor$Vehicle", "moves", "Ljava/util/ArrayList;", true)
  | 3 => ("FleetFloor$Vehicle", "made", "I", false)
  | 4 => ("FleetFloor$Vehicle", "allowed", "I", false)
  | 5 => ("FleetFloor$Vehicle", "known", "I", false)
  | 6 => ("FleetFloor$Vehicle", "granted", "I", false)
  | 7 => ("FleetFloor$Vehicle", "latestTask", "I", false)
  | 8 => ("FleetFloor$Vehicle", "finishAt", "I", false)
  | _ => ("FleetFloor$Vehicle", "justMoved", "Z", false)
def ty_Veh : Nat → FieldType := fun k => match k with
  | 0 => .int
  | 1 => .int
  | 2 => .object "java/util/ArrayList"
  | 3 => .int
  | 4 => .int
  | 5 => .int
  | 6 => .int
  | 7 => .int
  | 8 => .int
  | _ => .boolean
theorem n_Veh : ∀ a, a < 10 → ∀ b, b < 10 → a ≠ b → (T_Veh a).2.1 ≠ (T_Veh b).2.1 := by decide +kernel
theorem ok_Veh : ∀ k, k < 10 → parseFieldDescriptor (T_Veh k).2.2.1 = some (ty_Veh k) := by decide +kernel
theorem in_Veh : ∀ w ∈ u_ws "FleetFloor$Vehicle" T_Veh 10, w ∈ bg := by
  show ∀ w ∈ [u_lay "FleetFloor$Vehicle" T_Veh 0, u_lay "FleetFloor$Vehicle" T_Veh 1, u_lay "FleetFloor$Vehicle" T_Veh 2, u_lay "FleetFloor$Vehicle" T_Veh 3, u_lay "FleetFloor$Vehicle" T_Veh 4, u_lay "FleetFloor$Vehicle" T_Veh 5, u_lay "FleetFloor$Vehicle" T_Veh 6, u_lay "FleetFloor$Vehicle" T_Veh 7, u_lay "FleetFloor$Vehicle" T_Veh 8, u_lay "FleetFloor$Vehicle" T_Veh 9], w ∈ bg
  exact List.forall_mem_cons.mpr ⟨tw_496, List.forall_mem_cons.mpr ⟨tw_498, List.forall_mem_cons.mpr ⟨tw_500, List.forall_mem_cons.mpr ⟨tw_502, List.forall_mem_cons.mpr ⟨tw_504, List.forall_mem_cons.mpr ⟨tw_506, List.forall_mem_cons.mpr ⟨tw_508, List.forall_mem_cons.mpr ⟨tw_510, List.forall_mem_cons.mpr ⟨tw_512, List.forall_mem_cons.mpr ⟨tw_514, fun _ h => absurd h List.not_mem_nil⟩⟩⟩⟩⟩⟩⟩⟩⟩⟩
def T_Pln : u_T := fun k => match k with
  | 0 => ("FleetFloor$Planner", "common", "LFleetFloor$Cells;", true)
  | 1 => ("FleetFloor$Planner", "vehicles", "[LFleetFloor$Vehicle;", true)
  | 2 => ("FleetFloor$Planner", "canEnter", "[LFleetFloor$Cells;", true)
  | 3 => ("FleetFloor$Planner", "canBe", "[LFleetFloor$Cells;", true)
  | 4 => ("FleetFloor$Planner", "reached", "[LFleetFloor$Cells;", true)
  | 5 => ("FleetFloor$Planner", "aim", "LFleetFloor$Cells;", true)
  | 6 => ("FleetFloor$Planner", "scratch", "LFleetFloor$Cells;", true)
  | 7 => ("FleetFloor$Planner", "way", "[I", true)
  | 8 => ("FleetFloor$Planner", "first", "I", false)
  | 9 => ("FleetFloor$Planner", "second", "I", false)
  | 10 => ("FleetFloor$Planner", "parking", "I", false)
  | 11 => ("FleetFloor$Planner", "end", "I", false)
  | _ => ("FleetFloor$Planner", "finish", "I", false)
def ty_Pln : Nat → FieldType := fun k => match k with
  | 0 => .object "FleetFloor$Cells"
  | 1 => .array (.object "FleetFloor$Vehicle")
  | 2 => .array (.object "FleetFloor$Cells")
  | 3 => .array (.object "FleetFloor$Cells")
  | 4 => .array (.object "FleetFloor$Cells")
  | 5 => .object "FleetFloor$Cells"
  | 6 => .object "FleetFloor$Cells"
  | 7 => .array .int
  | 8 => .int
  | 9 => .int
  | 10 => .int
  | 11 => .int
  | _ => .int
theorem n_Pln : ∀ a, a < 13 → ∀ b, b < 13 → a ≠ b → (T_Pln a).2.1 ≠ (T_Pln b).2.1 := by decide +kernel
theorem ok_Pln : ∀ k, k < 13 → parseFieldDescriptor (T_Pln k).2.2.1 = some (ty_Pln k) := by decide +kernel
theorem in_Pln : ∀ w ∈ u_ws "FleetFloor$Planner" T_Pln 13, w ∈ bg := by
  show ∀ w ∈ [u_lay "FleetFloor$Planner" T_Pln 0, u_lay "FleetFloor$Planner" T_Pln 1, u_lay "FleetFloor$Planner" T_Pln 2, u_lay "FleetFloor$Planner" T_Pln 3, u_lay "FleetFloor$Planner" T_Pln 4, u_lay "FleetFloor$Planner" T_Pln 5, u_lay "FleetFloor$Planner" T_Pln 6, u_lay "FleetFloor$Planner" T_Pln 7, u_lay "FleetFloor$Planner" T_Pln 8, u_lay "FleetFloor$Planner" T_Pln 9, u_lay "FleetFloor$Planner" T_Pln 10, u_lay "FleetFloor$Planner" T_Pln 11, u_lay "FleetFloor$Planner" T_Pln 12], w ∈ bg
  exact List.forall_mem_cons.mpr ⟨tw_542, List.forall_mem_cons.mpr ⟨tw_544, List.forall_mem_cons.mpr ⟨tw_546, List.forall_mem_cons.mpr ⟨tw_548, List.forall_mem_cons.mpr ⟨tw_550, List.forall_mem_cons.mpr ⟨tw_552, List.forall_mem_cons.mpr ⟨tw_554, List.forall_mem_cons.mpr ⟨tw_556, List.forall_mem_cons.mpr ⟨tw_558, List.forall_mem_cons.mpr ⟨tw_560, List.forall_mem_cons.mpr ⟨tw_562, List.forall_mem_cons.mpr ⟨tw_564, List.forall_mem_cons.mpr ⟨tw_566, fun _ h => absurd h List.not_mem_nil⟩⟩⟩⟩⟩⟩⟩⟩⟩⟩⟩⟩⟩
def T_Mod : u_T := fun k => match k with
  | 0 => ("FleetFloorModel", "thrown", "I", false)
  | 1 => ("FleetFloorModel", "open", "Z", false)
  | 2 => ("FleetFloorModel", "kinds", "[I", true)
  | 3 => ("FleetFloorModel", "stations", "I", false)
  | 4 => ("FleetFloorModel", "vehicles", "I", false)
  | 5 => ("FleetFloorModel", "stationAt", "[I", true)
  | 6 => ("FleetFloorModel", "parkingAt", "[I", true)
  | 7 => ("FleetFloorModel", "seen", "[Z", true)
  | 8 => ("FleetFloorModel", "pile", "[I", true)
  | 9 => ("FleetFloorModel", "tasks", "I", false)
  | 10 => ("FleetFloorModel", "planned", "I", false)
  | 11 => ("FleetFloorModel", "first", "[I", true)
  | 12 => ("FleetFloorModel", "second", "[I", true)
  | 13 => ("FleetFloorModel", "owner", "[I", true)
  | 14 => ("FleetFloorModel", "start", "[I", true)
  | 15 => ("FleetFloorModel", "many", "[I", true)
  | 16 => ("FleetFloorModel", "base", "[I", true)
  | 17 => ("FleetFloorModel", "finishing", "[I", true)
  | 18 => ("FleetFloorModel", "finished", "[I", true)
  | 19 => ("FleetFloorModel", "rowed", "I", false)
  | 20 => ("FleetFloorModel", "moveCell", "[I", true)
  | 21 => ("FleetFloorModel", "moveTime", "[I", true)
  | 22 => ("FleetFloorModel", "at", "[I", true)
  | 23 => ("FleetFloorModel", "made", "[I", true)
  | 24 => ("FleetFloorModel", "may", "[I", true)
  | 25 => ("FleetFloorModel", "known", "[I", true)
  | 26 => ("FleetFloorModel", "granted", "[I", true)
  | 27 => ("FleetFloorModel", "moves", "[I", true)
  | 28 => ("FleetFloorModel", "latest", "[I", true)
  | 29 => ("FleetFloorModel", "clock", "I", false)
  | 30 => ("FleetFloorModel", "ticks", "I", false)
  | 31 => ("FleetFloorModel", "letters", "I", false)
  | 32 => ("FleetFloorModel", "letterKind", "[I", true)
  | 33 => ("FleetFloorModel", "letterOf", "[I", true)
  | 34 => ("FleetFloorModel", "letterNumber", "[I", true)
  | 35 => ("FleetFloorModel", "noBeing", "[J", true)
  | 36 => ("FleetFloorModel", "noComing", "[J", true)
  | 37 => ("FleetFloorModel", "reached", "[J", true)
  | 38 => ("FleetFloorModel", "planner", "I", false)
  | _ => ("FleetFloorModel", "done", "I", false)
def ty_Mod : Nat → FieldType := fun k => match k with
  | 0 => .int
  | 1 => .boolean
  | 2 => .array .int
  | 3 => .int
  | 4 => .int
  | 5 => .array .int
  | 6 => .array .int
  | 7 => .array .boolean
  | 8 => .array .int
  | 9 => .int
  | 10 => .int
  | 11 => .array .int
  | 12 => .array .int
  | 13 => .array .int
  | 14 => .array .int
  | 15 => .array .int
  | 16 => .array .int
  | 17 => .array .int
  | 18 => .array .int
  | 19 => .int
  | 20 => .array .int
  | 21 => .array .int
  | 22 => .array .int
  | 23 => .array .int
  | 24 => .array .int
  | 25 => .array .int
  | 26 => .array .int
  | 27 => .array .int
  | 28 => .array .int
  | 29 => .int
  | 30 => .int
  | 31 => .int
  | 32 => .array .int
  | 33 => .array .int
  | 34 => .array .int
  | 35 => .array .long
  | 36 => .array .long
  | 37 => .array .long
  | 38 => .int
  | _ => .int
theorem n_Mod : ∀ a, a < 40 → ∀ b, b < 40 → a ≠ b → (T_Mod a).2.1 ≠ (T_Mod b).2.1 := by decide +kernel
theorem ok_Mod : ∀ k, k < 40 → parseFieldDescriptor (T_Mod k).2.2.1 = some (ty_Mod k) := by decide +kernel
theorem in_Mod : ∀ w ∈ u_ws "FleetFloorModel" T_Mod 40, w ∈ bg := by
  show ∀ w ∈ [u_lay "FleetFloorModel" T_Mod 0, u_lay "FleetFloorModel" T_Mod 1, u_lay "FleetFloorModel" T_Mod 2, u_lay "FleetFloorModel" T_Mod 3, u_lay "FleetFloorModel" T_Mod 4, u_lay "FleetFloorModel" T_Mod 5, u_lay "FleetFloorModel" T_Mod 6, u_lay "FleetFloorModel" T_Mod 7, u_lay "FleetFloorModel" T_Mod 8, u_lay "FleetFloorModel" T_Mod 9, u_lay "FleetFloorModel" T_Mod 10, u_lay "FleetFloorModel" T_Mod 11, u_lay "FleetFloorModel" T_Mod 12, u_lay "FleetFloorModel" T_Mod 13, u_lay "FleetFloorModel" T_Mod 14, u_lay "FleetFloorModel" T_Mod 15, u_lay "FleetFloorModel" T_Mod 16, u_lay "FleetFloorModel" T_Mod 17, u_lay "FleetFloorModel" T_Mod 18, u_lay "FleetFloorModel" T_Mod 19, u_lay "FleetFloorModel" T_Mod 20, u_lay "FleetFloorModel" T_Mod 21, u_lay "FleetFloorModel" T_Mod 22, u_lay "FleetFloorModel" T_Mod 23, u_lay "FleetFloorModel" T_Mod 24, u_lay "FleetFloorModel" T_Mod 25, u_lay "FleetFloorModel" T_Mod 26, u_lay "FleetFloorModel" T_Mod 27, u_lay "FleetFloorModel" T_Mod 28, u_lay "FleetFloorModel" T_Mod 29, u_lay "FleetFloorModel" T_Mod 30, u_lay "FleetFloorModel" T_Mod 31, u_lay "FleetFloorModel" T_Mod 32, u_lay "FleetFloorModel" T_Mod 33, u_lay "FleetFloorModel" T_Mod 34, u_lay "FleetFloorModel" T_Mod 35, u_lay "FleetFloorModel" T_Mod 36, u_lay "FleetFloorModel" T_Mod 37, u_lay "FleetFloorModel" T_Mod 38, u_lay "FleetFloorModel" T_Mod 39], w ∈ bg
  exact List.forall_mem_cons.mpr ⟨tw_821, List.forall_mem_cons.mpr ⟨tw_823, List.forall_mem_cons.mpr ⟨tw_825, List.forall_mem_cons.mpr ⟨tw_827, List.forall_mem_cons.mpr ⟨tw_829, List.forall_mem_cons.mpr ⟨tw_831, List.forall_mem_cons.mpr ⟨tw_833, List.forall_mem_cons.mpr ⟨tw_835, List.forall_mem_cons.mpr ⟨tw_837, List.forall_mem_cons.mpr ⟨tw_839, List.forall_mem_cons.mpr ⟨tw_841, List.forall_mem_cons.mpr ⟨tw_843, List.forall_mem_cons.mpr ⟨tw_845, List.forall_mem_cons.mpr ⟨tw_847, List.forall_mem_cons.mpr ⟨tw_849, List.forall_mem_cons.mpr ⟨tw_851, List.forall_mem_cons.mpr ⟨tw_853, List.forall_mem_cons.mpr ⟨tw_855, List.forall_mem_cons.mpr ⟨tw_857, List.forall_mem_cons.mpr ⟨tw_859, List.forall_mem_cons.mpr ⟨tw_861, List.forall_mem_cons.mpr ⟨tw_863, List.forall_mem_cons.mpr ⟨tw_865, List.forall_mem_cons.mpr ⟨tw_867, List.forall_mem_cons.mpr ⟨tw_869, List.forall_mem_cons.mpr ⟨tw_871, List.forall_mem_cons.mpr ⟨tw_873, List.forall_mem_cons.mpr ⟨tw_875, List.forall_mem_cons.mpr ⟨tw_877, List.forall_mem_cons.mpr ⟨tw_879, List.forall_mem_cons.mpr ⟨tw_881, List.forall_mem_cons.mpr ⟨tw_883, List.forall_mem_cons.mpr ⟨tw_885, List.forall_mem_cons.mpr ⟨tw_887, List.forall_mem_cons.mpr ⟨tw_889, List.forall_mem_cons.mpr ⟨tw_891, List.forall_mem_cons.mpr ⟨tw_893, List.forall_mem_cons.mpr ⟨tw_895, List.forall_mem_cons.mpr ⟨tw_897, List.forall_mem_cons.mpr ⟨tw_899, fun _ h => absurd h List.not_mem_nil⟩⟩⟩⟩⟩⟩⟩⟩⟩⟩⟩⟩⟩⟩⟩⟩⟩⟩⟩⟩⟩⟩⟩⟩⟩⟩⟩⟩⟩⟩⟩⟩⟩⟩⟩⟩⟩⟩⟩⟩
abbrev cl : List vw_C := [("FleetFloor", T_FF, 9), ("FleetFloor$FloorMap", T_Map, 1), ("FleetFloor$Air", T_Air, 1), ("java/util/ArrayList", T_AL, 3), ("FleetFloor$Cells", T_Cel, 2), ("FleetFloor$Letter", T_Let, 3), ("FleetFloor$Move", T_Mov, 2), ("FleetFloor$Task", T_Tsk, 4), ("FleetFloor$Vehicle", T_Veh, 10), ("FleetFloor$Planner", T_Pln, 13), ("FleetFloorModel", T_Mod, 40)]
end
section
abbrev c_Mod_init : ByteArray := prog_11_method_1_code
abbrev y_Mod_init : MethodName := ⟨"FleetFloorModel", "<init>", "()V"⟩
theorem d_Mod_init_0 : decode c_Mod_init 0 = .ok (.aload_n 0, 1) := by decide +kernel
theorem d_Mod_init_1 : decode c_Mod_init 1 = .ok (.invokespecial 1, 3) := by decide +kernel
theorem d_Mod_init_4 : decode c_Mod_init 4 = .ok (.aload_n 0, 1) := by decide +kernel
theorem d_Mod_init_5 : decode c_Mod_init 5 = .ok (.bipush 96, 2) := by decide +kernel
theorem d_Mod_init_7 : decode c_Mod_init 7 = .ok (.newarray .int, 2) := by decide +kernel
theorem d_Mod_init_9 : decode c_Mod_init 9 = .ok (.putfield 7, 3) := by decide +kernel
theorem d_Mod_init_12 : decode c_Mod_init 12 = .ok (.aload_n 0, 1) := by decide +kernel
theorem d_Mod_init_13 : decode c_Mod_init 13 = .ok (.bipush 96, 2) := by decide +kernel
theorem d_Mod_init_15 : decode c_Mod_init 15 = .ok (.newarray .int, 2) := by decide +kernel
theorem d_Mod_init_17 : decode c_Mod_init 17 = .ok (.putfield 13, 3) := by decide +kernel
theorem d_Mod_init_20 : decode c_Mod_init 20 = .ok (.aload_n 0, 1) := by decide +kernel
theorem d_Mod_init_21 : decode c_Mod_init 21 = .ok (.bipush 96, 2) := by decide +kernel
theorem d_Mod_init_23 : decode c_Mod_init 23 = .ok (.newarray .int, 2) := by decide +kernel
theorem d_Mod_init_25 : decode c_Mod_init 25 = .ok (.putfield 16, 3) := by decide +kernel
theorem d_Mod_init_28 : decode c_Mod_init 28 = .ok (.aload_n 0, 1) := by decide +kernel
theorem d_Mod_init_29 : decode c_Mod_init 29 = .ok (.bipush 96, 2) := by decide +kernel
theorem d_Mod_init_31 : decode c_Mod_init 31 = .ok (.newarray .boolean, 2) := by decide +kernel
theorem d_Mod_init_33 : decode c_Mod_init 33 = .ok (.putfield 19, 3) := by decide +kernel
theorem d_Mod_init_36 : decode c_Mod_init 36 = .ok (.aload_n 0, 1) := by decide +kernel
theorem d_Mod_init_37 : decode c_Mod_init 37 = .ok (.bipush 96, 2) := by decide +kernel
theorem d_Mod_init_39 : decode c_Mod_init 39 = .ok (.newarray .int, 2) := by decide +kernel
theorem d_Mod_init_41 : decode c_Mod_init 41 = .ok (.putfield 23, 3) := by decide +kernel
theorem d_Mod_init_44 : decode c_Mod_init 44 = .ok (.aload_n 0, 1) := by decide +kernel
theorem d_Mod_init_45 : decode c_Mod_init 45 = .ok (.bipush 24, 2) := by decide +kernel
theorem d_Mod_init_47 : decode c_Mod_init 47 = .ok (.newarray .int, 2) := by decide +kernel
theorem d_Mod_init_49 : decode c_Mod_init 49 = .ok (.putfield 26, 3) := by decide +kernel
theorem d_Mod_init_52 : decode c_Mod_init 52 = .ok (.aload_n 0, 1) := by decide +kernel
theorem d_Mod_init_53 : decode c_Mod_init 53 = .ok (.bipush 24, 2) := by decide +kernel
theorem d_Mod_init_55 : decode c_Mod_init 55 = .ok (.newarray .int, 2) := by decide +kernel
theorem d_Mod_init_57 : decode c_Mod_init 57 = .ok (.putfield 29, 3) := by decide +kernel
theorem d_Mod_init_60 : decode c_Mod_init 60 = .ok (.aload_n 0, 1) := by decide +kernel
theorem d_Mod_init_61 : decode c_Mod_init 61 = .ok (.bipush 24, 2) := by decide +kernel
theorem d_Mod_init_63 : decode c_Mod_init 63 = .ok (.newarray .int, 2) := by decide +kernel
theorem d_Mod_init_65 : decode c_Mod_init 65 = .ok (.putfield 32, 3) := by decide +kernel
theorem d_Mod_init_68 : decode c_Mod_init 68 = .ok (.aload_n 0, 1) := by decide +kernel
theorem d_Mod_init_69 : decode c_Mod_init 69 = .ok (.bipush 24, 2) := by decide +kernel
theorem d_Mod_init_71 : decode c_Mod_init 71 = .ok (.newarray .int, 2) := by decide +kernel
theorem d_Mod_init_73 : decode c_Mod_init 73 = .ok (.putfield 35, 3) := by decide +kernel
theorem d_Mod_init_76 : decode c_Mod_init 76 = .ok (.aload_n 0, 1) := by decide +kernel
theorem d_Mod_init_77 : decode c_Mod_init 77 = .ok (.bipush 24, 2) := by decide +kernel
theorem d_Mod_init_79 : decode c_Mod_init 79 = .ok (.newarray .int, 2) := by decide +kernel
theorem d_Mod_init_81 : decode c_Mod_init 81 = .ok (.putfield 38, 3) := by decide +kernel
theorem d_Mod_init_84 : decode c_Mod_init 84 = .ok (.aload_n 0, 1) := by decide +kernel
theorem d_Mod_init_85 : decode c_Mod_init 85 = .ok (.bipush 24, 2) := by decide +kernel
theorem d_Mod_init_87 : decode c_Mod_init 87 = .ok (.newarray .int, 2) := by decide +kernel
theorem d_Mod_init_89 : decode c_Mod_init 89 = .ok (.putfield 41, 3) := by decide +kernel
theorem d_Mod_init_92 : decode c_Mod_init 92 = .ok (.aload_n 0, 1) := by decide +kernel
theorem d_Mod_init_93 : decode c_Mod_init 93 = .ok (.bipush 24, 2) := by decide +kernel
theorem d_Mod_init_95 : decode c_Mod_init 95 = .ok (.newarray .int, 2) := by decide +kernel
theorem d_Mod_init_97 : decode c_Mod_init 97 = .ok (.putfield 44, 3) := by decide +kernel
theorem d_Mod_init_100 : decode c_Mod_init 100 = .ok (.aload_n 0, 1) := by decide +kernel
theorem d_Mod_init_101 : decode c_Mod_init 101 = .ok (.bipush 24, 2) := by decide +kernel
theorem d_Mod_init_103 : decode c_Mod_init 103 = .ok (.newarray .int, 2) := by decide +kernel
theorem d_Mod_init_105 : decode c_Mod_init 105 = .ok (.putfield 47, 3) := by decide +kernel
theorem d_Mod_init_108 : decode c_Mod_init 108 = .ok (.aload_n 0, 1) := by decide +kernel
theorem d_Mod_init_109 : decode c_Mod_init 109 = .ok (.sipush 3600, 3) := by decide +kernel
theorem d_Mod_init_112 : decode c_Mod_init 112 = .ok (.newarray .int, 2) := by decide +kernel
theorem d_Mod_init_114 : decode c_Mod_init 114 = .ok (.putfield 50, 3) := by decide +kernel
theorem d_Mod_init_117 : decode c_Mod_init 117 = .ok (.aload_n 0, 1) := by decide +kernel
theorem d_Mod_init_118 : decode c_Mod_init 118 = .ok (.sipush 3600, 3) := by decide +kernel
theorem d_Mod_init_121 : decode c_Mod_init 121 = .ok (.newarray .int, 2) := by decide +kernel
theorem d_Mod_init_123 : decode c_Mod_init 123 = .ok (.putfield 53, 3) := by decide +kernel
theorem d_Mod_init_126 : decode c_Mod_init 126 = .ok (.aload_n 0, 1) := by decide +kernel
theorem d_Mod_init_127 : decode c_Mod_init 127 = .ok (.bipush 6, 2) := by decide +kernel
theorem d_Mod_init_129 : decode c_Mod_init 129 = .ok (.newarray .int, 2) := by decide +kernel
theorem d_Mod_init_131 : decode c_Mod_init 131 = .ok (.putfield 56, 3) := by decide +kernel
theorem d_Mod_init_134 : decode c_Mod_init 134 = .ok (.aload_n 0, 1) := by decide +kernel
theorem d_Mod_init_135 : decode c_Mod_init 135 = .ok (.bipush 6, 2) := by decide +kernel
theorem d_Mod_init_137 : decode c_Mod_init 137 = .ok (.newarray .int, 2) := by decide +kernel
theorem d_Mod_init_139 : decode c_Mod_init 139 = .ok (.putfield 59, 3) := by decide +kernel
theorem d_Mod_init_142 : decode c_Mod_init 142 = .ok (.aload_n 0, 1) := by decide +kernel
theorem d_Mod_init_143 : decode c_Mod_init 143 = .ok (.bipush 6, 2) := by decide +kernel
theorem d_Mod_init_145 : decode c_Mod_init 145 = .ok (.newarray .int, 2) := by decide +kernel
theorem d_Mod_init_147 : decode c_Mod_init 147 = .ok (.putfield 62, 3) := by decide +kernel
theorem d_Mod_init_150 : decode c_Mod_init 150 = .ok (.aload_n 0, 1) := by decide +kernel
theorem d_Mod_init_151 : decode c_Mod_init 151 = .ok (.bipush 6, 2) := by decide +kernel
theorem d_Mod_init_153 : decode c_Mod_init 153 = .ok (.newarray .int, 2) := by decide +kernel
theorem d_Mod_init_155 : decode c_Mod_init 155 = .ok (.putfield 65, 3) := by decide +kernel
theorem d_Mod_init_158 : decode c_Mod_init 158 = .ok (.aload_n 0, 1) := by decide +kernel
theorem d_Mod_init_159 : decode c_Mod_init 159 = .ok (.bipush 6, 2) := by decide +kernel
theorem d_Mod_init_161 : decode c_Mod_init 161 = .ok (.newarray .int, 2) := by decide +kernel
theorem d_Mod_init_163 : decode c_Mod_init 163 = .ok (.putfield 68, 3) := by decide +kernel
theorem d_Mod_init_166 : decode c_Mod_init 166 = .ok (.aload_n 0, 1) := by decide +kernel
theorem d_Mod_init_167 : decode c_Mod_init 167 = .ok (.bipush 6, 2) := by decide +kernel
theorem d_Mod_init_169 : decode c_Mod_init 169 = .ok (.newarray .int, 2) := by decide +kernel
theorem d_Mod_init_171 : decode c_Mod_init 171 = .ok (.putfield 71, 3) := by decide +kernel
theorem d_Mod_init_174 : decode c_Mod_init 174 = .ok (.aload_n 0, 1) := by decide +kernel
theorem d_Mod_init_175 : decode c_Mod_init 175 = .ok (.bipush 6, 2) := by decide +kernel
theorem d_Mod_init_177 : decode c_Mod_init 177 = .ok (.newarray .int, 2) := by decide +kernel
theorem d_Mod_init_179 : decode c_Mod_init 179 = .ok (.putfield 74, 3) := by decide +kernel
theorem d_Mod_init_182 : decode c_Mod_init 182 = .ok (.aload_n 0, 1) := by decide +kernel
theorem d_Mod_init_183 : decode c_Mod_init 183 = .ok (.bipush 60, 2) := by decide +kernel
theorem d_Mod_init_185 : decode c_Mod_init 185 = .ok (.newarray .int, 2) := by decide +kernel
theorem d_Mod_init_187 : decode c_Mod_init 187 = .ok (.putfield 77, 3) := by decide +kernel
theorem d_Mod_init_190 : decode c_Mod_init 190 = .ok (.aload_n 0, 1) := by decide +kernel
theorem d_Mod_init_191 : decode c_Mod_init 191 = .ok (.bipush 60, 2) := by decide +kernel
theorem d_Mod_init_193 : decode c_Mod_init 193 = .ok (.newarray .int, 2) := by decide +kernel
theorem d_Mod_init_195 : decode c_Mod_init 195 = .ok (.putfield 80, 3) := by decide +kernel
theorem d_Mod_init_198 : decode c_Mod_init 198 = .ok (.aload_n 0, 1) := by decide +kernel
theorem d_Mod_init_199 : decode c_Mod_init 199 = .ok (.bipush 60, 2) := by decide +kernel
theorem d_Mod_init_201 : decode c_Mod_init 201 = .ok (.newarray .int, 2) := by decide +kernel
theorem d_Mod_init_203 : decode c_Mod_init 203 = .ok (.putfield 83, 3) := by decide +kernel
theorem d_Mod_init_206 : decode c_Mod_init 206 = .ok (.aload_n 0, 1) := by decide +kernel
theorem d_Mod_init_207 : decode c_Mod_init 207 = .ok (.sipush 304, 3) := by decide +kernel
theorem d_Mod_init_210 : decode c_Mod_init 210 = .ok (.newarray .long, 2) := by decide +kernel
theorem d_Mod_init_212 : decode c_Mod_init 212 = .ok (.putfield 86, 3) := by decide +kernel
theorem d_Mod_init_215 : decode c_Mod_init 215 = .ok (.aload_n 0, 1) := by decide +kernel
theorem d_Mod_init_216 : decode c_Mod_init 216 = .ok (.sipush 304, 3) := by decide +kernel
theorem d_Mod_init_219 : decode c_Mod_init 219 = .ok (.newarray .long, 2) := by decide +kernel
theorem d_Mod_init_221 : decode c_Mod_init 221 = .ok (.putfield 90, 3) := by decide +kernel
theorem d_Mod_init_224 : decode c_Mod_init 224 = .ok (.aload_n 0, 1) := by decide +kernel
theorem d_Mod_init_225 : decode c_Mod_init 225 = .ok (.sipush 908, 3) := by decide +kernel
theorem d_Mod_init_228 : decode c_Mod_init 228 = .ok (.newarray .long, 2) := by decide +kernel
theorem d_Mod_init_230 : decode c_Mod_init 230 = .ok (.putfield 93, 3) := by decide +kernel
theorem d_Mod_init_233 : decode c_Mod_init 233 = .ok (.return_, 1) := by decide +kernel
abbrev c_Mod_thrown : ByteArray := prog_11_method_2_code
abbrev y_Mod_thrown : MethodName := ⟨"FleetFloorModel", "thrown", "()I"⟩
theorem d_Mod_thrown_0 : decode c_Mod_thrown 0 = .ok (.aload_n 0, 1) := by decide +kernel
theorem d_Mod_thrown_1 : decode c_Mod_thrown 1 = .ok (.getfield 96, 3) := by decide +kernel
theorem d_Mod_thrown_4 : decode c_Mod_thrown 4 = .ok (.ireturn, 1) := by decide +kernel
abbrev c_Mod_throwing : ByteArray := prog_11_method_3_code
abbrev y_Mod_throwing : MethodName := ⟨"FleetFloorModel", "throwing", "(ZZ)Z"⟩
theorem d_Mod_throwing_0 : decode c_Mod_throwing 0 = .ok (.aload_n 0, 1) := by decide +kernel
theorem d_Mod_throwing_1 : decode c_Mod_throwing 1 = .ok (.iload_n 1, 1) := by decide +kernel
theorem d_Mod_throwing_2 : decode c_Mod_throwing 2 = .ok (.ifCond .eq 7, 3) := by decide +kernel
theorem d_Mod_throwing_5 : decode c_Mod_throwing 5 = .ok (.iconst 1, 1) := by decide +kernel
theorem d_Mod_throwing_6 : decode c_Mod_throwing 6 = .ok (.goto 12, 3) := by decide +kernel
theorem d_Mod_throwing_9 : decode c_Mod_throwing 9 = .ok (.iload_n 2, 1) := by decide +kernel
theorem d_Mod_throwing_10 : decode c_Mod_throwing 10 = .ok (.ifCond .eq 7, 3) := by decide +kernel
theorem d_Mod_throwing_13 : decode c_Mod_throwing 13 = .ok (.iconst 2, 1) := by decide +kernel
theorem d_Mod_throwing_14 : decode c_Mod_throwing 14 = .ok (.goto 4, 3) := by decide +kernel
theorem d_Mod_throwing_17 : decode c_Mod_throwing 17 = .ok (.iconst 0, 1) := by decide +kernel
theorem d_Mod_throwing_18 : decode c_Mod_throwing 18 = .ok (.putfield 96, 3) := by decide +kernel
theorem d_Mod_throwing_21 : decode c_Mod_throwing 21 = .ok (.aload_n 0, 1) := by decide +kernel
theorem d_Mod_throwing_22 : decode c_Mod_throwing 22 = .ok (.getfield 96, 3) := by decide +kernel
theorem d_Mod_throwing_25 : decode c_Mod_throwing 25 = .ok (.ifCond .le 7, 3) := by decide +kernel
theorem d_Mod_throwing_28 : decode c_Mod_throwing 28 = .ok (.iconst 1, 1) := by decide +kernel
theorem d_Mod_throwing_29 : decode c_Mod_throwing 29 = .ok (.goto 4, 3) := by decide +kernel
theorem d_Mod_throwing_32 : decode c_Mod_throwing 32 = .ok (.iconst 0, 1) := by decide +kernel
theorem d_Mod_throwing_33 : decode c_Mod_throwing 33 = .ok (.ireturn, 1) := by decide +kernel
abbrev c_Mod_in : ByteArray := prog_11_method_4_code
abbrev y_Mod_in : MethodName := ⟨"FleetFloorModel", "in", "(III)Z"⟩
theorem d_Mod_in_0 : decode c_Mod_in 0 = .ok (.iload_n 0, 1) := by decide +kernel
theorem d_Mod_in_1 : decode c_Mod_in 1 = .ok (.iload_n 1, 1) := by decide +kernel
theorem d_Mod_in_2 : decode c_Mod_in 2 = .ok (.if_icmp .lt 12, 3) := by decide +kernel
theorem d_Mod_in_5 : decode c_Mod_in 5 = .ok (.iload_n 0, 1) := by decide +kernel
theorem d_Mod_in_6 : decode c_Mod_in 6 = .ok (.iload_n 2, 1) := by decide +kernel
theorem d_Mod_in_7 : decode c_Mod_in 7 = .ok (.if_icmp .gt 7, 3) := by decide +kernel
theorem d_Mod_in_10 : decode c_Mod_in 10 = .ok (.iconst 1, 1) := by decide +kernel
theorem d_Mod_in_11 : decode c_Mod_in 11 = .ok (.goto 4, 3) := by decide +kernel
theorem d_Mod_in_14 : decode c_Mod_in 14 = .ok (.iconst 0, 1) := by decide +kernel
theorem d_Mod_in_15 : decode c_Mod_in 15 = .ok (.ireturn, 1) := by decide +kernel
abbrev c_Mod_cell : ByteArray := prog_11_method_5_code
abbrev y_Mod_cell : MethodName := ⟨"FleetFloorModel", "cell", "(II)Z"⟩
theorem d_Mod_cell_0 : decode c_Mod_cell 0 = .ok (.aload_n 0, 1) := by decide +kernel
theorem d_Mod_cell_1 : decode c_Mod_cell 1 = .ok (.iconst 0, 1) := by decide +kernel
theorem d_Mod_cell_2 : decode c_Mod_cell 2 = .ok (.putfield 96, 3) := by decide +kernel
theorem d_Mod_cell_5 : decode c_Mod_cell 5 = .ok (.aload_n 0, 1) := by decide +kernel
theorem d_Mod_cell_6 : decode c_Mod_cell 6 = .ok (.getfield 100, 3) := by decide +kernel
theorem d_Mod_cell_9 : decode c_Mod_cell 9 = .ok (.ifCond .ne 22, 3) := by decide +kernel
theorem d_Mod_cell_12 : decode c_Mod_cell 12 = .ok (.iload_n 1, 1) := by decide +kernel
theorem d_Mod_cell_13 : decode c_Mod_cell 13 = .ok (.iconst 0, 1) := by decide +kernel
theorem d_Mod_cell_14 : decode c_Mod_cell 14 = .ok (.bipush 95, 2) := by decide +kernel
theorem d_Mod_cell_16 : decode c_Mod_cell 16 = .ok (.invokestatic 104, 3) := by decide +kernel
theorem d_Mod_cell_19 : decode c_Mod_cell 19 = .ok (.ifCond .eq 12, 3) := by decide +kernel
theorem d_Mod_cell_22 : decode c_Mod_cell 22 = .ok (.iload_n 2, 1) := by decide +kernel
theorem d_Mod_cell_23 : decode c_Mod_cell 23 = .ok (.iconst 0, 1) := by decide +kernel
theorem d_Mod_cell_24 : decode c_Mod_cell 24 = .ok (.iconst 3, 1) := by decide +kernel
theorem d_Mod_cell_25 : decode c_Mod_cell 25 = .ok (.invokestatic 104, 3) := by decide +kernel
theorem d_Mod_cell_28 : decode c_Mod_cell 28 = .ok (.ifCond .ne 5, 3) := by decide +kernel
theorem d_Mod_cell_31 : decode c_Mod_cell 31 = .ok (.iconst 0, 1) := by decide +kernel
theorem d_Mod_cell_32 : decode c_Mod_cell 32 = .ok (.ireturn, 1) := by decide +kernel
theorem d_Mod_cell_33 : decode c_Mod_cell 33 = .ok (.aload_n 0, 1) := by decide +kernel
theorem d_Mod_cell_34 : decode c_Mod_cell 34 = .ok (.getfield 7, 3) := by decide +kernel
theorem d_Mod_cell_37 : decode c_Mod_cell 37 = .ok (.iload_n 1, 1) := by decide +kernel
theorem d_Mod_cell_38 : decode c_Mod_cell 38 = .ok (.iload_n 2, 1) := by decide +kernel
theorem d_Mod_cell_39 : decode c_Mod_cell 39 = .ok (.iastore, 1) := by decide +kernel
theorem d_Mod_cell_40 : decode c_Mod_cell 40 = .ok (.iconst 1, 1) := by decide +kernel
theorem d_Mod_cell_41 : decode c_Mod_cell 41 = .ok (.ireturn, 1) := by decide +kernel
abbrev c_Mod_neighbour : ByteArray := prog_11_method_6_code
abbrev y_Mod_neighbour : MethodName := ⟨"FleetFloorModel", "neighbour", "(II)I"⟩
theorem d_Mod_neighbour_0 : decode c_Mod_neighbour 0 = .ok (.iload_n 0, 1) := by decide +kernel
theorem d_Mod_neighbour_1 : decode c_Mod_neighbour 1 = .ok (.bipush 12, 2) := by decide +kernel
theorem d_Mod_neighbour_3 : decode c_Mod_neighbour 3 = .ok (.irem, 1) := by decide +kernel
theorem d_Mod_neighbour_4 : decode c_Mod_neighbour 4 = .ok (.istore_n 2, 1) := by decide +kernel
theorem d_Mod_neighbour_5 : decode c_Mod_neighbour 5 = .ok (.iload_n 1, 1) := by decide +kernel
theorem d_Mod_neighbour_6 : decode c_Mod_neighbour 6 = .ok (.tableswitch 86 0 3 #[30, 45, 59, 74], 30) := by decide +kernel
theorem d_Mod_neighbour_36 : decode c_Mod_neighbour 36 = .ok (.iload_n 0, 1) := by decide +kernel
theorem d_Mod_neighbour_37 : decode c_Mod_neighbour 37 = .ok (.bipush 12, 2) := by decide +kernel
theorem d_Mod_neighbour_39 : decode c_Mod_neighbour 39 = .ok (.if_icmp .lt 10, 3) := by decide +kernel
theorem d_Mod_neighbour_42 : decode c_Mod_neighbour 42 = .ok (.iload_n 0, 1) := by decide +kernel
theorem d_Mod_neighbour_43 : decode c_Mod_neighbour 43 = .ok (.bipush 12, 2) := by decide +kernel
theorem d_Mod_neighbour_45 : decode c_Mod_neighbour 45 = .ok (.isub, 1) := by decide +kernel
theorem d_Mod_neighbour_46 : decode c_Mod_neighbour 46 = .ok (.goto 4, 3) := by decide +kernel
theorem d_Mod_neighbour_49 : decode c_Mod_neighbour 49 = .ok (.iconst (-1), 1) := by decide +kernel
theorem d_Mod_neighbour_50 : decode c_Mod_neighbour 50 = .ok (.ireturn, 1) := by decide +kernel
theorem d_Mod_neighbour_51 : decode c_Mod_neighbour 51 = .ok (.iload_n 2, 1) := by decide +kernel
theorem d_Mod_neighbour_52 : decode c_Mod_neighbour 52 = .ok (.bipush 11, 2) := by decide +kernel
theorem d_Mod_neighbour_54 : decode c_Mod_neighbour 54 = .ok (.if_icmp .ge 9, 3) := by decide +kernel
theorem d_Mod_neighbour_57 : decode c_Mod_neighbour 57 = .ok (.iload_n 0, 1) := by decide +kernel
theorem d_Mod_neighbour_58 : decode c_Mod_neighbour 58 = .ok (.iconst 1, 1) := by decide +kernel
theorem d_Mod_neighbour_59 : decode c_Mod_neighbour 59 = .ok (.iadd, 1) := by decide +kernel
theorem d_Mod_neighbour_60 : decode c_Mod_neighbour 60 = .ok (.goto 4, 3) := by decide +kernel
theorem d_Mod_neighbour_63 : decode c_Mod_neighbour 63 = .ok (.iconst (-1), 1) := by decide +kernel
theorem d_Mod_neighbour_64 : decode c_Mod_neighbour 64 = .ok (.ireturn, 1) := by decide +kernel
theorem d_Mod_neighbour_65 : decode c_Mod_neighbour 65 = .ok (.iload_n 0, 1) := by decide +kernel
theorem d_Mod_neighbour_66 : decode c_Mod_neighbour 66 = .ok (.bipush 84, 2) := by decide +kernel
theorem d_Mod_neighbour_68 : decode c_Mod_neighbour 68 = .ok (.if_icmp .ge 10, 3) := by decide +kernel
theorem d_Mod_neighbour_71 : decode c_Mod_neighbour 71 = .ok (.iload_n 0, 1) := by decide +kernel
theorem d_Mod_neighbour_72 : decode c_Mod_neighbour 72 = .ok (.bipush 12, 2) := by decide +kernel
theorem d_Mod_neighbour_74 : decode c_Mod_neighbour 74 = .ok (.iadd, 1) := by decide +kernel
theorem d_Mod_neighbour_75 : decode c_Mod_neighbour 75 = .ok (.goto 4, 3) := by decide +kernel
theorem d_Mod_neighbour_78 : decode c_Mod_neighbour 78 = .ok (.iconst (-1), 1) := by decide +kernel
theorem d_Mod_neighbour_79 : decode c_Mod_neighbour 79 = .ok (.ireturn, 1) := by decide +kernel
theorem d_Mod_neighbour_80 : decode c_Mod_neighbour 80 = .ok (.iload_n 2, 1) := by decide +kernel
theorem d_Mod_neighbour_81 : decode c_Mod_neighbour 81 = .ok (.ifCond .le 9, 3) := by decide +kernel
theorem d_Mod_neighbour_84 : decode c_Mod_neighbour 84 = .ok (.iload_n 0, 1) := by decide +kernel
theorem d_Mod_neighbour_85 : decode c_Mod_neighbour 85 = .ok (.iconst 1, 1) := by decide +kernel
theorem d_Mod_neighbour_86 : decode c_Mod_neighbour 86 = .ok (.isub, 1) := by decide +kernel
theorem d_Mod_neighbour_87 : decode c_Mod_neighbour 87 = .ok (.goto 4, 3) := by decide +kernel
theorem d_Mod_neighbour_90 : decode c_Mod_neighbour 90 = .ok (.iconst (-1), 1) := by decide +kernel
theorem d_Mod_neighbour_91 : decode c_Mod_neighbour 91 = .ok (.ireturn, 1) := by decide +kernel
theorem d_Mod_neighbour_92 : decode c_Mod_neighbour 92 = .ok (.iload_n 0, 1) := by decide +kernel
theorem d_Mod_neighbour_93 : decode c_Mod_neighbour 93 = .ok (.ireturn, 1) := by decide +kernel
abbrev c_Mod_leadsToAll : ByteArray := prog_11_method_7_code
abbrev y_Mod_leadsToAll : MethodName := ⟨"FleetFloorModel", "leadsToAll", "(I)Z"⟩
theorem d_Mod_leadsToAll_0 : decode c_Mod_leadsToAll 0 = .ok (.iconst 0, 1) := by decide +kernel
theorem d_Mod_leadsToAll_1 : decode c_Mod_leadsToAll 1 = .ok (.istore_n 2, 1) := by decide +kernel
theorem d_Mod_leadsToAll_2 : decode c_Mod_leadsToAll 2 = .ok (.iload_n 2, 1) := by decide +kernel
theorem d_Mod_leadsToAll_3 : decode c_Mod_leadsToAll 3 = .ok (.bipush 96, 2) := by decide +kernel
theorem d_Mod_leadsToAll_5 : decode c_Mod_leadsToAll 5 = .ok (.if_icmp .ge 16, 3) := by decide +kernel
theorem d_Mod_leadsToAll_8 : decode c_Mod_leadsToAll 8 = .ok (.aload_n 0, 1) := by decide +kernel
theorem d_Mod_leadsToAll_9 : decode c_Mod_leadsToAll 9 = .ok (.getfield 19, 3) := by decide +kernel
theorem d_Mod_leadsToAll_12 : decode c_Mod_leadsToAll 12 = .ok (.iload_n 2, 1) := by decide +kernel
theorem d_Mod_leadsToAll_13 : decode c_Mod_leadsToAll 13 = .ok (.iconst 0, 1) := by decide +kernel
theorem d_Mod_leadsToAll_14 : decode c_Mod_leadsToAll 14 = .ok (.bastore, 1) := by decide +kernel
theorem d_Mod_leadsToAll_15 : decode c_Mod_leadsToAll 15 = .ok (.iinc 2 1, 3) := by decide +kernel
theorem d_Mod_leadsToAll_18 : decode c_Mod_leadsToAll 18 = .ok (.goto (-16), 3) := by decide +kernel
theorem d_Mod_leadsToAll_21 : decode c_Mod_leadsToAll 21 = .ok (.iconst 1, 1) := by decide +kernel
theorem d_Mod_leadsToAll_22 : decode c_Mod_leadsToAll 22 = .ok (.istore_n 2, 1) := by decide +kernel
theorem d_Mod_leadsToAll_23 : decode c_Mod_leadsToAll 23 = .ok (.aload_n 0, 1) := by decide +kernel
theorem d_Mod_leadsToAll_24 : decode c_Mod_leadsToAll 24 = .ok (.getfield 23, 3) := by decide +kernel
theorem d_Mod_leadsToAll_27 : decode c_Mod_leadsToAll 27 = .ok (.iconst 0, 1) := by decide +kernel
theorem d_Mod_leadsToAll_28 : decode c_Mod_leadsToAll 28 = .ok (.iload_n 1, 1) := by decide +kernel
theorem d_Mod_leadsToAll_29 : decode c_Mod_leadsToAll 29 = .ok (.iastore, 1) := by decide +kernel
theorem d_Mod_leadsToAll_30 : decode c_Mod_leadsToAll 30 = .ok (.aload_n 0, 1) := by decide +kernel
theorem d_Mod_leadsToAll_31 : decode c_Mod_leadsToAll 31 = .ok (.getfield 19, 3) := by decide +kernel
theorem d_Mod_leadsToAll_34 : decode c_Mod_leadsToAll 34 = .ok (.iload_n 1, 1) := by decide +kernel
theorem d_Mod_leadsToAll_35 : decode c_Mod_leadsToAll 35 = .ok (.iconst 1, 1) := by decide +kernel
theorem d_Mod_leadsToAll_36 : decode c_Mod_leadsToAll 36 = .ok (.bastore, 1) := by decide +kernel
theorem d_Mod_leadsToAll_37 : decode c_Mod_leadsToAll 37 = .ok (.iload_n 2, 1) := by decide +kernel
theorem d_Mod_leadsToAll_38 : decode c_Mod_leadsToAll 38 = .ok (.ifCond .le 100, 3) := by decide +kernel
theorem d_Mod_leadsToAll_41 : decode c_Mod_leadsToAll 41 = .ok (.iinc 2 (-1), 3) := by decide +kernel
theorem d_Mod_leadsToAll_44 : decode c_Mod_leadsToAll 44 = .ok (.aload_n 0, 1) := by decide +kernel
theorem d_Mod_leadsToAll_45 : decode c_Mod_leadsToAll 45 = .ok (.getfield 23, 3) := by decide +kernel
theorem d_Mod_leadsToAll_48 : decode c_Mod_leadsToAll 48 = .ok (.iload_n 2, 1) := by decide +kernel
theorem d_Mod_leadsToAll_49 : decode c_Mod_leadsToAll 49 = .ok (.iaload, 1) := by decide +kernel
theorem d_Mod_leadsToAll_50 : decode c_Mod_leadsToAll 50 = .ok (.istore_n 3, 1) := by decide +kernel
theorem d_Mod_leadsToAll_51 : decode c_Mod_leadsToAll 51 = .ok (.iconst 0, 1) := by decide +kernel
theorem d_Mod_leadsToAll_52 : decode c_Mod_leadsToAll 52 = .ok (.istore 4, 2) := by decide +kernel
theorem d_Mod_leadsToAll_54 : decode c_Mod_leadsToAll 54 = .ok (.iload 4, 2) := by decide +kernel
theorem d_Mod_leadsToAll_56 : decode c_Mod_leadsToAll 56 = .ok (.iconst 4, 1) := by decide +kernel
theorem d_Mod_leadsToAll_57 : decode c_Mod_leadsToAll 57 = .ok (.if_icmp .ge 78, 3) := by decide +kernel
theorem d_Mod_leadsToAll_60 : decode c_Mod_leadsToAll 60 = .ok (.iload_n 3, 1) := by decide +kernel
theorem d_Mod_leadsToAll_61 : decode c_Mod_leadsToAll 61 = .ok (.iload 4, 2) := by decide +kernel
theorem d_Mod_leadsToAll_63 : decode c_Mod_leadsToAll 63 = .ok (.invokestatic 108, 3) := by decide +kernel
theorem d_Mod_leadsToAll_66 : decode c_Mod_leadsToAll 66 = .ok (.istore 5, 2) := by decide +kernel
theorem d_Mod_leadsToAll_68 : decode c_Mod_leadsToAll 68 = .ok (.iload 5, 2) := by decide +kernel
theorem d_Mod_leadsToAll_70 : decode c_Mod_leadsToAll 70 = .ok (.ifCond .lt 59, 3) := by decide +kernel
theorem d_Mod_leadsToAll_73 : decode c_Mod_leadsToAll 73 = .ok (.aload_n 0, 1) := by decide +kernel
theorem d_Mod_leadsToAll_74 : decode c_Mod_leadsToAll 74 = .ok (.getfield 7, 3) := by decide +kernel
theorem d_Mod_leadsToAll_77 : decode c_Mod_leadsToAll 77 = .ok (.iload 5, 2) := by decide +kernel
theorem d_Mod_leadsToAll_79 : decode c_Mod_leadsToAll 79 = .ok (.iaload, 1) := by decide +kernel
theorem d_Mod_leadsToAll_80 : decode c_Mod_leadsToAll 80 = .ok (.ifCond .eq 49, 3) := by decide +kernel
theorem d_Mod_leadsToAll_83 : decode c_Mod_leadsToAll 83 = .ok (.aload_n 0, 1) := by decide +kernel
theorem d_Mod_leadsToAll_84 : decode c_Mod_leadsToAll 84 = .ok (.getfield 19, 3) := by decide +kernel
theorem d_Mod_leadsToAll_87 : decode c_Mod_leadsToAll 87 = .ok (.iload 5, 2) := by decide +kernel
theorem d_Mod_leadsToAll_89 : decode c_Mod_leadsToAll 89 = .ok (.baload, 1) := by decide +kernel
theorem d_Mod_leadsToAll_90 : decode c_Mod_leadsToAll 90 = .ok (.ifCond .eq 6, 3) := by decide +kernel
theorem d_Mod_leadsToAll_93 : decode c_Mod_leadsToAll 93 = .ok (.goto 36, 3) := by decide +kernel
theorem d_Mod_leadsToAll_96 : decode c_Mod_leadsToAll 96 = .ok (.aload_n 0, 1) := by decide +kernel
theorem d_Mod_leadsToAll_97 : decode c_Mod_leadsToAll 97 = .ok (.getfield 19, 3) := by decide +kernel
theorem d_Mod_leadsToAll_100 : decode c_Mod_leadsToAll 100 = .ok (.iload 5, 2) := by decide +kernel
theorem d_Mod_leadsToAll_102 : decode c_Mod_leadsToAll 102 = .ok (.iconst 1, 1) := by decide +kernel
theorem d_Mod_leadsToAll_103 : decode c_Mod_leadsToAll 103 = .ok (.bastore, 1) := by decide +kernel
theorem d_Mod_leadsToAll_104 : decode c_Mod_leadsToAll 104 = .ok (.aload_n 0, 1) := by decide +kernel
theorem d_Mod_leadsToAll_105 : decode c_Mod_leadsToAll 105 = .ok (.getfield 7, 3) := by decide +kernel
theorem d_Mod_leadsToAll_108 : decode c_Mod_leadsToAll 108 = .ok (.iload 5, 2) := by decide +kernel
theorem d_Mod_leadsToAll_110 : decode c_Mod_leadsToAll 110 = .ok (.iaload, 1) := by decide +kernel
theorem d_Mod_leadsToAll_111 : decode c_Mod_leadsToAll 111 = .ok (.iconst 1, 1) := by decide +kernel
theorem d_Mod_leadsToAll_112 : decode c_Mod_leadsToAll 112 = .ok (.if_icmp .eq 6, 3) := by decide +kernel
theorem d_Mod_leadsToAll_115 : decode c_Mod_leadsToAll 115 = .ok (.goto 14, 3) := by decide +kernel
theorem d_Mod_leadsToAll_118 : decode c_Mod_leadsToAll 118 = .ok (.aload_n 0, 1) := by decide +kernel
theorem d_Mod_leadsToAll_119 : decode c_Mod_leadsToAll 119 = .ok (.getfield 23, 3) := by decide +kernel
theorem d_Mod_leadsToAll_122 : decode c_Mod_leadsToAll 122 = .ok (.iload_n 2, 1) := by decide +kernel
theorem d_Mod_leadsToAll_123 : decode c_Mod_leadsToAll 123 = .ok (.iload 5, 2) := by decide +kernel
theorem d_Mod_leadsToAll_125 : decode c_Mod_leadsToAll 125 = .ok (.iastore, 1) := by decide +kernel
theorem d_Mod_leadsToAll_126 : decode c_Mod_leadsToAll 126 = .ok (.iinc 2 1, 3) := by decide +kernel
theorem d_Mod_leadsToAll_129 : decode c_Mod_leadsToAll 129 = .ok (.iinc 4 1, 3) := by decide +kernel
theorem d_Mod_leadsToAll_132 : decode c_Mod_leadsToAll 132 = .ok (.goto (-78), 3) := by decide +kernel
theorem d_Mod_leadsToAll_135 : decode c_Mod_leadsToAll 135 = .ok (.goto (-98), 3) := by decide +kernel
theorem d_Mod_leadsToAll_138 : decode c_Mod_leadsToAll 138 = .ok (.iconst 1, 1) := by decide +kernel
theorem d_Mod_leadsToAll_139 : decode c_Mod_leadsToAll 139 = .ok (.istore_n 3, 1) := by decide +kernel
theorem d_Mod_leadsToAll_140 : decode c_Mod_leadsToAll 140 = .ok (.iconst 0, 1) := by decide +kernel
theorem d_Mod_leadsToAll_141 : decode c_Mod_leadsToAll 141 = .ok (.istore 4, 2) := by decide +kernel
theorem d_Mod_leadsToAll_143 : decode c_Mod_leadsToAll 143 = .ok (.iload 4, 2) := by decide +kernel
theorem d_Mod_leadsToAll_145 : decode c_Mod_leadsToAll 145 = .ok (.bipush 96, 2) := by decide +kernel
theorem d_Mod_leadsToAll_147 : decode c_Mod_leadsToAll 147 = .ok (.if_icmp .ge 40, 3) := by decide +kernel
theorem d_Mod_leadsToAll_150 : decode c_Mod_leadsToAll 150 = .ok (.iload_n 3, 1) := by decide +kernel
theorem d_Mod_leadsToAll_151 : decode c_Mod_leadsToAll 151 = .ok (.ifCond .eq 28, 3) := by decide +kernel
theorem d_Mod_leadsToAll_154 : decode c_Mod_leadsToAll 154 = .ok (.aload_n 0, 1) := by decide +kernel
theorem d_Mod_leadsToAll_155 : decode c_Mod_leadsToAll 155 = .ok (.getfield 7, 3) := by decide +kernel
theorem d_Mod_leadsToAll_158 : decode c_Mod_leadsToAll 158 = .ok (.iload 4, 2) := by decide +kernel
theorem d_Mod_leadsToAll_160 : decode c_Mod_leadsToAll 160 = .ok (.iaload, 1) := by decide +kernel
theorem d_Mod_leadsToAll_161 : decode c_Mod_leadsToAll 161 = .ok (.iconst 2, 1) := by decide +kernel
theorem d_Mod_leadsToAll_162 : decode c_Mod_leadsToAll 162 = .ok (.if_icmp .lt 13, 3) := by decide +kernel
theorem d_Mod_leadsToAll_165 : decode c_Mod_leadsToAll 165 = .ok (.aload_n 0, 1) := by decide +kernel
theorem d_Mod_leadsToAll_166 : decode c_Mod_leadsToAll 166 = .ok (.getfield 19, 3) := by decide +kernel
theorem d_Mod_leadsToAll_169 : decode c_Mod_leadsToAll 169 = .ok (.iload 4, 2) := by decide +kernel
theorem d_Mod_leadsToAll_171 : decode c_Mod_leadsToAll 171 = .ok (.baload, 1) := by decide +kernel
theorem d_Mod_leadsToAll_172 : decode c_Mod_leadsToAll 172 = .ok (.ifCond .eq 7, 3) := by decide +kernel
theorem d_Mod_leadsToAll_175 : decode c_Mod_leadsToAll 175 = .ok (.iconst 1, 1) := by decide +kernel
theorem d_Mod_leadsToAll_176 : decode c_Mod_leadsToAll 176 = .ok (.goto 4, 3) := by decide +kernel
theorem d_Mod_leadsToAll_179 : decode c_Mod_leadsToAll 179 = .ok (.iconst 0, 1) := by decide +kernel
theorem d_Mod_leadsToAll_180 : decode c_Mod_leadsToAll 180 = .ok (.istore_n 3, 1) := by decide +kernel
theorem d_Mod_leadsToAll_181 : decode c_Mod_leadsToAll 181 = .ok (.iinc 4 1, 3) := by decide +kernel
theorem d_Mod_leadsToAll_184 : decode c_Mod_leadsToAll 184 = .ok (.goto (-41), 3) := by decide +kernel
theorem d_Mod_leadsToAll_187 : decode c_Mod_leadsToAll 187 = .ok (.iload_n 3, 1) := by decide +kernel
theorem d_Mod_leadsToAll_188 : decode c_Mod_leadsToAll 188 = .ok (.ireturn, 1) := by decide +kernel
abbrev c_Mod_isGood : ByteArray := prog_11_method_8_code
abbrev y_Mod_isGood : MethodName := ⟨"FleetFloorModel", "isGood", "()Z"⟩
theorem d_Mod_isGood_0 : decode c_Mod_isGood 0 = .ok (.iconst 0, 1) := by decide +kernel
theorem d_Mod_isGood_1 : decode c_Mod_isGood 1 = .ok (.istore_n 1, 1) := by decide +kernel
theorem d_Mod_isGood_2 : decode c_Mod_isGood 2 = .ok (.iconst 0, 1) := by decide +kernel
theorem d_Mod_isGood_3 : decode c_Mod_isGood 3 = .ok (.istore_n 2, 1) := by decide +kernel
theorem d_Mod_isGood_4 : decode c_Mod_isGood 4 = .ok (.iconst 0, 1) := by decide +kernel
theorem d_Mod_isGood_5 : decode c_Mod_isGood 5 = .ok (.istore_n 3, 1) := by decide +kernel
theorem d_Mod_isGood_6 : decode c_Mod_isGood 6 = .ok (.iload_n 3, 1) := by decide +kernel
theorem d_Mod_isGood_7 : decode c_Mod_isGood 7 = .ok (.bipush 96, 2) := by decide +kernel
theorem d_Mod_isGood_9 : decode c_Mod_isGood 9 = .ok (.if_icmp .ge 45, 3) := by decide +kernel
theorem d_Mod_isGood_12 : decode c_Mod_isGood 12 = .ok (.iload_n 1, 1) := by decide +kernel
theorem d_Mod_isGood_13 : decode c_Mod_isGood 13 = .ok (.aload_n 0, 1) := by decide +kernel
theorem d_Mod_isGood_14 : decode c_Mod_isGood 14 = .ok (.getfield 7, 3) := by decide +kernel
theorem d_Mod_isGood_17 : decode c_Mod_isGood 17 = .ok (.iload_n 3, 1) := by decide +kernel
theorem d_Mod_isGood_18 : decode c_Mod_isGood 18 = .ok (.iaload, 1) := by decide +kernel
theorem d_Mod_isGood_19 : decode c_Mod_isGood 19 = .ok (.iconst 2, 1) := by decide +kernel
theorem d_Mod_isGood_20 : decode c_Mod_isGood 20 = .ok (.if_icmp .ne 7, 3) := by decide +kernel
theorem d_Mod_isGood_23 : decode c_Mod_isGood 23 = .ok (.iconst 1, 1) := by decide +kernel
theorem d_Mod_isGood_24 : decode c_Mod_isGood 24 = .ok (.goto 4, 3) := by decide +kernel
theorem d_Mod_isGood_27 : decode c_Mod_isGood 27 = .ok (.iconst 0, 1) := by decide +kernel
theorem d_Mod_isGood_28 : decode c_Mod_isGood 28 = .ok (.iadd, 1) := by decide +kernel
theorem d_Mod_isGood_29 : decode c_Mod_isGood 29 = .ok (.istore_n 1, 1) := by decide +kernel
theorem d_Mod_isGood_30 : decode c_Mod_isGood 30 = .ok (.iload_n 2, 1) := by decide +kernel
theorem d_Mod_isGood_31 : decode c_Mod_isGood 31 = .ok (.aload_n 0, 1) := by decide +kernel
theorem d_Mod_isGood_32 : decode c_Mod_isGood 32 = .ok (.getfield 7, 3) := by decide +kernel
theorem d_Mod_isGood_35 : decode c_Mod_isGood 35 = .ok (.iload_n 3, 1) := by decide +kernel
theorem d_Mod_isGood_36 : decode c_Mod_isGood 36 = .ok (.iaload, 1) := by decide +kernel
theorem d_Mod_isGood_37 : decode c_Mod_isGood 37 = .ok (.iconst 3, 1) := by decide +kernel
theorem d_Mod_isGood_38 : decode c_Mod_isGood 38 = .ok (.if_icmp .ne 7, 3) := by decide +kernel
theorem d_Mod_isGood_41 : decode c_Mod_isGood 41 = .ok (.iconst 1, 1) := by decide +kernel
theorem d_Mod_isGood_42 : decode c_Mod_isGood 42 = .ok (.goto 4, 3) := by decide +kernel
theorem d_Mod_isGood_45 : decode c_Mod_isGood 45 = .ok (.iconst 0, 1) := by decide +kernel
theorem d_Mod_isGood_46 : decode c_Mod_isGood 46 = .ok (.iadd, 1) := by decide +kernel
theorem d_Mod_isGood_47 : decode c_Mod_isGood 47 = .ok (.istore_n 2, 1) := by decide +kernel
theorem d_Mod_isGood_48 : decode c_Mod_isGood 48 = .ok (.iinc 3 1, 3) := by decide +kernel
theorem d_Mod_isGood_51 : decode c_Mod_isGood 51 = .ok (.goto (-45), 3) := by decide +kernel
theorem d_Mod_isGood_54 : decode c_Mod_isGood 54 = .ok (.iload_n 2, 1) := by decide +kernel
theorem d_Mod_isGood_55 : decode c_Mod_isGood 55 = .ok (.iconst 1, 1) := by decide +kernel
theorem d_Mod_isGood_56 : decode c_Mod_isGood 56 = .ok (.bipush 6, 2) := by decide +kernel
theorem d_Mod_isGood_58 : decode c_Mod_isGood 58 = .ok (.invokestatic 104, 3) := by decide +kernel
theorem d_Mod_isGood_61 : decode c_Mod_isGood 61 = .ok (.ifCond .eq 17, 3) := by decide +kernel
theorem d_Mod_isGood_64 : decode c_Mod_isGood 64 = .ok (.iload_n 1, 1) := by decide +kernel
theorem d_Mod_isGood_65 : decode c_Mod_isGood 65 = .ok (.iconst 2, 1) := by decide +kernel
theorem d_Mod_isGood_66 : decode c_Mod_isGood 66 = .ok (.bipush 16, 2) := by decide +kernel
theorem d_Mod_isGood_68 : decode c_Mod_isGood 68 = .ok (.invokestatic 104, 3) := by decide +kernel
theorem d_Mod_isGood_71 : decode c_Mod_isGood 71 = .ok (.ifCond .eq 7, 3) := by decide +kernel
theorem d_Mod_isGood_74 : decode c_Mod_isGood 74 = .ok (.iconst 1, 1) := by decide +kernel
theorem d_Mod_isGood_75 : decode c_Mod_isGood 75 = .ok (.goto 4, 3) := by decide +kernel
theorem d_Mod_isGood_78 : decode c_Mod_isGood 78 = .ok (.iconst 0, 1) := by decide +kernel
theorem d_Mod_isGood_79 : decode c_Mod_isGood 79 = .ok (.istore_n 3, 1) := by decide +kernel
theorem d_Mod_isGood_80 : decode c_Mod_isGood 80 = .ok (.iconst 0, 1) := by decide +kernel
theorem d_Mod_isGood_81 : decode c_Mod_isGood 81 = .ok (.istore 4, 2) := by decide +kernel
theorem d_Mod_isGood_83 : decode c_Mod_isGood 83 = .ok (.iload 4, 2) := by decide +kernel
theorem d_Mod_isGood_85 : decode c_Mod_isGood 85 = .ok (.bipush 96, 2) := by decide +kernel
theorem d_Mod_isGood_87 : decode c_Mod_isGood 87 = .ok (.if_icmp .ge 39, 3) := by decide +kernel
theorem d_Mod_isGood_90 : decode c_Mod_isGood 90 = .ok (.iload_n 3, 1) := by decide +kernel
theorem d_Mod_isGood_91 : decode c_Mod_isGood 91 = .ok (.ifCond .eq 35, 3) := by decide +kernel
theorem d_Mod_isGood_94 : decode c_Mod_isGood 94 = .ok (.aload_n 0, 1) := by decide +kernel
theorem d_Mod_isGood_95 : decode c_Mod_isGood 95 = .ok (.getfield 7, 3) := by decide +kernel
theorem d_Mod_isGood_98 : decode c_Mod_isGood 98 = .ok (.iload 4, 2) := by decide +kernel
theorem d_Mod_isGood_100 : decode c_Mod_isGood 100 = .ok (.iaload, 1) := by decide +kernel
theorem d_Mod_isGood_101 : decode c_Mod_isGood 101 = .ok (.iconst 2, 1) := by decide +kernel
theorem d_Mod_isGood_102 : decode c_Mod_isGood 102 = .ok (.if_icmp .lt 12, 3) := by decide +kernel
theorem d_Mod_isGood_105 : decode c_Mod_isGood 105 = .ok (.aload_n 0, 1) := by decide +kernel
theorem d_Mod_isGood_106 : decode c_Mod_isGood 106 = .ok (.iload 4, 2) := by decide +kernel
theorem d_Mod_isGood_108 : decode c_Mod_isGood 108 = .ok (.invokevirtual 112, 3) := by decide +kernel
theorem d_Mod_isGood_111 : decode c_Mod_isGood 111 = .ok (.ifCond .eq 7, 3) := by decide +kernel
theorem d_Mod_isGood_114 : decode c_Mod_isGood 114 = .ok (.iconst 1, 1) := by decide +kernel
theorem d_Mod_isGood_115 : decode c_Mod_isGood 115 = .ok (.goto 4, 3) := by decide +kernel
theorem d_Mod_isGood_118 : decode c_Mod_isGood 118 = .ok (.iconst 0, 1) := by decide +kernel
theorem d_Mod_isGood_119 : decode c_Mod_isGood 119 = .ok (.istore_n 3, 1) := by decide +kernel
theorem d_Mod_isGood_120 : decode c_Mod_isGood 120 = .ok (.iinc 4 1, 3) := by decide +kernel
theorem d_Mod_isGood_123 : decode c_Mod_isGood 123 = .ok (.goto (-40), 3) := by decide +kernel
theorem d_Mod_isGood_126 : decode c_Mod_isGood 126 = .ok (.iload_n 3, 1) := by decide +kernel
theorem d_Mod_isGood_127 : decode c_Mod_isGood 127 = .ok (.ireturn, 1) := by decide +kernel
abbrev c_Mod_open : ByteArray := prog_11_method_9_code
abbrev y_Mod_open : MethodName := ⟨"FleetFloorModel", "open", "()I"⟩
theorem d_Mod_open_0 : decode c_Mod_open 0 = .ok (.aload_n 0, 1) := by decide +kernel
theorem d_Mod_open_1 : decode c_Mod_open 1 = .ok (.aload_n 0, 1) := by decide +kernel
theorem d_Mod_open_2 : decode c_Mod_open 2 = .ok (.invokevirtual 116, 3) := by decide +kernel
theorem d_Mod_open_5 : decode c_Mod_open 5 = .ok (.ifCond .ne 7, 3) := by decide +kernel
theorem d_Mod_open_8 : decode c_Mod_open 8 = .ok (.iconst 1, 1) := by decide +kernel
theorem d_Mod_open_9 : decode c_Mod_open 9 = .ok (.goto 4, 3) := by decide +kernel
theorem d_Mod_open_12 : decode c_Mod_open 12 = .ok (.iconst 0, 1) := by decide +kernel
theorem d_Mod_open_13 : decode c_Mod_open 13 = .ok (.aload_n 0, 1) := by decide +kernel
theorem d_Mod_open_14 : decode c_Mod_open 14 = .ok (.getfield 100, 3) := by decide +kernel
theorem d_Mod_open_17 : decode c_Mod_open 17 = .ok (.invokevirtual 120, 3) := by decide +kernel
theorem d_Mod_open_20 : decode c_Mod_open 20 = .ok (.ifCond .eq 5, 3) := by decide +kernel
theorem d_Mod_open_23 : decode c_Mod_open 23 = .ok (.iconst 0, 1) := by decide +kernel
theorem d_Mod_open_24 : decode c_Mod_open 24 = .ok (.ireturn, 1) := by decide +kernel
theorem d_Mod_open_25 : decode c_Mod_open 25 = .ok (.aload_n 0, 1) := by decide +kernel
theorem d_Mod_open_26 : decode c_Mod_open 26 = .ok (.iconst 1, 1) := by decide +kernel
theorem d_Mod_open_27 : decode c_Mod_open 27 = .ok (.putfield 100, 3) := by decide +kernel
theorem d_Mod_open_30 : decode c_Mod_open 30 = .ok (.iconst 0, 1) := by decide +kernel
theorem d_Mod_open_31 : decode c_Mod_open 31 = .ok (.istore_n 1, 1) := by decide +kernel
theorem d_Mod_open_32 : decode c_Mod_open 32 = .ok (.iload_n 1, 1) := by decide +kernel
theorem d_Mod_open_33 : decode c_Mod_open 33 = .ok (.bipush 96, 2) := by decide +kernel
theorem d_Mod_open_35 : decode c_Mod_open 35 = .ok (.if_icmp .ge 89, 3) := by decide +kernel
theorem d_Mod_open_38 : decode c_Mod_open 38 = .ok (.aload_n 0, 1) := by decide +kernel
theorem d_Mod_open_39 : decode c_Mod_open 39 = .ok (.getfield 7, 3) := by decide +kernel
theorem d_Mod_open_42 : decode c_Mod_open 42 = .ok (.iload_n 1, 1) := by decide +kernel
theorem d_Mod_open_43 : decode c_Mod_open 43 = .ok (.iaload, 1) := by decide +kernel
theorem d_Mod_open_44 : decode c_Mod_open 44 = .ok (.iconst 2, 1) := by decide +kernel
theorem d_Mod_open_45 : decode c_Mod_open 45 = .ok (.if_icmp .ne 23, 3) := by decide +kernel
theorem d_Mod_open_48 : decode c_Mod_open 48 = .ok (.aload_n 0, 1) := by decide +kernel
theorem d_Mod_open_49 : decode c_Mod_open 49 = .ok (.getfield 13, 3) := by decide +kernel
theorem d_Mod_open_52 : decode c_Mod_open 52 = .ok (.aload_n 0, 1) := by decide +kernel
theorem d_Mod_open_53 : decode c_Mod_open 53 = .ok (.getfield 124, 3) := by decide +kernel
theorem d_Mod_open_56 : decode c_Mod_open 56 = .ok (.iload_n 1, 1) := by decide +kernel
theorem d_Mod_open_57 : decode c_Mod_open 57 = .ok (.iastore, 1) := by decide +kernel
theorem d_Mod_open_58 : decode c_Mod_open 58 = .ok (.aload_n 0, 1) := by decide +kernel
theorem d_Mod_open_59 : decode c_Mod_open 59 = .ok (.dup, 1) := by decide +kernel
theorem d_Mod_open_60 : decode c_Mod_open 60 = .ok (.getfield 124, 3) := by decide +kernel
theorem d_Mod_open_63 : decode c_Mod_open 63 = .ok (.iconst 1, 1) := by decide +kernel
theorem d_Mod_open_64 : decode c_Mod_open 64 = .ok (.iadd, 1) := by decide +kernel
theorem d_Mod_open_65 : decode c_Mod_open 65 = .ok (.putfield 124, 3) := by decide +kernel
theorem d_Mod_open_68 : decode c_Mod_open 68 = .ok (.aload_n 0, 1) := by decide +kernel
theorem d_Mod_open_69 : decode c_Mod_open 69 = .ok (.getfield 7, 3) := by decide +kernel
theorem d_Mod_open_72 : decode c_Mod_open 72 = .ok (.iload_n 1, 1) := by decide +kernel
theorem d_Mod_open_73 : decode c_Mod_open 73 = .ok (.iaload, 1) := by decide +kernel
theorem d_Mod_open_74 : decode c_Mod_open 74 = .ok (.iconst 3, 1) := by decide +kernel
theorem d_Mod_open_75 : decode c_Mod_open 75 = .ok (.if_icmp .ne 43, 3) := by decide +kernel
theorem d_Mod_open_78 : decode c_Mod_open 78 = .ok (.aload_n 0, 1) := by decide +kernel
theorem d_Mod_open_79 : decode c_Mod_open 79 = .ok (.getfield 16, 3) := by decide +kernel
theorem d_Mod_open_82 : decode c_Mod_open 82 = .ok (.aload_n 0, 1) := by decide +kernel
theorem d_Mod_open_83 : decode c_Mod_open 83 = .ok (.getfield 127, 3) := by decide +kernel
theorem d_Mod_open_86 : decode c_Mod_open 86 = .ok (.iload_n 1, 1) := by decide +kernel
theorem d_Mod_open_87 : decode c_Mod_open 87 = .ok (.iastore, 1) := by decide +kernel
theorem d_Mod_open_88 : decode c_Mod_open 88 = .ok (.aload_n 0, 1) := by decide +kernel
theorem d_Mod_open_89 : decode c_Mod_open 89 = .ok (.getfield 56, 3) := by decide +kernel
theorem d_Mod_open_92 : decode c_Mod_open 92 = .ok (.aload_n 0, 1) := by decide +kernel
theorem d_Mod_open_93 : decode c_Mod_open 93 = .ok (.getfield 127, 3) := by decide +kernel
theorem d_Mod_open_96 : decode c_Mod_open 96 = .ok (.iload_n 1, 1) := by decide +kernel
theorem d_Mod_open_97 : decode c_Mod_open 97 = .ok (.iastore, 1) := by decide +kernel
theorem d_Mod_open_98 : decode c_Mod_open 98 = .ok (.aload_n 0, 1) := by decide +kernel
theorem d_Mod_open_99 : decode c_Mod_open 99 = .ok (.getfield 74, 3) := by decide +kernel
theorem d_Mod_open_102 : decode c_Mod_open 102 = .ok (.aload_n 0, 1) := by decide +kernel
theorem d_Mod_open_103 : decode c_Mod_open 103 = .ok (.getfield 127, 3) := by decide +kernel
theorem d_Mod_open_106 : decode c_Mod_open 106 = .ok (.iconst (-1), 1) := by decide +kernel
theorem d_Mod_open_107 : decode c_Mod_open 107 = .ok (.iastore, 1) := by decide +kernel
theorem d_Mod_open_108 : decode c_Mod_open 108 = .ok (.aload_n 0, 1) := by decide +kernel
theorem d_Mod_open_109 : decode c_Mod_open 109 = .ok (.dup, 1) := by decide +kernel
theorem d_Mod_open_110 : decode c_Mod_open 110 = .ok (.getfield 127, 3) := by decide +kernel
theorem d_Mod_open_113 : decode c_Mod_open 113 = .ok (.iconst 1, 1) := by decide +kernel
theorem d_Mod_open_114 : decode c_Mod_open 114 = .ok (.iadd, 1) := by decide +kernel
theorem d_Mod_open_115 : decode c_Mod_open 115 = .ok (.putfield 127, 3) := by decide +kernel
theorem d_Mod_open_118 : decode c_Mod_open 118 = .ok (.iinc 1 1, 3) := by decide +kernel
theorem d_Mod_open_121 : decode c_Mod_open 121 = .ok (.goto (-89), 3) := by decide +kernel
theorem d_Mod_open_124 : decode c_Mod_open 124 = .ok (.aload_n 0, 1) := by decide +kernel
theorem d_Mod_open_125 : decode c_Mod_open 125 = .ok (.getfield 127, 3) := by decide +kernel
theorem d_Mod_open_128 : decode c_Mod_open 128 = .ok (.ireturn, 1) := by decide +kernel
abbrev c_Mod_task : ByteArray := prog_11_method_10_code
abbrev y_Mod_task : MethodName := ⟨"FleetFloorModel", "task", "(II)I"⟩
theorem d_Mod_task_0 : decode c_Mod_task 0 = .ok (.aload_n 0, 1) := by decide +kernel
theorem d_Mod_task_1 : decode c_Mod_task 1 = .ok (.aload_n 0, 1) := by decide +kernel
theorem d_Mod_task_2 : decode c_Mod_task 2 = .ok (.getfield 100, 3) := by decide +kernel
theorem d_Mod_task_5 : decode c_Mod_task 5 = .ok (.ifCond .eq 12, 3) := by decide +kernel
theorem d_Mod_task_8 : decode c_Mod_task 8 = .ok (.aload_n 0, 1) := by decide +kernel
theorem d_Mod_task_9 : decode c_Mod_task 9 = .ok (.getfield 130, 3) := by decide +kernel
theorem d_Mod_task_12 : decode c_Mod_task 12 = .ok (.bipush 24, 2) := by decide +kernel
theorem d_Mod_task_14 : decode c_Mod_task 14 = .ok (.if_icmp .ne 7, 3) := by decide +kernel
theorem d_Mod_task_17 : decode c_Mod_task 17 = .ok (.iconst 1, 1) := by decide +kernel
theorem d_Mod_task_18 : decode c_Mod_task 18 = .ok (.goto 4, 3) := by decide +kernel
theorem d_Mod_task_21 : decode c_Mod_task 21 = .ok (.iconst 0, 1) := by decide +kernel
theorem d_Mod_task_22 : decode c_Mod_task 22 = .ok (.iload_n 1, 1) := by decide +kernel
theorem d_Mod_task_23 : decode c_Mod_task 23 = .ok (.iconst 0, 1) := by decide +kernel
theorem d_Mod_task_24 : decode c_Mod_task 24 = .ok (.aload_n 0, 1) := by decide +kernel
theorem d_Mod_task_25 : decode c_Mod_task 25 = .ok (.getfield 124, 3) := by decide +kernel
theorem d_Mod_task_28 : decode c_Mod_task 28 = .ok (.iconst 1, 1) := by decide +kernel
theorem d_Mod_task_29 : decode c_Mod_task 29 = .ok (.isub, 1) := by decide +kernel
theorem d_Mod_task_30 : decode c_Mod_task 30 = .ok (.invokestatic 104, 3) := by decide +kernel
theorem d_Mod_task_33 : decode c_Mod_task 33 = .ok (.ifCond .eq 17, 3) := by decide +kernel
theorem d_Mod_task_36 : decode c_Mod_task 36 = .ok (.iload_n 2, 1) := by decide +kernel
theorem d_Mod_task_37 : decode c_Mod_task 37 = .ok (.iconst 0, 1) := by decide +kernel
theorem d_Mod_task_38 : decode c_Mod_task 38 = .ok (.aload_n 0, 1) := by decide +kernel
theorem d_Mod_task_39 : decode c_Mod_task 39 = .ok (.getfield 124, 3) := by decide +kernel
theorem d_Mod_task_42 : decode c_Mod_task 42 = .ok (.iconst 1, 1) := by decide +kernel
theorem d_Mod_task_43 : decode c_Mod_task 43 = .ok (.isub, 1) := by decide +kernel
theorem d_Mod_task_44 : decode c_Mod_task 44 = .ok (.invokestatic 104, 3) := by decide +kernel
theorem d_Mod_task_47 : decode c_Mod_task 47 = .ok (.ifCond .ne 7, 3) := by decide +kernel
theorem d_Mod_task_50 : decode c_Mod_task 50 = .ok (.iconst 1, 1) := by decide +kernel
theorem d_Mod_task_51 : decode c_Mod_task 51 = .ok (.goto 4, 3) := by decide +kernel
theorem d_Mod_task_54 : decode c_Mod_task 54 = .ok (.iconst 0, 1) := by decide +kernel
theorem d_Mod_task_55 : decode c_Mod_task 55 = .ok (.invokevirtual 120, 3) := by decide +kernel
theorem d_Mod_task_58 : decode c_Mod_task 58 = .ok (.ifCond .eq 5, 3) := by decide +kernel
theorem d_Mod_task_61 : decode c_Mod_task 61 = .ok (.iconst 0, 1) := by decide +kernel
theorem d_Mod_task_62 : decode c_Mod_task 62 = .ok (.ireturn, 1) := by decide +kernel
theorem d_Mod_task_63 : decode c_Mod_task 63 = .ok (.aload_n 0, 1) := by decide +kernel
theorem d_Mod_task_64 : decode c_Mod_task 64 = .ok (.getfield 26, 3) := by decide +kernel
theorem d_Mod_task_67 : decode c_Mod_task 67 = .ok (.aload_n 0, 1) := by decide +kernel
theorem d_Mod_task_68 : decode c_Mod_task 68 = .ok (.getfield 130, 3) := by decide +kernel
theorem d_Mod_task_71 : decode c_Mod_task 71 = .ok (.aload_n 0, 1) := by decide +kernel
theorem d_Mod_task_72 : decode c_Mod_task 72 = .ok (.getfield 13, 3) := by decide +kernel
theorem d_Mod_task_75 : decode c_Mod_task 75 = .ok (.iload_n 1, 1) := by decide +kernel
theorem d_Mod_task_76 : decode c_Mod_task 76 = .ok (.iaload, 1) := by decide +kernel
theorem d_Mod_task_77 : decode c_Mod_task 77 = .ok (.iastore, 1) := by decide +kernel
theorem d_Mod_task_78 : decode c_Mod_task 78 = .ok (.aload_n 0, 1) := by decide +kernel
theorem d_Mod_task_79 : decode c_Mod_task 79 = .ok (.getfield 29, 3) := by decide +kernel
theorem d_Mod_task_82 : decode c_Mod_task 82 = .ok (.aload_n 0, 1) := by decide +kernel
theorem d_Mod_task_83 : decode c_Mod_task 83 = .ok (.getfield 130, 3) := by decide +kernel
theorem d_Mod_task_86 : decode c_Mod_task 86 = .ok (.aload_n 0, 1) := by decide +kernel
theorem d_Mod_task_87 : decode c_Mod_task 87 = .ok (.getfield 13, 3) := by decide +kernel
theorem d_Mod_task_90 : decode c_Mod_task 90 = .ok (.iload_n 2, 1) := by decide +kernel
theorem d_Mod_task_91 : decode c_Mod_task 91 = .ok (.iaload, 1) := by decide +kernel
theorem d_Mod_task_92 : decode c_Mod_task 92 = .ok (.iastore, 1) := by decide +kernel
theorem d_Mod_task_93 : decode c_Mod_task 93 = .ok (.aload_n 0, 1) := by decide +kernel
theorem d_Mod_task_94 : decode c_Mod_task 94 = .ok (.getfield 32, 3) := by decide +kernel
theorem d_Mod_task_97 : decode c_Mod_task 97 = .ok (.aload_n 0, 1) := by decide +kernel
theorem d_Mod_task_98 : decode c_Mod_task 98 = .ok (.getfield 130, 3) := by decide +kernel
theorem d_Mod_task_101 : decode c_Mod_task 101 = .ok (.iconst (-1), 1) := by decide +kernel
theorem d_Mod_task_102 : decode c_Mod_task 102 = .ok (.iastore, 1) := by decide +kernel
theorem d_Mod_task_103 : decode c_Mod_task 103 = .ok (.aload_n 0, 1) := by decide +kernel
theorem d_Mod_task_104 : decode c_Mod_task 104 = .ok (.getfield 47, 3) := by decide +kernel
theorem d_Mod_task_107 : decode c_Mod_task 107 = .ok (.aload_n 0, 1) := by decide +kernel
theorem d_Mod_task_108 : decode c_Mod_task 108 = .ok (.getfield 130, 3) := by decide +kernel
theorem d_Mod_task_111 : decode c_Mod_task 111 = .ok (.iconst (-1), 1) := by decide +kernel
theorem d_Mod_task_112 : decode c_Mod_task 112 = .ok (.iastore, 1) := by decide +kernel
theorem d_Mod_task_113 : decode c_Mod_task 113 = .ok (.aload_n 0, 1) := by decide +kernel
theorem d_Mod_task_114 : decode c_Mod_task 114 = .ok (.dup, 1) := by decide +kernel
theorem d_Mod_task_115 : decode c_Mod_task 115 = .ok (.getfield 130, 3) := by decide +kernel
theorem d_Mod_task_118 : decode c_Mod_task 118 = .ok (.iconst 1, 1) := by decide +kernel
theorem d_Mod_task_119 : decode c_Mod_task 119 = .ok (.iadd, 1) := by decide +kernel
theorem d_Mod_task_120 : decode c_Mod_task 120 = .ok (.putfield 130, 3) := by decide +kernel
theorem d_Mod_task_123 : decode c_Mod_task 123 = .ok (.aload_n 0, 1) := by decide +kernel
theorem d_Mod_task_124 : decode c_Mod_task 124 = .ok (.getfield 130, 3) := by decide +kernel
theorem d_Mod_task_127 : decode c_Mod_task 127 = .ok (.iconst 1, 1) := by decide +kernel
theorem d_Mod_task_128 : decode c_Mod_task 128 = .ok (.isub, 1) := by decide +kernel
theorem d_Mod_task_129 : decode c_Mod_task 129 = .ok (.ireturn, 1) := by decide +kernel
abbrev c_Mod_placeOf : ByteArray := prog_11_method_11_code
abbrev y_Mod_placeOf : MethodName := ⟨"FleetFloorModel", "placeOf", "(II)I"⟩
theorem d_Mod_placeOf_0 : decode c_Mod_placeOf 0 = .ok (.iconst 0, 1) := by decide +kernel
theorem d_Mod_placeOf_1 : decode c_Mod_placeOf 1 = .ok (.istore_n 3, 1) := by decide +kernel
theorem d_Mod_placeOf_2 : decode c_Mod_placeOf 2 = .ok (.iload_n 3, 1) := by decide +kernel
theorem d_Mod_placeOf_3 : decode c_Mod_placeOf 3 = .ok (.aload_n 0, 1) := by decide +kernel
theorem d_Mod_placeOf_4 : decode c_Mod_placeOf 4 = .ok (.getfield 133, 3) := by decide +kernel
theorem d_Mod_placeOf_7 : decode c_Mod_placeOf 7 = .ok (.if_icmp .ge 62, 3) := by decide +kernel
theorem d_Mod_placeOf_10 : decode c_Mod_placeOf 10 = .ok (.aload_n 0, 1) := by decide +kernel
theorem d_Mod_placeOf_11 : decode c_Mod_placeOf 11 = .ok (.getfield 32, 3) := by decide +kernel
theorem d_Mod_placeOf_14 : decode c_Mod_placeOf 14 = .ok (.iload_n 3, 1) := by decide +kernel
theorem d_Mod_placeOf_15 : decode c_Mod_placeOf 15 = .ok (.iaload, 1) := by decide +kernel
theorem d_Mod_placeOf_16 : decode c_Mod_placeOf 16 = .ok (.iload_n 1, 1) := by decide +kernel
theorem d_Mod_placeOf_17 : decode c_Mod_placeOf 17 = .ok (.if_icmp .ne 46, 3) := by decide +kernel
theorem d_Mod_placeOf_20 : decode c_Mod_placeOf 20 = .ok (.iload_n 2, 1) := by decide +kernel
theorem d_Mod_placeOf_21 : decode c_Mod_placeOf 21 = .ok (.aload_n 0, 1) := by decide +kernel
theorem d_Mod_placeOf_22 : decode c_Mod_placeOf 22 = .ok (.getfield 41, 3) := by decide +kernel
theorem d_Mod_placeOf_25 : decode c_Mod_placeOf 25 = .ok (.iload_n 3, 1) := by decide +kernel
theorem d_Mod_placeOf_26 : decode c_Mod_placeOf 26 = .ok (.iaload, 1) := by decide +kernel
theorem d_Mod_placeOf_27 : decode c_Mod_placeOf 27 = .ok (.if_icmp .lt 36, 3) := by decide +kernel
theorem d_Mod_placeOf_30 : decode c_Mod_placeOf 30 = .ok (.iload_n 2, 1) := by decide +kernel
theorem d_Mod_placeOf_31 : decode c_Mod_placeOf 31 = .ok (.aload_n 0, 1) := by decide +kernel
theorem d_Mod_placeOf_32 : decode c_Mod_placeOf 32 = .ok (.getfield 41, 3) := by decide +kernel
theorem d_Mod_placeOf_35 : decode c_Mod_placeOf 35 = .ok (.iload_n 3, 1) := by decide +kernel
theorem d_Mod_placeOf_36 : decode c_Mod_placeOf 36 = .ok (.iaload, 1) := by decide +kernel
theorem d_Mod_placeOf_37 : decode c_Mod_placeOf 37 = .ok (.aload_n 0, 1) := by decide +kernel
theorem d_Mod_placeOf_38 : decode c_Mod_placeOf 38 = .ok (.getfield 38, 3) := by decide +kernel
theorem d_Mod_placeOf_41 : decode c_Mod_placeOf 41 = .ok (.iload_n 3, 1) := by decide +kernel
theorem d_Mod_placeOf_42 : decode c_Mod_placeOf 42 = .ok (.iaload, 1) := by decide +kernel
theorem d_Mod_placeOf_43 : decode c_Mod_placeOf 43 = .ok (.iadd, 1) := by decide +kernel
theorem d_Mod_placeOf_44 : decode c_Mod_placeOf 44 = .ok (.if_icmp .ge 19, 3) := by decide +kernel
theorem d_Mod_placeOf_47 : decode c_Mod_placeOf 47 = .ok (.aload_n 0, 1) := by decide +kernel
theorem d_Mod_placeOf_48 : decode c_Mod_placeOf 48 = .ok (.getfield 35, 3) := by decide +kernel
theorem d_Mod_placeOf_51 : decode c_Mod_placeOf 51 = .ok (.iload_n 3, 1) := by decide +kernel
theorem d_Mod_placeOf_52 : decode c_Mod_placeOf 52 = .ok (.iaload, 1) := by decide +kernel
theorem d_Mod_placeOf_53 : decode c_Mod_placeOf 53 = .ok (.iload_n 2, 1) := by decide +kernel
theorem d_Mod_placeOf_54 : decode c_Mod_placeOf 54 = .ok (.iadd, 1) := by decide +kernel
theorem d_Mod_placeOf_55 : decode c_Mod_placeOf 55 = .ok (.aload_n 0, 1) := by decide +kernel
theorem d_Mod_placeOf_56 : decode c_Mod_placeOf 56 = .ok (.getfield 41, 3) := by decide +kernel
theorem d_Mod_placeOf_59 : decode c_Mod_placeOf 59 = .ok (.iload_n 3, 1) := by decide +kernel
theorem d_Mod_placeOf_60 : decode c_Mod_placeOf 60 = .ok (.iaload, 1) := by decide +kernel
theorem d_Mod_placeOf_61 : decode c_Mod_placeOf 61 = .ok (.isub, 1) := by decide +kernel
theorem d_Mod_placeOf_62 : decode c_Mod_placeOf 62 = .ok (.ireturn, 1) := by decide +kernel
theorem d_Mod_placeOf_63 : decode c_Mod_placeOf 63 = .ok (.iinc 3 1, 3) := by decide +kernel
theorem d_Mod_placeOf_66 : decode c_Mod_placeOf 66 = .ok (.goto (-64), 3) := by decide +kernel
theorem d_Mod_placeOf_69 : decode c_Mod_placeOf 69 = .ok (.iconst (-1), 1) := by decide +kernel
theorem d_Mod_placeOf_70 : decode c_Mod_placeOf 70 = .ok (.ireturn, 1) := by decide +kernel
abbrev c_Mod_isIn : ByteArray := prog_11_method_12_code
abbrev y_Mod_isIn : MethodName := ⟨"FleetFloorModel", "isIn", "([JII)Z"⟩
theorem d_Mod_isIn_0 : decode c_Mod_isIn 0 = .ok (.aload_n 0, 1) := by decide +kernel
theorem d_Mod_isIn_1 : decode c_Mod_isIn 1 = .ok (.iconst 2, 1) := by decide +kernel
theorem d_Mod_isIn_2 : decode c_Mod_isIn 2 = .ok (.iload_n 1, 1) := by decide +kernel
theorem d_Mod_isIn_3 : decode c_Mod_isIn 3 = .ok (.imul, 1) := by decide +kernel
theorem d_Mod_isIn_4 : decode c_Mod_isIn 4 = .ok (.iload_n 2, 1) := by decide +kernel
theorem d_Mod_isIn_5 : decode c_Mod_isIn 5 = .ok (.bipush 6, 2) := by decide +kernel
theorem d_Mod_isIn_7 : decode c_Mod_isIn 7 = .ok (.ishr, 1) := by decide +kernel
theorem d_Mod_isIn_8 : decode c_Mod_isIn 8 = .ok (.iadd, 1) := by decide +kernel
theorem d_Mod_isIn_9 : decode c_Mod_isIn 9 = .ok (.laload, 1) := by decide +kernel
theorem d_Mod_isIn_10 : decode c_Mod_isIn 10 = .ok (.iload_n 2, 1) := by decide +kernel
theorem d_Mod_isIn_11 : decode c_Mod_isIn 11 = .ok (.lshr, 1) := by decide +kernel
theorem d_Mod_isIn_12 : decode c_Mod_isIn 12 = .ok (.lconst 1, 1) := by decide +kernel
theorem d_Mod_isIn_13 : decode c_Mod_isIn 13 = .ok (.land, 1) := by decide +kernel
theorem d_Mod_isIn_14 : decode c_Mod_isIn 14 = .ok (.lconst 1, 1) := by decide +kernel
theorem d_Mod_isIn_15 : decode c_Mod_isIn 15 = .ok (.lcmp, 1) := by decide +kernel
theorem d_Mod_isIn_16 : decode c_Mod_isIn 16 = .ok (.ifCond .ne 7, 3) := by decide +kernel
theorem d_Mod_isIn_19 : decode c_Mod_isIn 19 = .ok (.iconst 1, 1) := by decide +kernel
theorem d_Mod_isIn_20 : decode c_Mod_isIn 20 = .ok (.goto 4, 3) := by decide +kernel
theorem d_Mod_isIn_23 : decode c_Mod_isIn 23 = .ok (.iconst 0, 1) := by decide +kernel
theorem d_Mod_isIn_24 : decode c_Mod_isIn 24 = .ok (.ireturn, 1) := by decide +kernel
abbrev c_Mod_add : ByteArray := prog_11_method_13_code
abbrev y_Mod_add : MethodName := ⟨"FleetFloorModel", "add", "([JII)V"⟩
theorem d_Mod_add_0 : decode c_Mod_add 0 = .ok (.aload_n 0, 1) := by decide +kernel
theorem d_Mod_add_1 : decode c_Mod_add 1 = .ok (.iconst 2, 1) := by decide +kernel
theorem d_Mod_add_2 : decode c_Mod_add 2 = .ok (.iload_n 1, 1) := by decide +kernel
theorem d_Mod_add_3 : decode c_Mod_add 3 = .ok (.imul, 1) := by decide +kernel
theorem d_Mod_add_4 : decode c_Mod_add 4 = .ok (.iload_n 2, 1) := by decide +kernel
theorem d_Mod_add_5 : decode c_Mod_add 5 = .ok (.bipush 6, 2) := by decide +kernel
theorem d_Mod_add_7 : decode c_Mod_add 7 = .ok (.ishr, 1) := by decide +kernel
theorem d_Mod_add_8 : decode c_Mod_add 8 = .ok (.iadd, 1) := by decide +kernel
theorem d_Mod_add_9 : decode c_Mod_add 9 = .ok (.dup2, 1) := by decide +kernel
theorem d_Mod_add_10 : decode c_Mod_add 10 = .ok (.laload, 1) := by decide +kernel
theorem d_Mod_add_11 : decode c_Mod_add 11 = .ok (.lconst 1, 1) := by decide +kernel
theorem d_Mod_add_12 : decode c_Mod_add 12 = .ok (.iload_n 2, 1) := by decide +kernel
theorem d_Mod_add_13 : decode c_Mod_add 13 = .ok (.lshl, 1) := by decide +kernel
theorem d_Mod_add_14 : decode c_Mod_add 14 = .ok (.lor, 1) := by decide +kernel
theorem d_Mod_add_15 : decode c_Mod_add 15 = .ok (.lastore, 1) := by decide +kernel
theorem d_Mod_add_16 : decode c_Mod_add 16 = .ok (.return_, 1) := by decide +kernel
abbrev c_Mod_forbid : ByteArray := prog_11_method_14_code
abbrev y_Mod_forbid : MethodName := ⟨"FleetFloorModel", "forbid", "(I)V"⟩
theorem d_Mod_forbid_0 : decode c_Mod_forbid 0 = .ok (.iconst 0, 1) := by decide +kernel
theorem d_Mod_forbid_1 : decode c_Mod_forbid 1 = .ok (.istore_n 2, 1) := by decide +kernel
theorem d_Mod_forbid_2 : decode c_Mod_forbid 2 = .ok (.aload_n 0, 1) := by decide +kernel
theorem d_Mod_forbid_3 : decode c_Mod_forbid 3 = .ok (.getfield 16, 3) := by decide +kernel
theorem d_Mod_forbid_6 : decode c_Mod_forbid 6 = .ok (.iload_n 1, 1) := by decide +kernel
theorem d_Mod_forbid_7 : decode c_Mod_forbid 7 = .ok (.iaload, 1) := by decide +kernel
theorem d_Mod_forbid_8 : decode c_Mod_forbid 8 = .ok (.istore_n 3, 1) := by decide +kernel
theorem d_Mod_forbid_9 : decode c_Mod_forbid 9 = .ok (.aload_n 0, 1) := by decide +kernel
theorem d_Mod_forbid_10 : decode c_Mod_forbid 10 = .ok (.getfield 136, 3) := by decide +kernel
theorem d_Mod_forbid_13 : decode c_Mod_forbid 13 = .ok (.iconst 1, 1) := by decide +kernel
theorem d_Mod_forbid_14 : decode c_Mod_forbid 14 = .ok (.isub, 1) := by decide +kernel
theorem d_Mod_forbid_15 : decode c_Mod_forbid 15 = .ok (.istore 4, 2) := by decide +kernel
theorem d_Mod_forbid_17 : decode c_Mod_forbid 17 = .ok (.iload 4, 2) := by decide +kernel
theorem d_Mod_forbid_19 : decode c_Mod_forbid 19 = .ok (.aload_n 0, 1) := by decide +kernel
theorem d_Mod_forbid_20 : decode c_Mod_forbid 20 = .ok (.getfield 136, 3) := by decide +kernel
theorem d_Mod_forbid_23 : decode c_Mod_forbid 23 = .ok (.sipush 150, 3) := by decide +kernel
theorem d_Mod_forbid_26 : decode c_Mod_forbid 26 = .ok (.iadd, 1) := by decide +kernel
theorem d_Mod_forbid_27 : decode c_Mod_forbid 27 = .ok (.iconst 1, 1) := by decide +kernel
theorem d_Mod_forbid_28 : decode c_Mod_forbid 28 = .ok (.iadd, 1) := by decide +kernel
theorem d_Mod_forbid_29 : decode c_Mod_forbid 29 = .ok (.if_icmp .gt 162, 3) := by decide +kernel
theorem d_Mod_forbid_32 : decode c_Mod_forbid 32 = .ok (.iload_n 3, 1) := by decide +kernel
theorem d_Mod_forbid_33 : decode c_Mod_forbid 33 = .ok (.istore 5, 2) := by decide +kernel
theorem d_Mod_forbid_35 : decode c_Mod_forbid 35 = .ok (.iload_n 2, 1) := by decide +kernel
theorem d_Mod_forbid_36 : decode c_Mod_forbid 36 = .ok (.aload_n 0, 1) := by decide +kernel
theorem d_Mod_forbid_37 : decode c_Mod_forbid 37 = .ok (.getfield 71, 3) := by decide +kernel
theorem d_Mod_forbid_40 : decode c_Mod_forbid 40 = .ok (.iload_n 1, 1) := by decide +kernel
theorem d_Mod_forbid_41 : decode c_Mod_forbid 41 = .ok (.iaload, 1) := by decide +kernel
theorem d_Mod_forbid_42 : decode c_Mod_forbid 42 = .ok (.if_icmp .ge 37, 3) := by decide +kernel
theorem d_Mod_forbid_45 : decode c_Mod_forbid 45 = .ok (.aload_n 0, 1) := by decide +kernel
theorem d_Mod_forbid_46 : decode c_Mod_forbid 46 = .ok (.getfield 53, 3) := by decide +kernel
theorem d_Mod_forbid_49 : decode c_Mod_forbid 49 = .ok (.aload_n 0, 1) := by decide +kernel
theorem d_Mod_forbid_50 : decode c_Mod_forbid 50 = .ok (.iload_n 1, 1) := by decide +kernel
theorem d_Mod_forbid_51 : decode c_Mod_forbid 51 = .ok (.iload_n 2, 1) := by decide +kernel
theorem d_Mod_forbid_52 : decode c_Mod_forbid 52 = .ok (.invokevirtual 139, 3) := by decide +kernel
theorem d_Mod_forbid_55 : decode c_Mod_forbid 55 = .ok (.iaload, 1) := by decide +kernel
theorem d_Mod_forbid_56 : decode c_Mod_forbid 56 = .ok (.iload 4, 2) := by decide +kernel
theorem d_Mod_forbid_58 : decode c_Mod_forbid 58 = .ok (.if_icmp .gt 21, 3) := by decide +kernel
theorem d_Mod_forbid_61 : decode c_Mod_forbid 61 = .ok (.aload_n 0, 1) := by decide +kernel
theorem d_Mod_forbid_62 : decode c_Mod_forbid 62 = .ok (.getfield 50, 3) := by decide +kernel
theorem d_Mod_forbid_65 : decode c_Mod_forbid 65 = .ok (.aload_n 0, 1) := by decide +kernel
theorem d_Mod_forbid_66 : decode c_Mod_forbid 66 = .ok (.iload_n 1, 1) := by decide +kernel
theorem d_Mod_forbid_67 : decode c_Mod_forbid 67 = .ok (.iload_n 2, 1) := by decide +kernel
theorem d_Mod_forbid_68 : decode c_Mod_forbid 68 = .ok (.invokevirtual 139, 3) := by decide +kernel
theorem d_Mod_forbid_71 : decode c_Mod_forbid 71 = .ok (.iaload, 1) := by decide +kernel
theorem d_Mod_forbid_72 : decode c_Mod_forbid 72 = .ok (.istore_n 3, 1) := by decide +kernel
theorem d_Mod_forbid_73 : decode c_Mod_forbid 73 = .ok (.iinc 2 1, 3) := by decide +kernel
theorem d_Mod_forbid_76 : decode c_Mod_forbid 76 = .ok (.goto (-41), 3) := by decide +kernel
theorem d_Mod_forbid_79 : decode c_Mod_forbid 79 = .ok (.iload 4, 2) := by decide +kernel
theorem d_Mod_forbid_81 : decode c_Mod_forbid 81 = .ok (.aload_n 0, 1) := by decide +kernel
theorem d_Mod_forbid_82 : decode c_Mod_forbid 82 = .ok (.getfield 136, 3) := by decide +kernel
theorem d_Mod_forbid_85 : decode c_Mod_forbid 85 = .ok (.isub, 1) := by decide +kernel
theorem d_Mod_forbid_86 : decode c_Mod_forbid 86 = .ok (.istore 6, 2) := by decide +kernel
theorem d_Mod_forbid_88 : decode c_Mod_forbid 88 = .ok (.iload 6, 2) := by decide +kernel
theorem d_Mod_forbid_90 : decode c_Mod_forbid 90 = .ok (.iconst 0, 1) := by decide +kernel
theorem d_Mod_forbid_91 : decode c_Mod_forbid 91 = .ok (.sipush 150, 3) := by decide +kernel
theorem d_Mod_forbid_94 : decode c_Mod_forbid 94 = .ok (.invokestatic 104, 3) := by decide +kernel
theorem d_Mod_forbid_97 : decode c_Mod_forbid 97 = .ok (.ifCond .eq 13, 3) := by decide +kernel
theorem d_Mod_forbid_100 : decode c_Mod_forbid 100 = .ok (.aload_n 0, 1) := by decide +kernel
theorem d_Mod_forbid_101 : decode c_Mod_forbid 101 = .ok (.getfield 90, 3) := by decide +kernel
theorem d_Mod_forbid_104 : decode c_Mod_forbid 104 = .ok (.iload 6, 2) := by decide +kernel
theorem d_Mod_forbid_106 : decode c_Mod_forbid 106 = .ok (.iload_n 3, 1) := by decide +kernel
theorem d_Mod_forbid_107 : decode c_Mod_forbid 107 = .ok (.invokestatic 142, 3) := by decide +kernel
theorem d_Mod_forbid_110 : decode c_Mod_forbid 110 = .ok (.iload 6, 2) := by decide +kernel
theorem d_Mod_forbid_112 : decode c_Mod_forbid 112 = .ok (.iconst 1, 1) := by decide +kernel
theorem d_Mod_forbid_113 : decode c_Mod_forbid 113 = .ok (.iadd, 1) := by decide +kernel
theorem d_Mod_forbid_114 : decode c_Mod_forbid 114 = .ok (.iconst 0, 1) := by decide +kernel
theorem d_Mod_forbid_115 : decode c_Mod_forbid 115 = .ok (.sipush 150, 3) := by decide +kernel
theorem d_Mod_forbid_118 : decode c_Mod_forbid 118 = .ok (.invokestatic 104, 3) := by decide +kernel
theorem d_Mod_forbid_121 : decode c_Mod_forbid 121 = .ok (.ifCond .eq 15, 3) := by decide +kernel
theorem d_Mod_forbid_124 : decode c_Mod_forbid 124 = .ok (.aload_n 0, 1) := by decide +kernel
theorem d_Mod_forbid_125 : decode c_Mod_forbid 125 = .ok (.getfield 90, 3) := by decide +kernel
theorem d_Mod_forbid_128 : decode c_Mod_forbid 128 = .ok (.iload 6, 2) := by decide +kernel
theorem d_Mod_forbid_130 : decode c_Mod_forbid 130 = .ok (.iconst 1, 1) := by decide +kernel
theorem d_Mod_forbid_131 : decode c_Mod_forbid 131 = .ok (.iadd, 1) := by decide +kernel
theorem d_Mod_forbid_132 : decode c_Mod_forbid 132 = .ok (.iload_n 3, 1) := by decide +kernel
theorem d_Mod_forbid_133 : decode c_Mod_forbid 133 = .ok (.invokestatic 142, 3) := by decide +kernel
theorem d_Mod_forbid_136 : decode c_Mod_forbid 136 = .ok (.iload_n 3, 1) := by decide +kernel
theorem d_Mod_forbid_137 : decode c_Mod_forbid 137 = .ok (.iload 5, 2) := by decide +kernel
theorem d_Mod_forbid_139 : decode c_Mod_forbid 139 = .ok (.if_icmp .eq 46, 3) := by decide +kernel
theorem d_Mod_forbid_142 : decode c_Mod_forbid 142 = .ok (.iload 6, 2) := by decide +kernel
theorem d_Mod_forbid_144 : decode c_Mod_forbid 144 = .ok (.ifCond .ge 6, 3) := by decide +kernel
theorem d_Mod_forbid_147 : decode c_Mod_forbid 147 = .ok (.goto 38, 3) := by decide +kernel
theorem d_Mod_forbid_150 : decode c_Mod_forbid 150 = .ok (.iload 6, 2) := by decide +kernel
theorem d_Mod_forbid_152 : decode c_Mod_forbid 152 = .ok (.sipush 150, 3) := by decide +kernel
theorem d_Mod_forbid_155 : decode c_Mod_forbid 155 = .ok (.if_icmp .gt 13, 3) := by decide +kernel
theorem d_Mod_forbid_158 : decode c_Mod_forbid 158 = .ok (.aload_n 0, 1) := by decide +kernel
theorem d_Mod_forbid_159 : decode c_Mod_forbid 159 = .ok (.getfield 86, 3) := by decide +kernel
theorem d_Mod_forbid_162 : decode c_Mod_forbid 162 = .ok (.iload 6, 2) := by decide +kernel
theorem d_Mod_forbid_164 : decode c_Mod_forbid 164 = .ok (.iload_n 3, 1) := by decide +kernel
theorem d_Mod_forbid_165 : decode c_Mod_forbid 165 = .ok (.invokestatic 142, 3) := by decide +kernel
theorem d_Mod_forbid_168 : decode c_Mod_forbid 168 = .ok (.iload 6, 2) := by decide +kernel
theorem d_Mod_forbid_170 : decode c_Mod_forbid 170 = .ok (.ifCond .le 15, 3) := by decide +kernel
theorem d_Mod_forbid_173 : decode c_Mod_forbid 173 = .ok (.aload_n 0, 1) := by decide +kernel
theorem d_Mod_forbid_174 : decode c_Mod_forbid 174 = .ok (.getfield 86, 3) := by decide +kernel
theorem d_Mod_forbid_177 : decode c_Mod_forbid 177 = .ok (.iload 6, 2) := by decide +kernel
theorem d_Mod_forbid_179 : decode c_Mod_forbid 179 = .ok (.iconst 1, 1) := by decide +kernel
theorem d_Mod_forbid_180 : decode c_Mod_forbid 180 = .ok (.isub, 1) := by decide +kernel
theorem d_Mod_forbid_181 : decode c_Mod_forbid 181 = .ok (.iload_n 3, 1) := by decide +kernel
theorem d_Mod_forbid_182 : decode c_Mod_forbid 182 = .ok (.invokestatic 142, 3) := by decide +kernel
theorem d_Mod_forbid_185 : decode c_Mod_forbid 185 = .ok (.iinc 4 1, 3) := by decide +kernel
theorem d_Mod_forbid_188 : decode c_Mod_forbid 188 = .ok (.goto (-171), 3) := by decide +kernel
theorem d_Mod_forbid_191 : decode c_Mod_forbid 191 = .ok (.return_, 1) := by decide +kernel
abbrev c_Mod_forbidAll : ByteArray := prog_11_method_15_code
abbrev y_Mod_forbidAll : MethodName := ⟨"FleetFloorModel", "forbidAll", "()V"⟩
theorem d_Mod_forbidAll_0 : decode c_Mod_forbidAll 0 = .ok (.iconst 0, 1) := by decide +kernel
theorem d_Mod_forbidAll_1 : decode c_Mod_forbidAll 1 = .ok (.istore_n 1, 1) := by decide +kernel
theorem d_Mod_forbidAll_2 : decode c_Mod_forbidAll 2 = .ok (.iload_n 1, 1) := by decide +kernel
theorem d_Mod_forbidAll_3 : decode c_Mod_forbidAll 3 = .ok (.sipush 304, 3) := by decide +kernel
theorem d_Mod_forbidAll_6 : decode c_Mod_forbidAll 6 = .ok (.if_icmp .ge 23, 3) := by decide +kernel
theorem d_Mod_forbidAll_9 : decode c_Mod_forbidAll 9 = .ok (.aload_n 0, 1) := by decide +kernel
theorem d_Mod_forbidAll_10 : decode c_Mod_forbidAll 10 = .ok (.getfield 86, 3) := by decide +kernel
theorem d_Mod_forbidAll_13 : decode c_Mod_forbidAll 13 = .ok (.iload_n 1, 1) := by decide +kernel
theorem d_Mod_forbidAll_14 : decode c_Mod_forbidAll 14 = .ok (.lconst 0, 1) := by decide +kernel
theorem d_Mod_forbidAll_15 : decode c_Mod_forbidAll 15 = .ok (.lastore, 1) := by decide +kernel
theorem d_Mod_forbidAll_16 : decode c_Mod_forbidAll 16 = .ok (.aload_n 0, 1) := by decide +kernel
theorem d_Mod_forbidAll_17 : decode c_Mod_forbidAll 17 = .ok (.getfield 90, 3) := by decide +kernel
theorem d_Mod_forbidAll_20 : decode c_Mod_forbidAll 20 = .ok (.iload_n 1, 1) := by decide +kernel
theorem d_Mod_forbidAll_21 : decode c_Mod_forbidAll 21 = .ok (.lconst 0, 1) := by decide +kernel
theorem d_Mod_forbidAll_22 : decode c_Mod_forbidAll 22 = .ok (.lastore, 1) := by decide +kernel
theorem d_Mod_forbidAll_23 : decode c_Mod_forbidAll 23 = .ok (.iinc 1 1, 3) := by decide +kernel
theorem d_Mod_forbidAll_26 : decode c_Mod_forbidAll 26 = .ok (.goto (-24), 3) := by decide +kernel
theorem d_Mod_forbidAll_29 : decode c_Mod_forbidAll 29 = .ok (.iconst 0, 1) := by decide +kernel
theorem d_Mod_forbidAll_30 : decode c_Mod_forbidAll 30 = .ok (.istore_n 1, 1) := by decide +kernel
theorem d_Mod_forbidAll_31 : decode c_Mod_forbidAll 31 = .ok (.iload_n 1, 1) := by decide +kernel
theorem d_Mod_forbidAll_32 : decode c_Mod_forbidAll 32 = .ok (.aload_n 0, 1) := by decide +kernel
theorem d_Mod_forbidAll_33 : decode c_Mod_forbidAll 33 = .ok (.getfield 127, 3) := by decide +kernel
theorem d_Mod_forbidAll_36 : decode c_Mod_forbidAll 36 = .ok (.if_icmp .ge 22, 3) := by decide +kernel
theorem d_Mod_forbidAll_39 : decode c_Mod_forbidAll 39 = .ok (.iload_n 1, 1) := by decide +kernel
theorem d_Mod_forbidAll_40 : decode c_Mod_forbidAll 40 = .ok (.aload_n 0, 1) := by decide +kernel
theorem d_Mod_forbidAll_41 : decode c_Mod_forbidAll 41 = .ok (.getfield 146, 3) := by decide +kernel
theorem d_Mod_forbidAll_44 : decode c_Mod_forbidAll 44 = .ok (.if_icmp .eq 8, 3) := by decide +kernel
theorem d_Mod_forbidAll_47 : decode c_Mod_forbidAll 47 = .ok (.aload_n 0, 1) := by decide +kernel
theorem d_Mod_forbidAll_48 : decode c_Mod_forbidAll 48 = .ok (.iload_n 1, 1) := by decide +kernel
theorem d_Mod_forbidAll_49 : decode c_Mod_forbidAll 49 = .ok (.invokevirtual 149, 3) := by decide +kernel
theorem d_Mod_forbidAll_52 : decode c_Mod_forbidAll 52 = .ok (.iinc 1 1, 3) := by decide +kernel
theorem d_Mod_forbidAll_55 : decode c_Mod_forbidAll 55 = .ok (.goto (-24), 3) := by decide +kernel
theorem d_Mod_forbidAll_58 : decode c_Mod_forbidAll 58 = .ok (.return_, 1) := by decide +kernel
abbrev c_Mod_isOthers : ByteArray := prog_11_method_16_code
abbrev y_Mod_isOthers : MethodName := ⟨"FleetFloorModel", "isOthers", "(I)Z"⟩
theorem d_Mod_isOthers_0 : decode c_Mod_isOthers 0 = .ok (.aload_n 0, 1) := by decide +kernel
theorem d_Mod_isOthers_1 : decode c_Mod_isOthers 1 = .ok (.getfield 7, 3) := by decide +kernel
theorem d_Mod_isOthers_4 : decode c_Mod_isOthers 4 = .ok (.iload_n 1, 1) := by decide +kernel
theorem d_Mod_isOthers_5 : decode c_Mod_isOthers 5 = .ok (.iaload, 1) := by decide +kernel
theorem d_Mod_isOthers_6 : decode c_Mod_isOthers 6 = .ok (.iconst 3, 1) := by decide +kernel
theorem d_Mod_isOthers_7 : decode c_Mod_isOthers 7 = .ok (.if_icmp .ne 20, 3) := by decide +kernel
theorem d_Mod_isOthers_10 : decode c_Mod_isOthers 10 = .ok (.iload_n 1, 1) := by decide +kernel
theorem d_Mod_isOthers_11 : decode c_Mod_isOthers 11 = .ok (.aload_n 0, 1) := by decide +kernel
theorem d_Mod_isOthers_12 : decode c_Mod_isOthers 12 = .ok (.getfield 16, 3) := by decide +kernel
theorem d_Mod_isOthers_15 : decode c_Mod_isOthers 15 = .ok (.aload_n 0, 1) := by decide +kernel
theorem d_Mod_isOthers_16 : decode c_Mod_isOthers 16 = .ok (.getfield 146, 3) := by decide +kernel
theorem d_Mod_isOthers_19 : decode c_Mod_isOthers 19 = .ok (.iaload, 1) := by decide +kernel
theorem d_Mod_isOthers_20 : decode c_Mod_isOthers 20 = .ok (.if_icmp .eq 7, 3) := by decide +kernel
theorem d_Mod_isOthers_23 : decode c_Mod_isOthers 23 = .ok (.iconst 1, 1) := by decide +kernel
theorem d_Mod_isOthers_24 : decode c_Mod_isOthers 24 = .ok (.goto 4, 3) := by decide +kernel
theorem d_Mod_isOthers_27 : decode c_Mod_isOthers 27 = .ok (.iconst 0, 1) := by decide +kernel
theorem d_Mod_isOthers_28 : decode c_Mod_isOthers 28 = .ok (.ireturn, 1) := by decide +kernel
abbrev c_Mod_goes : ByteArray := prog_11_method_17_code
abbrev y_Mod_goes : MethodName := ⟨"FleetFloorModel", "goes", "(III)I"⟩
theorem d_Mod_goes_0 : decode c_Mod_goes 0 = .ok (.iload_n 1, 1) := by decide +kernel
theorem d_Mod_goes_1 : decode c_Mod_goes 1 = .ok (.iload_n 2, 1) := by decide +kernel
theorem d_Mod_goes_2 : decode c_Mod_goes 2 = .ok (.invokestatic 108, 3) := by decide +kernel
theorem d_Mod_goes_5 : decode c_Mod_goes 5 = .ok (.istore 4, 2) := by decide +kernel
theorem d_Mod_goes_7 : decode c_Mod_goes 7 = .ok (.iload 4, 2) := by decide +kernel
theorem d_Mod_goes_9 : decode c_Mod_goes 9 = .ok (.ifCond .lt 35, 3) := by decide +kernel
theorem d_Mod_goes_12 : decode c_Mod_goes 12 = .ok (.aload_n 0, 1) := by decide +kernel
theorem d_Mod_goes_13 : decode c_Mod_goes 13 = .ok (.getfield 7, 3) := by decide +kernel
theorem d_Mod_goes_16 : decode c_Mod_goes 16 = .ok (.iload 4, 2) := by decide +kernel
theorem d_Mod_goes_18 : decode c_Mod_goes 18 = .ok (.iaload, 1) := by decide +kernel
theorem d_Mod_goes_19 : decode c_Mod_goes 19 = .ok (.ifCond .eq 25, 3) := by decide +kernel
theorem d_Mod_goes_22 : decode c_Mod_goes 22 = .ok (.aload_n 0, 1) := by decide +kernel
theorem d_Mod_goes_23 : decode c_Mod_goes 23 = .ok (.iload 4, 2) := by decide +kernel
theorem d_Mod_goes_25 : decode c_Mod_goes 25 = .ok (.invokevirtual 153, 3) := by decide +kernel
theorem d_Mod_goes_28 : decode c_Mod_goes 28 = .ok (.ifCond .ne 16, 3) := by decide +kernel
theorem d_Mod_goes_31 : decode c_Mod_goes 31 = .ok (.aload_n 0, 1) := by decide +kernel
theorem d_Mod_goes_32 : decode c_Mod_goes 32 = .ok (.getfield 86, 3) := by decide +kernel
theorem d_Mod_goes_35 : decode c_Mod_goes 35 = .ok (.iload_n 3, 1) := by decide +kernel
theorem d_Mod_goes_36 : decode c_Mod_goes 36 = .ok (.iload 4, 2) := by decide +kernel
theorem d_Mod_goes_38 : decode c_Mod_goes 38 = .ok (.invokestatic 156, 3) := by decide +kernel
theorem d_Mod_goes_41 : decode c_Mod_goes 41 = .ok (.ifCond .eq 5, 3) := by decide +kernel
theorem d_Mod_goes_44 : decode c_Mod_goes 44 = .ok (.iconst (-1), 1) := by decide +kernel
theorem d_Mod_goes_45 : decode c_Mod_goes 45 = .ok (.ireturn, 1) := by decide +kernel
theorem d_Mod_goes_46 : decode c_Mod_goes 46 = .ok (.iload_n 2, 1) := by decide +kernel
theorem d_Mod_goes_47 : decode c_Mod_goes 47 = .ok (.iconst 4, 1) := by decide +kernel
theorem d_Mod_goes_48 : decode c_Mod_goes 48 = .ok (.if_icmp .ge 20, 3) := by decide +kernel
theorem d_Mod_goes_51 : decode c_Mod_goes 51 = .ok (.aload_n 0, 1) := by decide +kernel
theorem d_Mod_goes_52 : decode c_Mod_goes 52 = .ok (.getfield 90, 3) := by decide +kernel
theorem d_Mod_goes_55 : decode c_Mod_goes 55 = .ok (.iload_n 3, 1) := by decide +kernel
theorem d_Mod_goes_56 : decode c_Mod_goes 56 = .ok (.iload 4, 2) := by decide +kernel
theorem d_Mod_goes_58 : decode c_Mod_goes 58 = .ok (.invokestatic 156, 3) := by decide +kernel
theorem d_Mod_goes_61 : decode c_Mod_goes 61 = .ok (.ifCond .eq 7, 3) := by decide +kernel
theorem d_Mod_goes_64 : decode c_Mod_goes 64 = .ok (.iconst (-1), 1) := by decide +kernel
theorem d_Mod_goes_65 : decode c_Mod_goes 65 = .ok (.goto 5, 3) := by decide +kernel
theorem d_Mod_goes_68 : decode c_Mod_goes 68 = .ok (.iload 4, 2) := by decide +kernel
theorem d_Mod_goes_70 : decode c_Mod_goes 70 = .ok (.ireturn, 1) := by decide +kernel
abbrev c_Mod_doneAt : ByteArray := prog_11_method_18_code
abbrev y_Mod_doneAt : MethodName := ⟨"FleetFloorModel", "doneAt", "(III)I"⟩
theorem d_Mod_doneAt_0 : decode c_Mod_doneAt 0 = .ok (.iload_n 3, 1) := by decide +kernel
theorem d_Mod_doneAt_1 : decode c_Mod_doneAt 1 = .ok (.ifCond .ne 17, 3) := by decide +kernel
theorem d_Mod_doneAt_4 : decode c_Mod_doneAt 4 = .ok (.iload_n 2, 1) := by decide +kernel
theorem d_Mod_doneAt_5 : decode c_Mod_doneAt 5 = .ok (.aload_n 0, 1) := by decide +kernel
theorem d_Mod_doneAt_6 : decode c_Mod_doneAt 6 = .ok (.getfield 26, 3) := by decide +kernel
theorem d_Mod_doneAt_9 : decode c_Mod_doneAt 9 = .ok (.iload_n 1, 1) := by decide +kernel
theorem d_Mod_doneAt_10 : decode c_Mod_doneAt 10 = .ok (.iaload, 1) := by decide +kernel
theorem d_Mod_doneAt_11 : decode c_Mod_doneAt 11 = .ok (.if_icmp .ne 7, 3) := by decide +kernel
theorem d_Mod_doneAt_14 : decode c_Mod_doneAt 14 = .ok (.iconst 1, 1) := by decide +kernel
theorem d_Mod_doneAt_15 : decode c_Mod_doneAt 15 = .ok (.goto 4, 3) := by decide +kernel
theorem d_Mod_doneAt_18 : decode c_Mod_doneAt 18 = .ok (.iload_n 3, 1) := by decide +kernel
theorem d_Mod_doneAt_19 : decode c_Mod_doneAt 19 = .ok (.istore 4, 2) := by decide +kernel
theorem d_Mod_doneAt_21 : decode c_Mod_doneAt 21 = .ok (.iload 4, 2) := by decide +kernel
theorem d_Mod_doneAt_23 : decode c_Mod_doneAt 23 = .ok (.iconst 1, 1) := by decide +kernel
theorem d_Mod_doneAt_24 : decode c_Mod_doneAt 24 = .ok (.if_icmp .ne 17, 3) := by decide +kernel
theorem d_Mod_doneAt_27 : decode c_Mod_doneAt 27 = .ok (.iload_n 2, 1) := by decide +kernel
theorem d_Mod_doneAt_28 : decode c_Mod_doneAt 28 = .ok (.aload_n 0, 1) := by decide +kernel
theorem d_Mod_doneAt_29 : decode c_Mod_doneAt 29 = .ok (.getfield 29, 3) := by decide +kernel
theorem d_Mod_doneAt_32 : decode c_Mod_doneAt 32 = .ok (.iload_n 1, 1) := by decide +kernel
theorem d_Mod_doneAt_33 : decode c_Mod_doneAt 33 = .ok (.iaload, 1) := by decide +kernel
theorem d_Mod_doneAt_34 : decode c_Mod_doneAt 34 = .ok (.if_icmp .ne 7, 3) := by decide +kernel
theorem d_Mod_doneAt_37 : decode c_Mod_doneAt 37 = .ok (.iconst 2, 1) := by decide +kernel
theorem d_Mod_doneAt_38 : decode c_Mod_doneAt 38 = .ok (.goto 5, 3) := by decide +kernel
theorem d_Mod_doneAt_41 : decode c_Mod_doneAt 41 = .ok (.iload 4, 2) := by decide +kernel
theorem d_Mod_doneAt_43 : decode c_Mod_doneAt 43 = .ok (.ireturn, 1) := by decide +kernel
abbrev c_Mod_spread : ByteArray := prog_11_method_19_code
abbrev y_Mod_spread : MethodName := ⟨"FleetFloorModel", "spread", "(I)I"⟩
theorem d_Mod_spread_0 : decode c_Mod_spread 0 = .ok (.iconst 0, 1) := by decide +kernel
theorem d_Mod_spread_1 : decode c_Mod_spread 1 = .ok (.istore_n 2, 1) := by decide +kernel
theorem d_Mod_spread_2 : decode c_Mod_spread 2 = .ok (.iload_n 2, 1) := by decide +kernel
theorem d_Mod_spread_3 : decode c_Mod_spread 3 = .ok (.sipush 908, 3) := by decide +kernel
theorem d_Mod_spread_6 : decode c_Mod_spread 6 = .ok (.if_icmp .ge 16, 3) := by decide +kernel
theorem d_Mod_spread_9 : decode c_Mod_spread 9 = .ok (.aload_n 0, 1) := by decide +kernel
theorem d_Mod_spread_10 : decode c_Mod_spread 10 = .ok (.getfield 93, 3) := by decide +kernel
theorem d_Mod_spread_13 : decode c_Mod_spread 13 = .ok (.iload_n 2, 1) := by decide +kernel
theorem d_Mod_spread_14 : decode c_Mod_spread 14 = .ok (.lconst 0, 1) := by decide +kernel
theorem d_Mod_spread_15 : decode c_Mod_spread 15 = .ok (.lastore, 1) := by decide +kernel
theorem d_Mod_spread_16 : decode c_Mod_spread 16 = .ok (.iinc 2 1, 3) := by decide +kernel
theorem d_Mod_spread_19 : decode c_Mod_spread 19 = .ok (.goto (-17), 3) := by decide +kernel
theorem d_Mod_spread_22 : decode c_Mod_spread 22 = .ok (.aload_n 0, 1) := by decide +kernel
theorem d_Mod_spread_23 : decode c_Mod_spread 23 = .ok (.getfield 16, 3) := by decide +kernel
theorem d_Mod_spread_26 : decode c_Mod_spread 26 = .ok (.aload_n 0, 1) := by decide +kernel
theorem d_Mod_spread_27 : decode c_Mod_spread 27 = .ok (.getfield 146, 3) := by decide +kernel
theorem d_Mod_spread_30 : decode c_Mod_spread 30 = .ok (.iaload, 1) := by decide +kernel
theorem d_Mod_spread_31 : decode c_Mod_spread 31 = .ok (.istore_n 2, 1) := by decide +kernel
theorem d_Mod_spread_32 : decode c_Mod_spread 32 = .ok (.aload_n 0, 1) := by decide +kernel
theorem d_Mod_spread_33 : decode c_Mod_spread 33 = .ok (.getfield 93, 3) := by decide +kernel
theorem d_Mod_spread_36 : decode c_Mod_spread 36 = .ok (.iconst 0, 1) := by decide +kernel
theorem d_Mod_spread_37 : decode c_Mod_spread 37 = .ok (.iload_n 2, 1) := by decide +kernel
theorem d_Mod_spread_38 : decode c_Mod_spread 38 = .ok (.invokestatic 142, 3) := by decide +kernel
theorem d_Mod_spread_41 : decode c_Mod_spread 41 = .ok (.iconst 0, 1) := by decide +kernel
theorem d_Mod_spread_42 : decode c_Mod_spread 42 = .ok (.istore_n 3, 1) := by decide +kernel
theorem d_Mod_spread_43 : decode c_Mod_spread 43 = .ok (.iload_n 3, 1) := by decide +kernel
theorem d_Mod_spread_44 : decode c_Mod_spread 44 = .ok (.sipush 150, 3) := by decide +kernel
theorem d_Mod_spread_47 : decode c_Mod_spread 47 = .ok (.if_icmp .ge 88, 3) := by decide +kernel
theorem d_Mod_spread_50 : decode c_Mod_spread 50 = .ok (.iconst 0, 1) := by decide +kernel
theorem d_Mod_spread_51 : decode c_Mod_spread 51 = .ok (.istore 4, 2) := by decide +kernel
theorem d_Mod_spread_53 : decode c_Mod_spread 53 = .ok (.iload 4, 2) := by decide +kernel
theorem d_Mod_spread_55 : decode c_Mod_spread 55 = .ok (.iconst 3, 1) := by decide +kernel
theorem d_Mod_spread_56 : decode c_Mod_spread 56 = .ok (.if_icmp .ge 53, 3) := by decide +kernel
theorem d_Mod_spread_59 : decode c_Mod_spread 59 = .ok (.iconst 0, 1) := by decide +kernel
theorem d_Mod_spread_60 : decode c_Mod_spread 60 = .ok (.istore 5, 2) := by decide +kernel
theorem d_Mod_spread_62 : decode c_Mod_spread 62 = .ok (.iload 5, 2) := by decide +kernel
theorem d_Mod_spread_64 : decode c_Mod_spread 64 = .ok (.bipush 96, 2) := by decide +kernel
theorem d_Mod_spread_66 : decode c_Mod_spread 66 = .ok (.if_icmp .ge 37, 3) := by decide +kernel
theorem d_Mod_spread_69 : decode c_Mod_spread 69 = .ok (.aload_n 0, 1) := by decide +kernel
theorem d_Mod_spread_70 : decode c_Mod_spread 70 = .ok (.getfield 93, 3) := by decide +kernel
theorem d_Mod_spread_73 : decode c_Mod_spread 73 = .ok (.iconst 3, 1) := by decide +kernel
theorem d_Mod_spread_74 : decode c_Mod_spread 74 = .ok (.iload_n 3, 1) := by decide +kernel
theorem d_Mod_spread_75 : decode c_Mod_spread 75 = .ok (.imul, 1) := by decide +kernel
theorem d_Mod_spread_76 : decode c_Mod_spread 76 = .ok (.iload 4, 2) := by decide +kernel
theorem d_Mod_spread_78 : decode c_Mod_spread 78 = .ok (.iadd, 1) := by decide +kernel
theorem d_Mod_spread_79 : decode c_Mod_spread 79 = .ok (.iload 5, 2) := by decide +kernel
theorem d_Mod_spread_81 : decode c_Mod_spread 81 = .ok (.invokestatic 156, 3) := by decide +kernel
theorem d_Mod_spread_84 : decode c_Mod_spread 84 = .ok (.ifCond .eq 13, 3) := by decide +kernel
theorem d_Mod_spread_87 : decode c_Mod_spread 87 = .ok (.aload_n 0, 1) := by decide +kernel
theorem d_Mod_spread_88 : decode c_Mod_spread 88 = .ok (.iload_n 1, 1) := by decide +kernel
theorem d_Mod_spread_89 : decode c_Mod_spread 89 = .ok (.iload_n 3, 1) := by decide +kernel
theorem d_Mod_spread_90 : decode c_Mod_spread 90 = .ok (.iload 4, 2) := by decide +kernel
theorem d_Mod_spread_92 : decode c_Mod_spread 92 = .ok (.iload 5, 2) := by decide +kernel
theorem d_Mod_spread_94 : decode c_Mod_spread 94 = .ok (.invokevirtual 160, 3) := by decide +kernel
theorem d_Mod_spread_97 : decode c_Mod_spread 97 = .ok (.iinc 5 1, 3) := by decide +kernel
theorem d_Mod_spread_100 : decode c_Mod_spread 100 = .ok (.goto (-38), 3) := by decide +kernel
theorem d_Mod_spread_103 : decode c_Mod_spread 103 = .ok (.iinc 4 1, 3) := by decide +kernel
theorem d_Mod_spread_106 : decode c_Mod_spread 106 = .ok (.goto (-53), 3) := by decide +kernel
theorem d_Mod_spread_109 : decode c_Mod_spread 109 = .ok (.aload_n 0, 1) := by decide +kernel
theorem d_Mod_spread_110 : decode c_Mod_spread 110 = .ok (.getfield 93, 3) := by decide +kernel
theorem d_Mod_spread_113 : decode c_Mod_spread 113 = .ok (.iconst 3, 1) := by decide +kernel
theorem d_Mod_spread_114 : decode c_Mod_spread 114 = .ok (.iload_n 3, 1) := by decide +kernel
theorem d_Mod_spread_115 : decode c_Mod_spread 115 = .ok (.imul, 1) := by decide +kernel
theorem d_Mod_spread_116 : decode c_Mod_spread 116 = .ok (.iconst 5, 1) := by decide +kernel
theorem d_Mod_spread_117 : decode c_Mod_spread 117 = .ok (.iadd, 1) := by decide +kernel
theorem d_Mod_spread_118 : decode c_Mod_spread 118 = .ok (.iload_n 2, 1) := by decide +kernel
theorem d_Mod_spread_119 : decode c_Mod_spread 119 = .ok (.invokestatic 156, 3) := by decide +kernel
theorem d_Mod_spread_122 : decode c_Mod_spread 122 = .ok (.ifCond .eq 7, 3) := by decide +kernel
theorem d_Mod_spread_125 : decode c_Mod_spread 125 = .ok (.iload_n 3, 1) := by decide +kernel
theorem d_Mod_spread_126 : decode c_Mod_spread 126 = .ok (.iconst 1, 1) := by decide +kernel
theorem d_Mod_spread_127 : decode c_Mod_spread 127 = .ok (.iadd, 1) := by decide +kernel
theorem d_Mod_spread_128 : decode c_Mod_spread 128 = .ok (.ireturn, 1) := by decide +kernel
theorem d_Mod_spread_129 : decode c_Mod_spread 129 = .ok (.iinc 3 1, 3) := by decide +kernel
theorem d_Mod_spread_132 : decode c_Mod_spread 132 = .ok (.goto (-89), 3) := by decide +kernel
theorem d_Mod_spread_135 : decode c_Mod_spread 135 = .ok (.iconst (-1), 1) := by decide +kernel
theorem d_Mod_spread_136 : decode c_Mod_spread 136 = .ok (.ireturn, 1) := by decide +kernel
abbrev c_Mod_spreadFrom : ByteArray := prog_11_method_20_code
abbrev y_Mod_spreadFrom : MethodName := ⟨"FleetFloorModel", "spreadFrom", "(IIII)V"⟩
theorem d_Mod_spreadFrom_0 : decode c_Mod_spreadFrom 0 = .ok (.iconst 0, 1) := by decide +kernel
theorem d_Mod_spreadFrom_1 : decode c_Mod_spreadFrom 1 = .ok (.istore 5, 2) := by decide +kernel
theorem d_Mod_spreadFrom_3 : decode c_Mod_spreadFrom 3 = .ok (.iload 5, 2) := by decide +kernel
theorem d_Mod_spreadFrom_5 : decode c_Mod_spreadFrom 5 = .ok (.iconst 4, 1) := by decide +kernel
theorem d_Mod_spreadFrom_6 : decode c_Mod_spreadFrom 6 = .ok (.if_icmp .gt 50, 3) := by decide +kernel
theorem d_Mod_spreadFrom_9 : decode c_Mod_spreadFrom 9 = .ok (.aload_n 0, 1) := by decide +kernel
theorem d_Mod_spreadFrom_10 : decode c_Mod_spreadFrom 10 = .ok (.iload 4, 2) := by decide +kernel
theorem d_Mod_spreadFrom_12 : decode c_Mod_spreadFrom 12 = .ok (.iload 5, 2) := by decide +kernel
theorem d_Mod_spreadFrom_14 : decode c_Mod_spreadFrom 14 = .ok (.iload_n 2, 1) := by decide +kernel
theorem d_Mod_spreadFrom_15 : decode c_Mod_spreadFrom 15 = .ok (.iconst 1, 1) := by decide +kernel
theorem d_Mod_spreadFrom_16 : decode c_Mod_spreadFrom 16 = .ok (.iadd, 1) := by decide +kernel
theorem d_Mod_spreadFrom_17 : decode c_Mod_spreadFrom 17 = .ok (.invokevirtual 164, 3) := by decide +kernel
theorem d_Mod_spreadFrom_20 : decode c_Mod_spreadFrom 20 = .ok (.istore 6, 2) := by decide +kernel
theorem d_Mod_spreadFrom_22 : decode c_Mod_spreadFrom 22 = .ok (.iload 6, 2) := by decide +kernel
theorem d_Mod_spreadFrom_24 : decode c_Mod_spreadFrom 24 = .ok (.ifCond .lt 26, 3) := by decide +kernel
theorem d_Mod_spreadFrom_27 : decode c_Mod_spreadFrom 27 = .ok (.aload_n 0, 1) := by decide +kernel
theorem d_Mod_spreadFrom_28 : decode c_Mod_spreadFrom 28 = .ok (.getfield 93, 3) := by decide +kernel
theorem d_Mod_spreadFrom_31 : decode c_Mod_spreadFrom 31 = .ok (.iconst 3, 1) := by decide +kernel
theorem d_Mod_spreadFrom_32 : decode c_Mod_spreadFrom 32 = .ok (.iload_n 2, 1) := by decide +kernel
theorem d_Mod_spreadFrom_33 : decode c_Mod_spreadFrom 33 = .ok (.imul, 1) := by decide +kernel
theorem d_Mod_spreadFrom_34 : decode c_Mod_spreadFrom 34 = .ok (.iconst 3, 1) := by decide +kernel
theorem d_Mod_spreadFrom_35 : decode c_Mod_spreadFrom 35 = .ok (.iadd, 1) := by decide +kernel
theorem d_Mod_spreadFrom_36 : decode c_Mod_spreadFrom 36 = .ok (.aload_n 0, 1) := by decide +kernel
theorem d_Mod_spreadFrom_37 : decode c_Mod_spreadFrom 37 = .ok (.iload_n 1, 1) := by decide +kernel
theorem d_Mod_spreadFrom_38 : decode c_Mod_spreadFrom 38 = .ok (.iload 6, 2) := by decide +kernel
theorem d_Mod_spreadFrom_40 : decode c_Mod_spreadFrom 40 = .ok (.iload_n 3, 1) := by decide +kernel
theorem d_Mod_spreadFrom_41 : decode c_Mod_spreadFrom 41 = .ok (.invokevirtual 168, 3) := by decide +kernel
theorem d_Mod_spreadFrom_44 : decode c_Mod_spreadFrom 44 = .ok (.iadd, 1) := by decide +kernel
theorem d_Mod_spreadFrom_45 : decode c_Mod_spreadFrom 45 = .ok (.iload 6, 2) := by decide +kernel
theorem d_Mod_spreadFrom_47 : decode c_Mod_spreadFrom 47 = .ok (.invokestatic 142, 3) := by decide +kernel
theorem d_Mod_spreadFrom_50 : decode c_Mod_spreadFrom 50 = .ok (.iinc 5 1, 3) := by decide +kernel
theorem d_Mod_spreadFrom_53 : decode c_Mod_spreadFrom 53 = .ok (.goto (-50), 3) := by decide +kernel
theorem d_Mod_spreadFrom_56 : decode c_Mod_spreadFrom 56 = .ok (.return_, 1) := by decide +kernel
abbrev c_Mod_lowest : ByteArray := prog_11_method_21_code
abbrev y_Mod_lowest : MethodName := ⟨"FleetFloorModel", "lowest", "(IIII)I"⟩
theorem d_Mod_lowest_0 : decode c_Mod_lowest 0 = .ok (.iconst 0, 1) := by decide +kernel
theorem d_Mod_lowest_1 : decode c_Mod_lowest 1 = .ok (.istore 5, 2) := by decide +kernel
theorem d_Mod_lowest_3 : decode c_Mod_lowest 3 = .ok (.iload 5, 2) := by decide +kernel
theorem d_Mod_lowest_5 : decode c_Mod_lowest 5 = .ok (.iconst 4, 1) := by decide +kernel
theorem d_Mod_lowest_6 : decode c_Mod_lowest 6 = .ok (.if_icmp .gt 56, 3) := by decide +kernel
theorem d_Mod_lowest_9 : decode c_Mod_lowest 9 = .ok (.aload_n 0, 1) := by decide +kernel
theorem d_Mod_lowest_10 : decode c_Mod_lowest 10 = .ok (.iload 4, 2) := by decide +kernel
theorem d_Mod_lowest_12 : decode c_Mod_lowest 12 = .ok (.iload 5, 2) := by decide +kernel
theorem d_Mod_lowest_14 : decode c_Mod_lowest 14 = .ok (.iload_n 2, 1) := by decide +kernel
theorem d_Mod_lowest_15 : decode c_Mod_lowest 15 = .ok (.iconst 1, 1) := by decide +kernel
theorem d_Mod_lowest_16 : decode c_Mod_lowest 16 = .ok (.iadd, 1) := by decide +kernel
theorem d_Mod_lowest_17 : decode c_Mod_lowest 17 = .ok (.invokevirtual 164, 3) := by decide +kernel
theorem d_Mod_lowest_20 : decode c_Mod_lowest 20 = .ok (.istore 6, 2) := by decide +kernel
theorem d_Mod_lowest_22 : decode c_Mod_lowest 22 = .ok (.iload 6, 2) := by decide +kernel
theorem d_Mod_lowest_24 : decode c_Mod_lowest 24 = .ok (.ifCond .lt 32, 3) := by decide +kernel
theorem d_Mod_lowest_27 : decode c_Mod_lowest 27 = .ok (.aload_n 0, 1) := by decide +kernel
theorem d_Mod_lowest_28 : decode c_Mod_lowest 28 = .ok (.getfield 93, 3) := by decide +kernel
theorem d_Mod_lowest_31 : decode c_Mod_lowest 31 = .ok (.iconst 3, 1) := by decide +kernel
theorem d_Mod_lowest_32 : decode c_Mod_lowest 32 = .ok (.iload_n 2, 1) := by decide +kernel
theorem d_Mod_lowest_33 : decode c_Mod_lowest 33 = .ok (.imul, 1) := by decide +kernel
theorem d_Mod_lowest_34 : decode c_Mod_lowest 34 = .ok (.iconst 3, 1) := by decide +kernel
theorem d_Mod_lowest_35 : decode c_Mod_lowest 35 = .ok (.iadd, 1) := by decide +kernel
theorem d_Mod_lowest_36 : decode c_Mod_lowest 36 = .ok (.aload_n 0, 1) := by decide +kernel
theorem d_Mod_lowest_37 : decode c_Mod_lowest 37 = .ok (.iload_n 1, 1) := by decide +kernel
theorem d_Mod_lowest_38 : decode c_Mod_lowest 38 = .ok (.iload 6, 2) := by decide +kernel
theorem d_Mod_lowest_40 : decode c_Mod_lowest 40 = .ok (.iload_n 3, 1) := by decide +kernel
theorem d_Mod_lowest_41 : decode c_Mod_lowest 41 = .ok (.invokevirtual 168, 3) := by decide +kernel
theorem d_Mod_lowest_44 : decode c_Mod_lowest 44 = .ok (.iadd, 1) := by decide +kernel
theorem d_Mod_lowest_45 : decode c_Mod_lowest 45 = .ok (.iload 6, 2) := by decide +kernel
theorem d_Mod_lowest_47 : decode c_Mod_lowest 47 = .ok (.invokestatic 156, 3) := by decide +kernel
theorem d_Mod_lowest_50 : decode c_Mod_lowest 50 = .ok (.ifCond .eq 6, 3) := by decide +kernel
theorem d_Mod_lowest_53 : decode c_Mod_lowest 53 = .ok (.iload 5, 2) := by decide +kernel
theorem d_Mod_lowest_55 : decode c_Mod_lowest 55 = .ok (.ireturn, 1) := by decide +kernel
theorem d_Mod_lowest_56 : decode c_Mod_lowest 56 = .ok (.iinc 5 1, 3) := by decide +kernel
theorem d_Mod_lowest_59 : decode c_Mod_lowest 59 = .ok (.goto (-56), 3) := by decide +kernel
theorem d_Mod_lowest_62 : decode c_Mod_lowest 62 = .ok (.iconst (-1), 1) := by decide +kernel
theorem d_Mod_lowest_63 : decode c_Mod_lowest 63 = .ok (.ireturn, 1) := by decide +kernel
end
